def lwLo (g : Gm) (b : Nat) (i : Int) : List (Nat × Value) := [(4, vi i), (0, .ref b), (1, .ref (gad g 0)), (2, .ref (gad g 101)), (3, .ref (gad g 146))]
theorem J_iaddS {x : Ct} {y : Sy} {g : Gm} {nL nf nlc : Nat} {cc : ByteArray} {own : String} {pc : Nat} {lo : List (Nat × Value)} {st : List Value} {σ : Sg} (C : Cx x y g nL cc own nf nlc) {a b : Int} (hr : rg (a + b)) (d : decode cc pc = .ok (.iadd, 1)) (k : J x y g nL (pc + 1) lo (vi (a + b) :: st) σ) : J x y g nL pc lo (vi b :: vi a :: st) σ :=
  J_iadd C (K := fun v => some v) (o := a + b) d (by unfold ck; rw [if_pos hr]) (fun v _ e => by cases e; exact k)
theorem ml_RL_28 : Cond.methodLink RL 28 yX11_begin ∈ okw := okw_in (List.mem_of_getElem? (i := 455) (by decide +kernel)) (by decide +kernel)
theorem mw_X11_begin : MV yX11_begin cX11_begin 1 (some .int) 0 := ⟨⟨okw_in (List.mem_of_getElem? (i := 458) (by decide +kernel)) (by decide +kernel), okw_in (List.mem_of_getElem? (i := 67) (by decide +kernel)) (by decide +kernel), by decide, by decide, by decide +kernel⟩, okw_in (List.mem_of_getElem? (i := 456) (by decide +kernel)) (by decide +kernel), okw_in (List.mem_of_getElem? (i := 457) (by decide +kernel)) (by decide +kernel)⟩
theorem ml_RL_32 : Cond.methodLink RL 32 yX12_begin ∈ okw := okw_in (List.mem_of_getElem? (i := 1447) (by decide +kernel)) (by decide +kernel)
theorem ml_RL_33 : Cond.methodLink RL 33 yX11_cell ∈ okw := okw_in (List.mem_of_getElem? (i := 488) (by decide +kernel)) (by decide +kernel)
theorem mw_X11_cell : MV yX11_cell cX11_cell 5 (some .int) 3 := ⟨⟨okw_in (List.mem_of_getElem? (i := 491) (by decide +kernel)) (by decide +kernel), okw_in (List.mem_of_getElem? (i := 67) (by decide +kernel)) (by decide +kernel), by decide, by decide, by decide +kernel⟩, okw_in (List.mem_of_getElem? (i := 489) (by decide +kernel)) (by decide +kernel), okw_in (List.mem_of_getElem? (i := 490) (by decide +kernel)) (by decide +kernel)⟩
theorem ml_RL_37 : Cond.methodLink RL 37 yX12_cell ∈ okw := okw_in (List.mem_of_getElem? (i := 1448) (by decide +kernel)) (by decide +kernel)
theorem mw_X12_cell : MV yX12_cell cX12_cell 5 (some .int) 3 := ⟨⟨okw_in (List.mem_of_getElem? (i := 1451) (by decide +kernel)) (by decide +kernel), okw_in (List.mem_of_getElem? (i := 79) (by decide +kernel)) (by decide +kernel), by decide, by decide, by decide +kernel⟩, okw_in (List.mem_of_getElem? (i := 1449) (by decide +kernel)) (by decide +kernel), okw_in (List.mem_of_getElem? (i := 1450) (by decide +kernel)) (by decide +kernel)⟩
theorem ml_RL_38 : Cond.methodLink RL 38 yX11_kind ∈ okw := okw_in (List.mem_of_getElem? (i := 500) (by decide +kernel)) (by decide +kernel)
theorem mw_X11_kind : MV yX11_kind cX11_kind 6 (some .int) 5 := ⟨⟨okw_in (List.mem_of_getElem? (i := 503) (by decide +kernel)) (by decide +kernel), okw_in (List.mem_of_getElem? (i := 67) (by decide +kernel)) (by decide +kernel), by decide, by decide, by decide +kernel⟩, okw_in (List.mem_of_getElem? (i := 501) (by decide +kernel)) (by decide +kernel), okw_in (List.mem_of_getElem? (i := 502) (by decide +kernel)) (by decide +kernel)⟩
theorem ml_RL_42 : Cond.methodLink RL 42 yX12_kind ∈ okw := okw_in (List.mem_of_getElem? (i := 1455) (by decide +kernel)) (by decide +kernel)
theorem mw_X12_kind : MV yX12_kind cX12_kind 7 (some .int) 5 := ⟨⟨okw_in (List.mem_of_getElem? (i := 1458) (by decide +kernel)) (by decide +kernel), okw_in (List.mem_of_getElem? (i := 79) (by decide +kernel)) (by decide +kernel), by decide, by decide, by decide +kernel⟩, okw_in (List.mem_of_getElem? (i := 1456) (by decide +kernel)) (by decide +kernel), okw_in (List.mem_of_getElem? (i := 1457) (by decide +kernel)) (by decide +kernel)⟩
theorem ml_RL_43 : Cond.methodLink RL 43 yX11_barge ∈ okw := okw_in (List.mem_of_getElem? (i := 562) (by decide +kernel)) (by decide +kernel)
theorem mw_X11_barge : MV yX11_barge cX11_barge 5 (some .int) 4 := ⟨⟨okw_in (List.mem_of_getElem? (i := 565) (by decide +kernel)) (by decide +kernel), okw_in (List.mem_of_getElem? (i := 67) (by decide +kernel)) (by decide +kernel), by decide, by decide, by decide +kernel⟩, okw_in (List.mem_of_getElem? (i := 563) (by decide +kernel)) (by decide +kernel), okw_in (List.mem_of_getElem? (i := 564) (by decide +kernel)) (by decide +kernel)⟩
theorem ml_RL_47 : Cond.methodLink RL 47 yX12_barge ∈ okw := okw_in (List.mem_of_getElem? (i := 1460) (by decide +kernel)) (by decide +kernel)
theorem mw_X12_barge : MV yX12_barge cX12_barge 5 (some .int) 4 := ⟨⟨okw_in (List.mem_of_getElem? (i := 1463) (by decide +kernel)) (by decide +kernel), okw_in (List.mem_of_getElem? (i := 79) (by decide +kernel)) (by decide +kernel), by decide, by decide, by decide +kernel⟩, okw_in (List.mem_of_getElem? (i := 1461) (by decide +kernel)) (by decide +kernel), okw_in (List.mem_of_getElem? (i := 1462) (by decide +kernel)) (by decide +kernel)⟩
theorem ml_RL_48 : Cond.methodLink RL 48 yX11_wind ∈ okw := okw_in (List.mem_of_getElem? (i := 570) (by decide +kernel)) (by decide +kernel)
theorem mw_X11_wind : MV yX11_wind cX11_wind 5 (some .int) 4 := ⟨⟨okw_in (List.mem_of_getElem? (i := 573) (by decide +kernel)) (by decide +kernel), okw_in (List.mem_of_getElem? (i := 67) (by decide +kernel)) (by decide +kernel), by decide, by decide, by decide +kernel⟩, okw_in (List.mem_of_getElem? (i := 571) (by decide +kernel)) (by decide +kernel), okw_in (List.mem_of_getElem? (i := 572) (by decide +kernel)) (by decide +kernel)⟩
theorem ml_RL_51 : Cond.methodLink RL 51 yX12_wind ∈ okw := okw_in (List.mem_of_getElem? (i := 1464) (by decide +kernel)) (by decide +kernel)
theorem mw_X12_wind : MV yX12_wind cX12_wind 5 (some .int) 4 := ⟨⟨okw_in (List.mem_of_getElem? (i := 1467) (by decide +kernel)) (by decide +kernel), okw_in (List.mem_of_getElem? (i := 79) (by decide +kernel)) (by decide +kernel), by decide, by decide, by decide +kernel⟩, okw_in (List.mem_of_getElem? (i := 1465) (by decide +kernel)) (by decide +kernel), okw_in (List.mem_of_getElem? (i := 1466) (by decide +kernel)) (by decide +kernel)⟩
theorem ml_RL_52 : Cond.methodLink RL 52 yX11_apart ∈ okw := okw_in (List.mem_of_getElem? (i := 585) (by decide +kernel)) (by decide +kernel)
theorem mw_X11_apart : MV yX11_apart cX11_apart 3 (some .int) 1 := ⟨⟨okw_in (List.mem_of_getElem? (i := 588) (by decide +kernel)) (by decide +kernel), okw_in (List.mem_of_getElem? (i := 67) (by decide +kernel)) (by decide +kernel), by decide, by decide, by decide +kernel⟩, okw_in (List.mem_of_getElem? (i := 586) (by decide +kernel)) (by decide +kernel), okw_in (List.mem_of_getElem? (i := 587) (by decide +kernel)) (by decide +kernel)⟩
theorem ml_RL_56 : Cond.methodLink RL 56 yX12_apart ∈ okw := okw_in (List.mem_of_getElem? (i := 1468) (by decide +kernel)) (by decide +kernel)
theorem mw_X12_apart : MV yX12_apart cX12_apart 3 (some .int) 1 := ⟨⟨okw_in (List.mem_of_getElem? (i := 1471) (by decide +kernel)) (by decide +kernel), okw_in (List.mem_of_getElem? (i := 79) (by decide +kernel)) (by decide +kernel), by decide, by decide, by decide +kernel⟩, okw_in (List.mem_of_getElem? (i := 1469) (by decide +kernel)) (by decide +kernel), okw_in (List.mem_of_getElem? (i := 1470) (by decide +kernel)) (by decide +kernel)⟩
theorem ml_RL_57 : Cond.methodLink RL 57 yX11_may ∈ okw := okw_in (List.mem_of_getElem? (i := 589) (by decide +kernel)) (by decide +kernel)
theorem mw_X11_may : MV yX11_may cX11_may 3 (some .int) 2 := ⟨⟨okw_in (List.mem_of_getElem? (i := 592) (by decide +kernel)) (by decide +kernel), okw_in (List.mem_of_getElem? (i := 67) (by decide +kernel)) (by decide +kernel), by decide, by decide, by decide +kernel⟩, okw_in (List.mem_of_getElem? (i := 590) (by decide +kernel)) (by decide +kernel), okw_in (List.mem_of_getElem? (i := 591) (by decide +kernel)) (by decide +kernel)⟩
theorem ml_RL_60 : Cond.methodLink RL 60 yX12_may ∈ okw := okw_in (List.mem_of_getElem? (i := 1472) (by decide +kernel)) (by decide +kernel)
theorem mw_X12_may : MV yX12_may cX12_may 3 (some .int) 2 := ⟨⟨okw_in (List.mem_of_getElem? (i := 1475) (by decide +kernel)) (by decide +kernel), okw_in (List.mem_of_getElem? (i := 79) (by decide +kernel)) (by decide +kernel), by decide, by decide, by decide +kernel⟩, okw_in (List.mem_of_getElem? (i := 1473) (by decide +kernel)) (by decide +kernel), okw_in (List.mem_of_getElem? (i := 1474) (by decide +kernel)) (by decide +kernel)⟩
theorem ml_RL_61 : Cond.methodLink RL 61 yX11_safe ∈ okw := okw_in (List.mem_of_getElem? (i := 608) (by decide +kernel)) (by decide +kernel)
theorem mw_X11_safe : MV yX11_safe cX11_safe 5 (some .int) 4 := ⟨⟨okw_in (List.mem_of_getElem? (i := 611) (by decide +kernel)) (by decide +kernel), okw_in (List.mem_of_getElem? (i := 67) (by decide +kernel)) (by decide +kernel), by decide, by decide, by decide +kernel⟩, okw_in (List.mem_of_getElem? (i := 609) (by decide +kernel)) (by decide +kernel), okw_in (List.mem_of_getElem? (i := 610) (by decide +kernel)) (by decide +kernel)⟩
theorem ml_RL_64 : Cond.methodLink RL 64 yX12_safe ∈ okw := okw_in (List.mem_of_getElem? (i := 1491) (by decide +kernel)) (by decide +kernel)
theorem mw_X12_safe : MV yX12_safe cX12_safe 5 (some .int) 4 := ⟨⟨okw_in (List.mem_of_getElem? (i := 1494) (by decide +kernel)) (by decide +kernel), okw_in (List.mem_of_getElem? (i := 79) (by decide +kernel)) (by decide +kernel), by decide, by decide, by decide +kernel⟩, okw_in (List.mem_of_getElem? (i := 1492) (by decide +kernel)) (by decide +kernel), okw_in (List.mem_of_getElem? (i := 1493) (by decide +kernel)) (by decide +kernel)⟩
theorem ml_RL_65 : Cond.methodLink RL 65 yX11_hot ∈ okw := okw_in (List.mem_of_getElem? (i := 651) (by decide +kernel)) (by decide +kernel)
theorem mw_X11_hot : MV yX11_hot cX11_hot 6 (some .int) 5 := ⟨⟨okw_in (List.mem_of_getElem? (i := 654) (by decide +kernel)) (by decide +kernel), okw_in (List.mem_of_getElem? (i := 67) (by decide +kernel)) (by decide +kernel), by decide, by decide, by decide +kernel⟩, okw_in (List.mem_of_getElem? (i := 652) (by decide +kernel)) (by decide +kernel), okw_in (List.mem_of_getElem? (i := 653) (by decide +kernel)) (by decide +kernel)⟩
theorem ml_RL_68 : Cond.methodLink RL 68 yX12_hot ∈ okw := okw_in (List.mem_of_getElem? (i := 1507) (by decide +kernel)) (by decide +kernel)
theorem mw_X12_hot : MV yX12_hot cX12_hot 6 (some .int) 5 := ⟨⟨okw_in (List.mem_of_getElem? (i := 1510) (by decide +kernel)) (by decide +kernel), okw_in (List.mem_of_getElem? (i := 79) (by decide +kernel)) (by decide +kernel), by decide, by decide, by decide +kernel⟩, okw_in (List.mem_of_getElem? (i := 1508) (by decide +kernel)) (by decide +kernel), okw_in (List.mem_of_getElem? (i := 1509) (by decide +kernel)) (by decide +kernel)⟩
theorem ml_RL_69 : Cond.methodLink RL 69 yX11_write ∈ okw := okw_in (List.mem_of_getElem? (i := 657) (by decide +kernel)) (by decide +kernel)
theorem mw_X11_write : MV yX11_write cX11_write 5 (some .int) 1 := ⟨⟨okw_in (List.mem_of_getElem? (i := 660) (by decide +kernel)) (by decide +kernel), okw_in (List.mem_of_getElem? (i := 67) (by decide +kernel)) (by decide +kernel), by decide, by decide, by decide +kernel⟩, okw_in (List.mem_of_getElem? (i := 658) (by decide +kernel)) (by decide +kernel), okw_in (List.mem_of_getElem? (i := 659) (by decide +kernel)) (by decide +kernel)⟩
theorem ml_RL_72 : Cond.methodLink RL 72 yX12_write ∈ okw := okw_in (List.mem_of_getElem? (i := 1511) (by decide +kernel)) (by decide +kernel)
theorem mw_X12_write : MV yX12_write cX12_write 5 (some .int) 1 := ⟨⟨okw_in (List.mem_of_getElem? (i := 1514) (by decide +kernel)) (by decide +kernel), okw_in (List.mem_of_getElem? (i := 79) (by decide +kernel)) (by decide +kernel), by decide, by decide, by decide +kernel⟩, okw_in (List.mem_of_getElem? (i := 1512) (by decide +kernel)) (by decide +kernel), okw_in (List.mem_of_getElem? (i := 1513) (by decide +kernel)) (by decide +kernel)⟩
theorem ml_RL_82 : Cond.methodLink RL 82 yX11_stretch ∈ okw := okw_in (List.mem_of_getElem? (i := 759) (by decide +kernel)) (by decide +kernel)
theorem mw_X11_stretch : MV yX11_stretch cX11_stretch 8 (some .int) 3 := ⟨⟨okw_in (List.mem_of_getElem? (i := 762) (by decide +kernel)) (by decide +kernel), okw_in (List.mem_of_getElem? (i := 67) (by decide +kernel)) (by decide +kernel), by decide, by decide, by decide +kernel⟩, okw_in (List.mem_of_getElem? (i := 760) (by decide +kernel)) (by decide +kernel), okw_in (List.mem_of_getElem? (i := 761) (by decide +kernel)) (by decide +kernel)⟩
theorem ml_RL_85 : Cond.methodLink RL 85 yX12_stretch ∈ okw := okw_in (List.mem_of_getElem? (i := 1558) (by decide +kernel)) (by decide +kernel)
theorem mw_X12_stretch : MV yX12_stretch cX12_stretch 7 (some .int) 3 := ⟨⟨okw_in (List.mem_of_getElem? (i := 1561) (by decide +kernel)) (by decide +kernel), okw_in (List.mem_of_getElem? (i := 79) (by decide +kernel)) (by decide +kernel), by decide, by decide, by decide +kernel⟩, okw_in (List.mem_of_getElem? (i := 1559) (by decide +kernel)) (by decide +kernel), okw_in (List.mem_of_getElem? (i := 1560) (by decide +kernel)) (by decide +kernel)⟩
theorem ml_RL_86 : Cond.methodLink RL 86 yX11_lay ∈ okw := okw_in (List.mem_of_getElem? (i := 774) (by decide +kernel)) (by decide +kernel)
theorem mw_X11_lay : MV yX11_lay cX11_lay 2 (some .int) 1 := ⟨⟨okw_in (List.mem_of_getElem? (i := 777) (by decide +kernel)) (by decide +kernel), okw_in (List.mem_of_getElem? (i := 67) (by decide +kernel)) (by decide +kernel), by decide, by decide, by decide +kernel⟩, okw_in (List.mem_of_getElem? (i := 775) (by decide +kernel)) (by decide +kernel), okw_in (List.mem_of_getElem? (i := 776) (by decide +kernel)) (by decide +kernel)⟩
theorem ml_RL_89 : Cond.methodLink RL 89 yX12_lay ∈ okw := okw_in (List.mem_of_getElem? (i := 1565) (by decide +kernel)) (by decide +kernel)
theorem mw_X12_lay : MV yX12_lay cX12_lay 3 (some .int) 1 := ⟨⟨okw_in (List.mem_of_getElem? (i := 1568) (by decide +kernel)) (by decide +kernel), okw_in (List.mem_of_getElem? (i := 79) (by decide +kernel)) (by decide +kernel), by decide, by decide, by decide +kernel⟩, okw_in (List.mem_of_getElem? (i := 1566) (by decide +kernel)) (by decide +kernel), okw_in (List.mem_of_getElem? (i := 1567) (by decide +kernel)) (by decide +kernel)⟩
theorem ml_RL_90 : Cond.methodLink RL 90 yX11_proof ∈ okw := okw_in (List.mem_of_getElem? (i := 860) (by decide +kernel)) (by decide +kernel)
theorem mw_X11_proof : MV yX11_proof cX11_proof 6 (some .int) 2 := ⟨⟨okw_in (List.mem_of_getElem? (i := 863) (by decide +kernel)) (by decide +kernel), okw_in (List.mem_of_getElem? (i := 67) (by decide +kernel)) (by decide +kernel), by decide, by decide, by decide +kernel⟩, okw_in (List.mem_of_getElem? (i := 861) (by decide +kernel)) (by decide +kernel), okw_in (List.mem_of_getElem? (i := 862) (by decide +kernel)) (by decide +kernel)⟩
theorem ml_RL_93 : Cond.methodLink RL 93 yX12_proof ∈ okw := okw_in (List.mem_of_getElem? (i := 1597) (by decide +kernel)) (by decide +kernel)
theorem mw_X12_proof : MV yX12_proof cX12_proof 6 (some .int) 2 := ⟨⟨okw_in (List.mem_of_getElem? (i := 1600) (by decide +kernel)) (by decide +kernel), okw_in (List.mem_of_getElem? (i := 79) (by decide +kernel)) (by decide +kernel), by decide, by decide, by decide +kernel⟩, okw_in (List.mem_of_getElem? (i := 1598) (by decide +kernel)) (by decide +kernel), okw_in (List.mem_of_getElem? (i := 1599) (by decide +kernel)) (by decide +kernel)⟩
theorem ml_RL_94 : Cond.methodLink RL 94 yX11_place ∈ okw := okw_in (List.mem_of_getElem? (i := 870) (by decide +kernel)) (by decide +kernel)
theorem mw_X11_place : MV yX11_place cX11_place 4 (some .int) 2 := ⟨⟨okw_in (List.mem_of_getElem? (i := 873) (by decide +kernel)) (by decide +kernel), okw_in (List.mem_of_getElem? (i := 67) (by decide +kernel)) (by decide +kernel), by decide, by decide, by decide +kernel⟩, okw_in (List.mem_of_getElem? (i := 871) (by decide +kernel)) (by decide +kernel), okw_in (List.mem_of_getElem? (i := 872) (by decide +kernel)) (by decide +kernel)⟩
theorem ml_RL_97 : Cond.methodLink RL 97 yX12_place ∈ okw := okw_in (List.mem_of_getElem? (i := 1601) (by decide +kernel)) (by decide +kernel)
theorem mw_X12_place : MV yX12_place cX12_place 4 (some .int) 2 := ⟨⟨okw_in (List.mem_of_getElem? (i := 1604) (by decide +kernel)) (by decide +kernel), okw_in (List.mem_of_getElem? (i := 79) (by decide +kernel)) (by decide +kernel), by decide, by decide, by decide +kernel⟩, okw_in (List.mem_of_getElem? (i := 1602) (by decide +kernel)) (by decide +kernel), okw_in (List.mem_of_getElem? (i := 1603) (by decide +kernel)) (by decide +kernel)⟩
theorem ml_RL_98 : Cond.methodLink RL 98 yX11_meter ∈ okw := okw_in (List.mem_of_getElem? (i := 877) (by decide +kernel)) (by decide +kernel)
theorem mw_X11_meter : MV yX11_meter cX11_meter 4 (some .int) 3 := ⟨⟨okw_in (List.mem_of_getElem? (i := 880) (by decide +kernel)) (by decide +kernel), okw_in (List.mem_of_getElem? (i := 67) (by decide +kernel)) (by decide +kernel), by decide, by decide, by decide +kernel⟩, okw_in (List.mem_of_getElem? (i := 878) (by decide +kernel)) (by decide +kernel), okw_in (List.mem_of_getElem? (i := 879) (by decide +kernel)) (by decide +kernel)⟩
theorem ml_RL_101 : Cond.methodLink RL 101 yX12_meter ∈ okw := okw_in (List.mem_of_getElem? (i := 1605) (by decide +kernel)) (by decide +kernel)
theorem mw_X12_meter : MV yX12_meter cX12_meter 4 (some .int) 3 := ⟨⟨okw_in (List.mem_of_getElem? (i := 1608) (by decide +kernel)) (by decide +kernel), okw_in (List.mem_of_getElem? (i := 79) (by decide +kernel)) (by decide +kernel), by decide, by decide, by decide +kernel⟩, okw_in (List.mem_of_getElem? (i := 1606) (by decide +kernel)) (by decide +kernel), okw_in (List.mem_of_getElem? (i := 1607) (by decide +kernel)) (by decide +kernel)⟩
theorem ml_RL_102 : Cond.methodLink RL 102 yX11_knows ∈ okw := okw_in (List.mem_of_getElem? (i := 888) (by decide +kernel)) (by decide +kernel)
theorem mw_X11_knows : MV yX11_knows cX11_knows 2 (some .int) 1 := ⟨⟨okw_in (List.mem_of_getElem? (i := 891) (by decide +kernel)) (by decide +kernel), okw_in (List.mem_of_getElem? (i := 67) (by decide +kernel)) (by decide +kernel), by decide, by decide, by decide +kernel⟩, okw_in (List.mem_of_getElem? (i := 889) (by decide +kernel)) (by decide +kernel), okw_in (List.mem_of_getElem? (i := 890) (by decide +kernel)) (by decide +kernel)⟩
theorem ml_RL_105 : Cond.methodLink RL 105 yX12_knows ∈ okw := okw_in (List.mem_of_getElem? (i := 1609) (by decide +kernel)) (by decide +kernel)
theorem mw_X12_knows : MV yX12_knows cX12_knows 2 (some .int) 1 := ⟨⟨okw_in (List.mem_of_getElem? (i := 1612) (by decide +kernel)) (by decide +kernel), okw_in (List.mem_of_getElem? (i := 79) (by decide +kernel)) (by decide +kernel), by decide, by decide, by decide +kernel⟩, okw_in (List.mem_of_getElem? (i := 1610) (by decide +kernel)) (by decide +kernel), okw_in (List.mem_of_getElem? (i := 1611) (by decide +kernel)) (by decide +kernel)⟩
theorem ml_RL_106 : Cond.methodLink RL 106 yX11_hold ∈ okw := okw_in (List.mem_of_getElem? (i := 896) (by decide +kernel)) (by decide +kernel)
theorem mw_X11_hold : MV yX11_hold cX11_hold 5 (some .int) 1 := ⟨⟨okw_in (List.mem_of_getElem? (i := 899) (by decide +kernel)) (by decide +kernel), okw_in (List.mem_of_getElem? (i := 67) (by decide +kernel)) (by decide +kernel), by decide, by decide, by decide +kernel⟩, okw_in (List.mem_of_getElem? (i := 897) (by decide +kernel)) (by decide +kernel), okw_in (List.mem_of_getElem? (i := 898) (by decide +kernel)) (by decide +kernel)⟩
theorem ml_RL_109 : Cond.methodLink RL 109 yX12_hold ∈ okw := okw_in (List.mem_of_getElem? (i := 1617) (by decide +kernel)) (by decide +kernel)
theorem mw_X12_hold : MV yX12_hold cX12_hold 5 (some .int) 1 := ⟨⟨okw_in (List.mem_of_getElem? (i := 1620) (by decide +kernel)) (by decide +kernel), okw_in (List.mem_of_getElem? (i := 79) (by decide +kernel)) (by decide +kernel), by decide, by decide, by decide +kernel⟩, okw_in (List.mem_of_getElem? (i := 1618) (by decide +kernel)) (by decide +kernel), okw_in (List.mem_of_getElem? (i := 1619) (by decide +kernel)) (by decide +kernel)⟩
theorem ml_RL_110 : Cond.methodLink RL 110 yX11_holdless ∈ okw := okw_in (List.mem_of_getElem? (i := 912) (by decide +kernel)) (by decide +kernel)
theorem mw_X11_holdless : MV yX11_holdless cX11_holdless 2 (some .int) 0 := ⟨⟨okw_in (List.mem_of_getElem? (i := 915) (by decide +kernel)) (by decide +kernel), okw_in (List.mem_of_getElem? (i := 67) (by decide +kernel)) (by decide +kernel), by decide, by decide, by decide +kernel⟩, okw_in (List.mem_of_getElem? (i := 913) (by decide +kernel)) (by decide +kernel), okw_in (List.mem_of_getElem? (i := 914) (by decide +kernel)) (by decide +kernel)⟩
theorem ml_RL_113 : Cond.methodLink RL 113 yX12_holdless ∈ okw := okw_in (List.mem_of_getElem? (i := 1625) (by decide +kernel)) (by decide +kernel)
theorem mw_X12_holdless : MV yX12_holdless cX12_holdless 2 (some .int) 0 := ⟨⟨okw_in (List.mem_of_getElem? (i := 1628) (by decide +kernel)) (by decide +kernel), okw_in (List.mem_of_getElem? (i := 79) (by decide +kernel)) (by decide +kernel), by decide, by decide, by decide +kernel⟩, okw_in (List.mem_of_getElem? (i := 1626) (by decide +kernel)) (by decide +kernel), okw_in (List.mem_of_getElem? (i := 1627) (by decide +kernel)) (by decide +kernel)⟩
theorem ml_RL_114 : Cond.methodLink RL 114 yX11_fault ∈ okw := okw_in (List.mem_of_getElem? (i := 916) (by decide +kernel)) (by decide +kernel)
theorem mw_X11_fault : MV yX11_fault cX11_fault 4 (some .int) 2 := ⟨⟨okw_in (List.mem_of_getElem? (i := 919) (by decide +kernel)) (by decide +kernel), okw_in (List.mem_of_getElem? (i := 67) (by decide +kernel)) (by decide +kernel), by decide, by decide, by decide +kernel⟩, okw_in (List.mem_of_getElem? (i := 917) (by decide +kernel)) (by decide +kernel), okw_in (List.mem_of_getElem? (i := 918) (by decide +kernel)) (by decide +kernel)⟩
theorem ml_RL_117 : Cond.methodLink RL 117 yX12_fault ∈ okw := okw_in (List.mem_of_getElem? (i := 1629) (by decide +kernel)) (by decide +kernel)
theorem mw_X12_fault : MV yX12_fault cX12_fault 4 (some .int) 2 := ⟨⟨okw_in (List.mem_of_getElem? (i := 1632) (by decide +kernel)) (by decide +kernel), okw_in (List.mem_of_getElem? (i := 79) (by decide +kernel)) (by decide +kernel), by decide, by decide, by decide +kernel⟩, okw_in (List.mem_of_getElem? (i := 1630) (by decide +kernel)) (by decide +kernel), okw_in (List.mem_of_getElem? (i := 1631) (by decide +kernel)) (by decide +kernel)⟩
theorem ml_RL_118 : Cond.methodLink RL 118 yX11_halt ∈ okw := okw_in (List.mem_of_getElem? (i := 928) (by decide +kernel)) (by decide +kernel)
theorem mw_X11_halt : MV yX11_halt cX11_halt 3 (some .int) 1 := ⟨⟨okw_in (List.mem_of_getElem? (i := 931) (by decide +kernel)) (by decide +kernel), okw_in (List.mem_of_getElem? (i := 67) (by decide +kernel)) (by decide +kernel), by decide, by decide, by decide +kernel⟩, okw_in (List.mem_of_getElem? (i := 929) (by decide +kernel)) (by decide +kernel), okw_in (List.mem_of_getElem? (i := 930) (by decide +kernel)) (by decide +kernel)⟩
theorem ml_RL_121 : Cond.methodLink RL 121 yX12_halt ∈ okw := okw_in (List.mem_of_getElem? (i := 1633) (by decide +kernel)) (by decide +kernel)
theorem mw_X12_halt : MV yX12_halt cX12_halt 3 (some .int) 1 := ⟨⟨okw_in (List.mem_of_getElem? (i := 1636) (by decide +kernel)) (by decide +kernel), okw_in (List.mem_of_getElem? (i := 79) (by decide +kernel)) (by decide +kernel), by decide, by decide, by decide +kernel⟩, okw_in (List.mem_of_getElem? (i := 1634) (by decide +kernel)) (by decide +kernel), okw_in (List.mem_of_getElem? (i := 1635) (by decide +kernel)) (by decide +kernel)⟩
theorem ml_RL_122 : Cond.methodLink RL 122 yX11_fate ∈ okw := okw_in (List.mem_of_getElem? (i := 932) (by decide +kernel)) (by decide +kernel)
theorem mw_X11_fate : MV yX11_fate cX11_fate 2 (some .int) 1 := ⟨⟨okw_in (List.mem_of_getElem? (i := 935) (by decide +kernel)) (by decide +kernel), okw_in (List.mem_of_getElem? (i := 67) (by decide +kernel)) (by decide +kernel), by decide, by decide, by decide +kernel⟩, okw_in (List.mem_of_getElem? (i := 933) (by decide +kernel)) (by decide +kernel), okw_in (List.mem_of_getElem? (i := 934) (by decide +kernel)) (by decide +kernel)⟩
theorem ml_RL_125 : Cond.methodLink RL 125 yX12_fate ∈ okw := okw_in (List.mem_of_getElem? (i := 1637) (by decide +kernel)) (by decide +kernel)
theorem mw_X12_fate : MV yX12_fate cX12_fate 2 (some .int) 1 := ⟨⟨okw_in (List.mem_of_getElem? (i := 1640) (by decide +kernel)) (by decide +kernel), okw_in (List.mem_of_getElem? (i := 79) (by decide +kernel)) (by decide +kernel), by decide, by decide, by decide +kernel⟩, okw_in (List.mem_of_getElem? (i := 1638) (by decide +kernel)) (by decide +kernel), okw_in (List.mem_of_getElem? (i := 1639) (by decide +kernel)) (by decide +kernel)⟩
theorem ml_RL_129 : Cond.methodLink RL 129 yX11_many ∈ okw := okw_in (List.mem_of_getElem? (i := 988) (by decide +kernel)) (by decide +kernel)
theorem mw_X11_many : MV yX11_many cX11_many 4 (some .int) 1 := ⟨⟨okw_in (List.mem_of_getElem? (i := 991) (by decide +kernel)) (by decide +kernel), okw_in (List.mem_of_getElem? (i := 67) (by decide +kernel)) (by decide +kernel), by decide, by decide, by decide +kernel⟩, okw_in (List.mem_of_getElem? (i := 989) (by decide +kernel)) (by decide +kernel), okw_in (List.mem_of_getElem? (i := 990) (by decide +kernel)) (by decide +kernel)⟩
theorem ml_RL_132 : Cond.methodLink RL 132 yX12_many ∈ okw := okw_in (List.mem_of_getElem? (i := 1661) (by decide +kernel)) (by decide +kernel)
theorem mw_X12_many : MV yX12_many cX12_many 4 (some .int) 1 := ⟨⟨okw_in (List.mem_of_getElem? (i := 1664) (by decide +kernel)) (by decide +kernel), okw_in (List.mem_of_getElem? (i := 79) (by decide +kernel)) (by decide +kernel), by decide, by decide, by decide +kernel⟩, okw_in (List.mem_of_getElem? (i := 1662) (by decide +kernel)) (by decide +kernel), okw_in (List.mem_of_getElem? (i := 1663) (by decide +kernel)) (by decide +kernel)⟩
theorem ml_RL_133 : Cond.methodLink RL 133 yX11_order ∈ okw := okw_in (List.mem_of_getElem? (i := 992) (by decide +kernel)) (by decide +kernel)
theorem mw_X11_order : MV yX11_order cX11_order 2 (some .int) 1 := ⟨⟨okw_in (List.mem_of_getElem? (i := 995) (by decide +kernel)) (by decide +kernel), okw_in (List.mem_of_getElem? (i := 67) (by decide +kernel)) (by decide +kernel), by decide, by decide, by decide +kernel⟩, okw_in (List.mem_of_getElem? (i := 993) (by decide +kernel)) (by decide +kernel), okw_in (List.mem_of_getElem? (i := 994) (by decide +kernel)) (by decide +kernel)⟩
theorem ml_RL_136 : Cond.methodLink RL 136 yX12_order ∈ okw := okw_in (List.mem_of_getElem? (i := 1665) (by decide +kernel)) (by decide +kernel)
theorem mw_X12_order : MV yX12_order cX12_order 2 (some .int) 1 := ⟨⟨okw_in (List.mem_of_getElem? (i := 1668) (by decide +kernel)) (by decide +kernel), okw_in (List.mem_of_getElem? (i := 79) (by decide +kernel)) (by decide +kernel), by decide, by decide, by decide +kernel⟩, okw_in (List.mem_of_getElem? (i := 1666) (by decide +kernel)) (by decide +kernel), okw_in (List.mem_of_getElem? (i := 1667) (by decide +kernel)) (by decide +kernel)⟩
theorem ml_RL_137 : Cond.methodLink RL 137 yX11_seen ∈ okw := okw_in (List.mem_of_getElem? (i := 1000) (by decide +kernel)) (by decide +kernel)
theorem mw_X11_seen : MV yX11_seen cX11_seen 3 (some .int) 2 := ⟨⟨okw_in (List.mem_of_getElem? (i := 1003) (by decide +kernel)) (by decide +kernel), okw_in (List.mem_of_getElem? (i := 67) (by decide +kernel)) (by decide +kernel), by decide, by decide, by decide +kernel⟩, okw_in (List.mem_of_getElem? (i := 1001) (by decide +kernel)) (by decide +kernel), okw_in (List.mem_of_getElem? (i := 1002) (by decide +kernel)) (by decide +kernel)⟩
theorem ml_RL_140 : Cond.methodLink RL 140 yX12_seen ∈ okw := okw_in (List.mem_of_getElem? (i := 1669) (by decide +kernel)) (by decide +kernel)
theorem mw_X12_seen : MV yX12_seen cX12_seen 3 (some .int) 2 := ⟨⟨okw_in (List.mem_of_getElem? (i := 1672) (by decide +kernel)) (by decide +kernel), okw_in (List.mem_of_getElem? (i := 79) (by decide +kernel)) (by decide +kernel), by decide, by decide, by decide +kernel⟩, okw_in (List.mem_of_getElem? (i := 1670) (by decide +kernel)) (by decide +kernel), okw_in (List.mem_of_getElem? (i := 1671) (by decide +kernel)) (by decide +kernel)⟩
theorem ml_RL_141 : Cond.methodLink RL 141 yX11_unseen ∈ okw := okw_in (List.mem_of_getElem? (i := 1008) (by decide +kernel)) (by decide +kernel)
theorem mw_X11_unseen : MV yX11_unseen cX11_unseen 2 (some .int) 0 := ⟨⟨okw_in (List.mem_of_getElem? (i := 1011) (by decide +kernel)) (by decide +kernel), okw_in (List.mem_of_getElem? (i := 67) (by decide +kernel)) (by decide +kernel), by decide, by decide, by decide +kernel⟩, okw_in (List.mem_of_getElem? (i := 1009) (by decide +kernel)) (by decide +kernel), okw_in (List.mem_of_getElem? (i := 1010) (by decide +kernel)) (by decide +kernel)⟩
theorem ml_RL_144 : Cond.methodLink RL 144 yX12_unseen ∈ okw := okw_in (List.mem_of_getElem? (i := 1673) (by decide +kernel)) (by decide +kernel)
theorem mw_X12_unseen : MV yX12_unseen cX12_unseen 2 (some .int) 0 := ⟨⟨okw_in (List.mem_of_getElem? (i := 1676) (by decide +kernel)) (by decide +kernel), okw_in (List.mem_of_getElem? (i := 79) (by decide +kernel)) (by decide +kernel), by decide, by decide, by decide +kernel⟩, okw_in (List.mem_of_getElem? (i := 1674) (by decide +kernel)) (by decide +kernel), okw_in (List.mem_of_getElem? (i := 1675) (by decide +kernel)) (by decide +kernel)⟩
theorem ml_RL_145 : Cond.methodLink RL 145 yX11_duds ∈ okw := okw_in (List.mem_of_getElem? (i := 1012) (by decide +kernel)) (by decide +kernel)
theorem mw_X11_duds : MV yX11_duds cX11_duds 1 (some .int) 0 := ⟨⟨okw_in (List.mem_of_getElem? (i := 1015) (by decide +kernel)) (by decide +kernel), okw_in (List.mem_of_getElem? (i := 67) (by decide +kernel)) (by decide +kernel), by decide, by decide, by decide +kernel⟩, okw_in (List.mem_of_getElem? (i := 1013) (by decide +kernel)) (by decide +kernel), okw_in (List.mem_of_getElem? (i := 1014) (by decide +kernel)) (by decide +kernel)⟩
theorem ml_RL_148 : Cond.methodLink RL 148 yX12_duds ∈ okw := okw_in (List.mem_of_getElem? (i := 1677) (by decide +kernel)) (by decide +kernel)
theorem mw_X12_duds : MV yX12_duds cX12_duds 3 (some .int) 0 := ⟨⟨okw_in (List.mem_of_getElem? (i := 1680) (by decide +kernel)) (by decide +kernel), okw_in (List.mem_of_getElem? (i := 79) (by decide +kernel)) (by decide +kernel), by decide, by decide, by decide +kernel⟩, okw_in (List.mem_of_getElem? (i := 1678) (by decide +kernel)) (by decide +kernel), okw_in (List.mem_of_getElem? (i := 1679) (by decide +kernel)) (by decide +kernel)⟩
theorem ml_RL_149 : Cond.methodLink RL 149 yX11_dud ∈ okw := okw_in (List.mem_of_getElem? (i := 1052) (by decide +kernel)) (by decide +kernel)
theorem mw_X11_dud : MV yX11_dud cX11_dud 2 (some .int) 1 := ⟨⟨okw_in (List.mem_of_getElem? (i := 1055) (by decide +kernel)) (by decide +kernel), okw_in (List.mem_of_getElem? (i := 67) (by decide +kernel)) (by decide +kernel), by decide, by decide, by decide +kernel⟩, okw_in (List.mem_of_getElem? (i := 1053) (by decide +kernel)) (by decide +kernel), okw_in (List.mem_of_getElem? (i := 1054) (by decide +kernel)) (by decide +kernel)⟩
theorem ml_RL_152 : Cond.methodLink RL 152 yX12_dud ∈ okw := okw_in (List.mem_of_getElem? (i := 1697) (by decide +kernel)) (by decide +kernel)
theorem mw_X12_dud : MV yX12_dud cX12_dud 4 (some .int) 1 := ⟨⟨okw_in (List.mem_of_getElem? (i := 1700) (by decide +kernel)) (by decide +kernel), okw_in (List.mem_of_getElem? (i := 79) (by decide +kernel)) (by decide +kernel), by decide, by decide, by decide +kernel⟩, okw_in (List.mem_of_getElem? (i := 1698) (by decide +kernel)) (by decide +kernel), okw_in (List.mem_of_getElem? (i := 1699) (by decide +kernel)) (by decide +kernel)⟩
theorem ml_RL_153 : Cond.methodLink RL 153 yX11_strange ∈ okw := okw_in (List.mem_of_getElem? (i := 1061) (by decide +kernel)) (by decide +kernel)
theorem mw_X11_strange : MV yX11_strange cX11_strange 1 (some .int) 0 := ⟨⟨okw_in (List.mem_of_getElem? (i := 1064) (by decide +kernel)) (by decide +kernel), okw_in (List.mem_of_getElem? (i := 67) (by decide +kernel)) (by decide +kernel), by decide, by decide, by decide +kernel⟩, okw_in (List.mem_of_getElem? (i := 1062) (by decide +kernel)) (by decide +kernel), okw_in (List.mem_of_getElem? (i := 1063) (by decide +kernel)) (by decide +kernel)⟩
theorem ml_RL_156 : Cond.methodLink RL 156 yX12_strange ∈ okw := okw_in (List.mem_of_getElem? (i := 1701) (by decide +kernel)) (by decide +kernel)
theorem mw_X12_strange : MV yX12_strange cX12_strange 1 (some .int) 0 := ⟨⟨okw_in (List.mem_of_getElem? (i := 1704) (by decide +kernel)) (by decide +kernel), okw_in (List.mem_of_getElem? (i := 79) (by decide +kernel)) (by decide +kernel), by decide, by decide, by decide +kernel⟩, okw_in (List.mem_of_getElem? (i := 1702) (by decide +kernel)) (by decide +kernel), okw_in (List.mem_of_getElem? (i := 1703) (by decide +kernel)) (by decide +kernel)⟩
theorem ml_RL_157 : Cond.methodLink RL 157 yX11_tape ∈ okw := okw_in (List.mem_of_getElem? (i := 1065) (by decide +kernel)) (by decide +kernel)
theorem mw_X11_tape : MV yX11_tape cX11_tape 5 (some .int) 3 := ⟨⟨okw_in (List.mem_of_getElem? (i := 1068) (by decide +kernel)) (by decide +kernel), okw_in (List.mem_of_getElem? (i := 67) (by decide +kernel)) (by decide +kernel), by decide, by decide, by decide +kernel⟩, okw_in (List.mem_of_getElem? (i := 1066) (by decide +kernel)) (by decide +kernel), okw_in (List.mem_of_getElem? (i := 1067) (by decide +kernel)) (by decide +kernel)⟩
theorem ml_RL_160 : Cond.methodLink RL 160 yX12_tape ∈ okw := okw_in (List.mem_of_getElem? (i := 1705) (by decide +kernel)) (by decide +kernel)
theorem mw_X12_tape : MV yX12_tape cX12_tape 5 (some .int) 3 := ⟨⟨okw_in (List.mem_of_getElem? (i := 1708) (by decide +kernel)) (by decide +kernel), okw_in (List.mem_of_getElem? (i := 79) (by decide +kernel)) (by decide +kernel), by decide, by decide, by decide +kernel⟩, okw_in (List.mem_of_getElem? (i := 1706) (by decide +kernel)) (by decide +kernel), okw_in (List.mem_of_getElem? (i := 1707) (by decide +kernel)) (by decide +kernel)⟩
theorem ml_RL_161 : Cond.methodLink RL 161 yX11_keep ∈ okw := okw_in (List.mem_of_getElem? (i := 1076) (by decide +kernel)) (by decide +kernel)
theorem mw_X11_keep : MV yX11_keep cX11_keep 3 (some .int) 1 := ⟨⟨okw_in (List.mem_of_getElem? (i := 1079) (by decide +kernel)) (by decide +kernel), okw_in (List.mem_of_getElem? (i := 67) (by decide +kernel)) (by decide +kernel), by decide, by decide, by decide +kernel⟩, okw_in (List.mem_of_getElem? (i := 1077) (by decide +kernel)) (by decide +kernel), okw_in (List.mem_of_getElem? (i := 1078) (by decide +kernel)) (by decide +kernel)⟩
theorem ml_RL_164 : Cond.methodLink RL 164 yX12_keep ∈ okw := okw_in (List.mem_of_getElem? (i := 1709) (by decide +kernel)) (by decide +kernel)
theorem mw_X12_keep : MV yX12_keep cX12_keep 4 (some .int) 1 := ⟨⟨okw_in (List.mem_of_getElem? (i := 1712) (by decide +kernel)) (by decide +kernel), okw_in (List.mem_of_getElem? (i := 79) (by decide +kernel)) (by decide +kernel), by decide, by decide, by decide +kernel⟩, okw_in (List.mem_of_getElem? (i := 1710) (by decide +kernel)) (by decide +kernel), okw_in (List.mem_of_getElem? (i := 1711) (by decide +kernel)) (by decide +kernel)⟩
theorem ml_RL_165 : Cond.methodLink RL 165 yX11_back ∈ okw := okw_in (List.mem_of_getElem? (i := 1085) (by decide +kernel)) (by decide +kernel)
theorem mw_X11_back : MV yX11_back cX11_back 5 (some .int) 1 := ⟨⟨okw_in (List.mem_of_getElem? (i := 1088) (by decide +kernel)) (by decide +kernel), okw_in (List.mem_of_getElem? (i := 67) (by decide +kernel)) (by decide +kernel), by decide, by decide, by decide +kernel⟩, okw_in (List.mem_of_getElem? (i := 1086) (by decide +kernel)) (by decide +kernel), okw_in (List.mem_of_getElem? (i := 1087) (by decide +kernel)) (by decide +kernel)⟩
theorem ml_RL_168 : Cond.methodLink RL 168 yX12_back ∈ okw := okw_in (List.mem_of_getElem? (i := 1713) (by decide +kernel)) (by decide +kernel)
theorem mw_X12_back : MV yX12_back cX12_back 5 (some .int) 1 := ⟨⟨okw_in (List.mem_of_getElem? (i := 1716) (by decide +kernel)) (by decide +kernel), okw_in (List.mem_of_getElem? (i := 79) (by decide +kernel)) (by decide +kernel), by decide, by decide, by decide +kernel⟩, okw_in (List.mem_of_getElem? (i := 1714) (by decide +kernel)) (by decide +kernel), okw_in (List.mem_of_getElem? (i := 1715) (by decide +kernel)) (by decide +kernel)⟩
theorem mwh_X11_toss : MWH yX11_toss cX11_toss 5 (some .int) [((28 : Nat), (32 : Nat), (35 : Nat), (202 : Nat))] 1 ∧ Cond.instanceMethod yX11_toss ∈ okw ∧ Cond.selects yX11_toss.cls yX11_toss yX11_toss ∈ okw := ⟨⟨okw_in (List.mem_of_getElem? (i := 1098) (by decide +kernel)) (by decide +kernel), okw_in (List.mem_of_getElem? (i := 67) (by decide +kernel)) (by decide +kernel), by decide, by decide, by decide +kernel⟩, okw_in (List.mem_of_getElem? (i := 1096) (by decide +kernel)) (by decide +kernel), okw_in (List.mem_of_getElem? (i := 1097) (by decide +kernel)) (by decide +kernel)⟩
theorem ml_RL_169 : Cond.methodLink RL 169 yX11_toss ∈ okw := okw_in (List.mem_of_getElem? (i := 1095) (by decide +kernel)) (by decide +kernel)
theorem ml_RL_172 : Cond.methodLink RL 172 yX12_toss ∈ okw := okw_in (List.mem_of_getElem? (i := 1721) (by decide +kernel)) (by decide +kernel)
theorem mw_X12_toss : MV yX12_toss cX12_toss 5 (some .int) 1 := ⟨⟨okw_in (List.mem_of_getElem? (i := 1724) (by decide +kernel)) (by decide +kernel), okw_in (List.mem_of_getElem? (i := 79) (by decide +kernel)) (by decide +kernel), by decide, by decide, by decide +kernel⟩, okw_in (List.mem_of_getElem? (i := 1722) (by decide +kernel)) (by decide +kernel), okw_in (List.mem_of_getElem? (i := 1723) (by decide +kernel)) (by decide +kernel)⟩
theorem ml_RL_173 : Cond.methodLink RL 173 yX11_clear ∈ okw := okw_in (List.mem_of_getElem? (i := 1171) (by decide +kernel)) (by decide +kernel)
theorem mw_X11_clear : MV yX11_clear cX11_clear 4 (some .int) 1 := ⟨⟨okw_in (List.mem_of_getElem? (i := 1174) (by decide +kernel)) (by decide +kernel), okw_in (List.mem_of_getElem? (i := 67) (by decide +kernel)) (by decide +kernel), by decide, by decide, by decide +kernel⟩, okw_in (List.mem_of_getElem? (i := 1172) (by decide +kernel)) (by decide +kernel), okw_in (List.mem_of_getElem? (i := 1173) (by decide +kernel)) (by decide +kernel)⟩
theorem ml_RL_176 : Cond.methodLink RL 176 yX12_clear ∈ okw := okw_in (List.mem_of_getElem? (i := 1725) (by decide +kernel)) (by decide +kernel)
theorem mw_X12_clear : MV yX12_clear cX12_clear 3 (some .int) 1 := ⟨⟨okw_in (List.mem_of_getElem? (i := 1728) (by decide +kernel)) (by decide +kernel), okw_in (List.mem_of_getElem? (i := 79) (by decide +kernel)) (by decide +kernel), by decide, by decide, by decide +kernel⟩, okw_in (List.mem_of_getElem? (i := 1726) (by decide +kernel)) (by decide +kernel), okw_in (List.mem_of_getElem? (i := 1727) (by decide +kernel)) (by decide +kernel)⟩
theorem ml_RL_187 : Cond.methodLink RL 187 yX11_copy ∈ okw := okw_in (List.mem_of_getElem? (i := 1192) (by decide +kernel)) (by decide +kernel)
theorem mw_X11_copy : MV yX11_copy cX11_copy 8 (some .int) 5 := ⟨⟨okw_in (List.mem_of_getElem? (i := 1195) (by decide +kernel)) (by decide +kernel), okw_in (List.mem_of_getElem? (i := 67) (by decide +kernel)) (by decide +kernel), by decide, by decide, by decide +kernel⟩, okw_in (List.mem_of_getElem? (i := 1193) (by decide +kernel)) (by decide +kernel), okw_in (List.mem_of_getElem? (i := 1194) (by decide +kernel)) (by decide +kernel)⟩
theorem ml_RL_190 : Cond.methodLink RL 190 yX12_copy ∈ okw := okw_in (List.mem_of_getElem? (i := 1740) (by decide +kernel)) (by decide +kernel)
theorem mw_X12_copy : MV yX12_copy cX12_copy 8 (some .int) 5 := ⟨⟨okw_in (List.mem_of_getElem? (i := 1743) (by decide +kernel)) (by decide +kernel), okw_in (List.mem_of_getElem? (i := 79) (by decide +kernel)) (by decide +kernel), by decide, by decide, by decide +kernel⟩, okw_in (List.mem_of_getElem? (i := 1741) (by decide +kernel)) (by decide +kernel), okw_in (List.mem_of_getElem? (i := 1742) (by decide +kernel)) (by decide +kernel)⟩
theorem ml_RL_191 : Cond.methodLink RL 191 yX11_count ∈ okw := okw_in (List.mem_of_getElem? (i := 1201) (by decide +kernel)) (by decide +kernel)
theorem mw_X11_count : MV yX11_count cX11_count 2 (some .int) 1 := ⟨⟨okw_in (List.mem_of_getElem? (i := 1204) (by decide +kernel)) (by decide +kernel), okw_in (List.mem_of_getElem? (i := 67) (by decide +kernel)) (by decide +kernel), by decide, by decide, by decide +kernel⟩, okw_in (List.mem_of_getElem? (i := 1202) (by decide +kernel)) (by decide +kernel), okw_in (List.mem_of_getElem? (i := 1203) (by decide +kernel)) (by decide +kernel)⟩
theorem ml_RL_194 : Cond.methodLink RL 194 yX12_count ∈ okw := okw_in (List.mem_of_getElem? (i := 1744) (by decide +kernel)) (by decide +kernel)
theorem mw_X12_count : MV yX12_count cX12_count 4 (some .int) 1 := ⟨⟨okw_in (List.mem_of_getElem? (i := 1747) (by decide +kernel)) (by decide +kernel), okw_in (List.mem_of_getElem? (i := 79) (by decide +kernel)) (by decide +kernel), by decide, by decide, by decide +kernel⟩, okw_in (List.mem_of_getElem? (i := 1745) (by decide +kernel)) (by decide +kernel), okw_in (List.mem_of_getElem? (i := 1746) (by decide +kernel)) (by decide +kernel)⟩
set_option maxRecDepth 100000 in
theorem lw_begin {x : Ct} {g : Gm} {nf nlc : Nat} (C : Cx x yL g 8 cL_law RL nf nlc) (hf : 4 ≤ nf) (hl : 120 ≤ nlc) {b L : Nat} {xs : Nat → Int32} (hX : XSc x yL g b L xs) (hL : L ≤ 3072) {i : Int} (hi : 0 ≤ i) (hi6 : i + 6 ≤ (L : Int)) {σ τ : Sg} {f : Int → Int} (hσ : wfS yC σ) (hτ : wfS yR τ) {v : Int} {σ' τ' : Sg} (e0 : fX11_begin  σ = some (v, σ')) (e1 : fX12_begin  τ = some (v, τ')) (k : wfS yC σ' → wfS yR τ' → J x yL g 8 1719 (lwLo g b i) [] (zL σ' τ' f)) : J x yL g 8 212 (lwLo g b i) [] (zL σ τ f) := by
  refine J_aload_n C 1 dL_law_212 rfl 2 rfl ?_
  refine J_callVE (rest := []) C EmC mw_X11_begin ml_RL_28 (CJ_at (m_X11_begin x.2.1 (sh 0 g) (EmC.inj (CxI C)) σ hσ (v, σ') e0) (zL_C σ τ f)) oC_0 rfl (Nat.le_trans (Nat.le_of_ble_eq_true rfl) hf) (Nat.le_trans (Nat.le_of_ble_eq_true rfl) hl) (by rw [sh_0]; rfl) rfl (Nat.le_of_ble_eq_true rfl) dL_law_213 (fun zC => ?_)
  rw [zL_inC]
  refine J_aload_n C 2 dL_law_216 rfl 3 rfl ?_
  refine J_callVE (rest := [vi v]) C EmR mw_X12_begin ml_RL_32 (CJ_at (m_X12_begin x.2.1 (sh 101 g) (EmR.inj (CxI C)) τ hτ (v, τ') e1) (zL_R σ' τ f)) oR_0 rfl (Nat.le_trans (Nat.le_of_ble_eq_true rfl) hf) (Nat.le_trans (Nat.le_of_ble_eq_true rfl) hl) rfl rfl (Nat.le_of_ble_eq_true rfl) dL_law_217 (fun zR => ?_)
  rw [zL_inR]
  refine J_icmp_eq C zC.1 zR.1 (tgt := 1719) dL_law_220 (by decide) (A := some ()) (B := none) (o := ()) (if_pos rfl) (fun _ _ => ?_) (fun _ n => absurd rfl n)
  exact k zC.2 zR.2
set_option maxRecDepth 100000 in
theorem lw_cell {x : Ct} {g : Gm} {nf nlc : Nat} (C : Cx x yL g 8 cL_law RL nf nlc) (hf : 2 ≤ nf) (hl : 47 ≤ nlc) {b L : Nat} {xs : Nat → Int32} (hX : XSc x yL g b L xs) (hL : L ≤ 3072) {i : Int} (hi : 0 ≤ i) (hi6 : i + 6 ≤ (L : Int)) {σ τ : Sg} {f : Int → Int} (hσ : wfS yC σ) (hτ : wfS yR τ) {v : Int} {σ' τ' : Sg} (e0 : fX11_cell (xs (i + 1).toNat).toInt (xs (i + 2).toNat).toInt (xs (i + 3).toNat).toInt σ = some (v, σ')) (e1 : fX12_cell (xs (i + 1).toNat).toInt (xs (i + 2).toNat).toInt (xs (i + 3).toNat).toInt τ = some (v, τ')) (k : wfS yC σ' → wfS yR τ' → J x yL g 8 1719 (lwLo g b i) [] (zL σ' τ' f)) : J x yL g 8 225 (lwLo g b i) [] (zL σ τ f) := by
  refine J_aload_n C 1 dL_law_225 rfl 2 rfl ?_
  refine J_aload_n C 0 dL_law_226 rfl 1 rfl ?_
  refine J_iload C 4 dL_law_227 0 rfl ?_
  refine J_iconst C dL_law_229 ?_
  refine J_iaddS C ⟨by omega, by omega⟩ dL_law_230 ?_
  refine J_sldI C hX (by omega) (by omega) (by omega) dL_law_231 ?_
  refine J_aload_n C 0 dL_law_232 rfl 1 rfl ?_
  refine J_iload C 4 dL_law_233 0 rfl ?_
  refine J_iconst C dL_law_235 ?_
  refine J_iaddS C ⟨by omega, by omega⟩ dL_law_236 ?_
  refine J_sldI C hX (by omega) (by omega) (by omega) dL_law_237 ?_
  refine J_aload_n C 0 dL_law_238 rfl 1 rfl ?_
  refine J_iload C 4 dL_law_239 0 rfl ?_
  refine J_iconst C dL_law_241 ?_
  refine J_iaddS C ⟨by omega, by omega⟩ dL_law_242 ?_
  refine J_sldI C hX (by omega) (by omega) (by omega) dL_law_243 ?_
  refine J_callVE (rest := []) C EmC mw_X11_cell ml_RL_33 (CJ_at (m_X11_cell x.2.1 (sh 0 g) (EmC.inj (CxI C)) (xs (i + 1).toNat).toInt (rg_toInt32 _) (xs (i + 2).toNat).toInt (rg_toInt32 _) (xs (i + 3).toNat).toInt (rg_toInt32 _) σ hσ (v, σ') e0) (zL_C σ τ f)) oC_0 rfl (Nat.le_trans (Nat.le_of_ble_eq_true rfl) hf) (Nat.le_trans (Nat.le_of_ble_eq_true rfl) hl) (by rw [sh_0]; rfl) rfl (Nat.le_of_ble_eq_true rfl) dL_law_244 (fun zC => ?_)
  rw [zL_inC]
  refine J_aload_n C 2 dL_law_247 rfl 3 rfl ?_
  refine J_aload_n C 0 dL_law_248 rfl 1 rfl ?_
  refine J_iload C 4 dL_law_249 0 rfl ?_
  refine J_iconst C dL_law_251 ?_
  refine J_iaddS C ⟨by omega, by omega⟩ dL_law_252 ?_
  refine J_sldI C hX (by omega) (by omega) (by omega) dL_law_253 ?_
  refine J_aload_n C 0 dL_law_254 rfl 1 rfl ?_
  refine J_iload C 4 dL_law_255 0 rfl ?_
  refine J_iconst C dL_law_257 ?_
  refine J_iaddS C ⟨by omega, by omega⟩ dL_law_258 ?_
  refine J_sldI C hX (by omega) (by omega) (by omega) dL_law_259 ?_
  refine J_aload_n C 0 dL_law_260 rfl 1 rfl ?_
  refine J_iload C 4 dL_law_261 0 rfl ?_
  refine J_iconst C dL_law_263 ?_
  refine J_iaddS C ⟨by omega, by omega⟩ dL_law_264 ?_
  refine J_sldI C hX (by omega) (by omega) (by omega) dL_law_265 ?_
  refine J_callVE (rest := [vi v]) C EmR mw_X12_cell ml_RL_37 (CJ_at (m_X12_cell x.2.1 (sh 101 g) (EmR.inj (CxI C)) (xs (i + 1).toNat).toInt (rg_toInt32 _) (xs (i + 2).toNat).toInt (rg_toInt32 _) (xs (i + 3).toNat).toInt (rg_toInt32 _) τ hτ (v, τ') e1) (zL_R σ' τ f)) oR_0 rfl (Nat.le_trans (Nat.le_of_ble_eq_true rfl) hf) (Nat.le_trans (Nat.le_of_ble_eq_true rfl) hl) rfl rfl (Nat.le_of_ble_eq_true rfl) dL_law_266 (fun zR => ?_)
  rw [zL_inR]
  refine J_icmp_eq C zC.1 zR.1 (tgt := 1719) dL_law_269 (by decide) (A := some ()) (B := none) (o := ()) (if_pos rfl) (fun _ _ => ?_) (fun _ n => absurd rfl n)
  exact k zC.2 zR.2
set_option maxRecDepth 100000 in
theorem lw_kind {x : Ct} {g : Gm} {nf nlc : Nat} (C : Cx x yL g 8 cL_law RL nf nlc) (hf : 5 ≤ nf) (hl : 143 ≤ nlc) {b L : Nat} {xs : Nat → Int32} (hX : XSc x yL g b L xs) (hL : L ≤ 3072) {i : Int} (hi : 0 ≤ i) (hi6 : i + 6 ≤ (L : Int)) {σ τ : Sg} {f : Int → Int} (hσ : wfS yC σ) (hτ : wfS yR τ) {v : Int} {σ' τ' : Sg} (e0 : fX11_kind (xs (i + 1).toNat).toInt (xs (i + 2).toNat).toInt (xs (i + 3).toNat).toInt (xs (i + 4).toNat).toInt (xs (i + 5).toNat).toInt σ = some (v, σ')) (e1 : fX12_kind (xs (i + 1).toNat).toInt (xs (i + 2).toNat).toInt (xs (i + 3).toNat).toInt (xs (i + 4).toNat).toInt (xs (i + 5).toNat).toInt τ = some (v, τ')) (k : wfS yC σ' → wfS yR τ' → J x yL g 8 1719 (lwLo g b i) [] (zL σ' τ' f)) : J x yL g 8 274 (lwLo g b i) [] (zL σ τ f) := by
  refine J_aload_n C 1 dL_law_274 rfl 2 rfl ?_
  refine J_aload_n C 0 dL_law_275 rfl 1 rfl ?_
  refine J_iload C 4 dL_law_276 0 rfl ?_
  refine J_iconst C dL_law_278 ?_
  refine J_iaddS C ⟨by omega, by omega⟩ dL_law_279 ?_
  refine J_sldI C hX (by omega) (by omega) (by omega) dL_law_280 ?_
  refine J_aload_n C 0 dL_law_281 rfl 1 rfl ?_
  refine J_iload C 4 dL_law_282 0 rfl ?_
  refine J_iconst C dL_law_284 ?_
  refine J_iaddS C ⟨by omega, by omega⟩ dL_law_285 ?_
  refine J_sldI C hX (by omega) (by omega) (by omega) dL_law_286 ?_
  refine J_aload_n C 0 dL_law_287 rfl 1 rfl ?_
  refine J_iload C 4 dL_law_288 0 rfl ?_
  refine J_iconst C dL_law_290 ?_
  refine J_iaddS C ⟨by omega, by omega⟩ dL_law_291 ?_
  refine J_sldI C hX (by omega) (by omega) (by omega) dL_law_292 ?_
  refine J_aload_n C 0 dL_law_293 rfl 1 rfl ?_
  refine J_iload C 4 dL_law_294 0 rfl ?_
  refine J_iconst C dL_law_296 ?_
  refine J_iaddS C ⟨by omega, by omega⟩ dL_law_297 ?_
  refine J_sldI C hX (by omega) (by omega) (by omega) dL_law_298 ?_
  refine J_aload_n C 0 dL_law_299 rfl 1 rfl ?_
  refine J_iload C 4 dL_law_300 0 rfl ?_
  refine J_iconst C dL_law_302 ?_
  refine J_iaddS C ⟨by omega, by omega⟩ dL_law_303 ?_
  refine J_sldI C hX (by omega) (by omega) (by omega) dL_law_304 ?_
  refine J_callVE (rest := []) C EmC mw_X11_kind ml_RL_38 (CJ_at (m_X11_kind x.2.1 (sh 0 g) (EmC.inj (CxI C)) (xs (i + 1).toNat).toInt (rg_toInt32 _) (xs (i + 2).toNat).toInt (rg_toInt32 _) (xs (i + 3).toNat).toInt (rg_toInt32 _) (xs (i + 4).toNat).toInt (rg_toInt32 _) (xs (i + 5).toNat).toInt (rg_toInt32 _) σ hσ (v, σ') e0) (zL_C σ τ f)) oC_0 rfl (Nat.le_trans (Nat.le_of_ble_eq_true rfl) hf) (Nat.le_trans (Nat.le_of_ble_eq_true rfl) hl) (by rw [sh_0]; rfl) rfl (Nat.le_of_ble_eq_true rfl) dL_law_305 (fun zC => ?_)
  rw [zL_inC]
  refine J_aload_n C 2 dL_law_308 rfl 3 rfl ?_
  refine J_aload_n C 0 dL_law_309 rfl 1 rfl ?_
  refine J_iload C 4 dL_law_310 0 rfl ?_
  refine J_iconst C dL_law_312 ?_
  refine J_iaddS C ⟨by omega, by omega⟩ dL_law_313 ?_
  refine J_sldI C hX (by omega) (by omega) (by omega) dL_law_314 ?_
  refine J_aload_n C 0 dL_law_315 rfl 1 rfl ?_
  refine J_iload C 4 dL_law_316 0 rfl ?_
  refine J_iconst C dL_law_318 ?_
  refine J_iaddS C ⟨by omega, by omega⟩ dL_law_319 ?_
  refine J_sldI C hX (by omega) (by omega) (by omega) dL_law_320 ?_
  refine J_aload_n C 0 dL_law_321 rfl 1 rfl ?_
  refine J_iload C 4 dL_law_322 0 rfl ?_
  refine J_iconst C dL_law_324 ?_
  refine J_iaddS C ⟨by omega, by omega⟩ dL_law_325 ?_
  refine J_sldI C hX (by omega) (by omega) (by omega) dL_law_326 ?_
  refine J_aload_n C 0 dL_law_327 rfl 1 rfl ?_
  refine J_iload C 4 dL_law_328 0 rfl ?_
  refine J_iconst C dL_law_330 ?_
  refine J_iaddS C ⟨by omega, by omega⟩ dL_law_331 ?_
  refine J_sldI C hX (by omega) (by omega) (by omega) dL_law_332 ?_
  refine J_aload_n C 0 dL_law_333 rfl 1 rfl ?_
  refine J_iload C 4 dL_law_334 0 rfl ?_
  refine J_iconst C dL_law_336 ?_
  refine J_iaddS C ⟨by omega, by omega⟩ dL_law_337 ?_
  refine J_sldI C hX (by omega) (by omega) (by omega) dL_law_338 ?_
  refine J_callVE (rest := [vi v]) C EmR mw_X12_kind ml_RL_42 (CJ_at (m_X12_kind x.2.1 (sh 101 g) (EmR.inj (CxI C)) (xs (i + 1).toNat).toInt (rg_toInt32 _) (xs (i + 2).toNat).toInt (rg_toInt32 _) (xs (i + 3).toNat).toInt (rg_toInt32 _) (xs (i + 4).toNat).toInt (rg_toInt32 _) (xs (i + 5).toNat).toInt (rg_toInt32 _) τ hτ (v, τ') e1) (zL_R σ' τ f)) oR_0 rfl (Nat.le_trans (Nat.le_of_ble_eq_true rfl) hf) (Nat.le_trans (Nat.le_of_ble_eq_true rfl) hl) rfl rfl (Nat.le_of_ble_eq_true rfl) dL_law_339 (fun zR => ?_)
  rw [zL_inR]
  refine J_icmp_eq C zC.1 zR.1 (tgt := 1719) dL_law_342 (by decide) (A := some ()) (B := none) (o := ()) (if_pos rfl) (fun _ _ => ?_) (fun _ n => absurd rfl n)
  exact k zC.2 zR.2
set_option maxRecDepth 100000 in
theorem lw_barge {x : Ct} {g : Gm} {nf nlc : Nat} (C : Cx x yL g 8 cL_law RL nf nlc) (hf : 2 ≤ nf) (hl : 48 ≤ nlc) {b L : Nat} {xs : Nat → Int32} (hX : XSc x yL g b L xs) (hL : L ≤ 3072) {i : Int} (hi : 0 ≤ i) (hi6 : i + 6 ≤ (L : Int)) {σ τ : Sg} {f : Int → Int} (hσ : wfS yC σ) (hτ : wfS yR τ) {v : Int} {σ' τ' : Sg} (e0 : fX11_barge (xs (i + 1).toNat).toInt (xs (i + 2).toNat).toInt (xs (i + 3).toNat).toInt (xs (i + 4).toNat).toInt σ = some (v, σ')) (e1 : fX12_barge (xs (i + 1).toNat).toInt (xs (i + 2).toNat).toInt (xs (i + 3).toNat).toInt (xs (i + 4).toNat).toInt τ = some (v, τ')) (k : wfS yC σ' → wfS yR τ' → J x yL g 8 1719 (lwLo g b i) [] (zL σ' τ' f)) : J x yL g 8 347 (lwLo g b i) [] (zL σ τ f) := by
  refine J_aload_n C 1 dL_law_347 rfl 2 rfl ?_
  refine J_aload_n C 0 dL_law_348 rfl 1 rfl ?_
  refine J_iload C 4 dL_law_349 0 rfl ?_
  refine J_iconst C dL_law_351 ?_
  refine J_iaddS C ⟨by omega, by omega⟩ dL_law_352 ?_
  refine J_sldI C hX (by omega) (by omega) (by omega) dL_law_353 ?_
  refine J_aload_n C 0 dL_law_354 rfl 1 rfl ?_
  refine J_iload C 4 dL_law_355 0 rfl ?_
  refine J_iconst C dL_law_357 ?_
  refine J_iaddS C ⟨by omega, by omega⟩ dL_law_358 ?_
  refine J_sldI C hX (by omega) (by omega) (by omega) dL_law_359 ?_
  refine J_aload_n C 0 dL_law_360 rfl 1 rfl ?_
  refine J_iload C 4 dL_law_361 0 rfl ?_
  refine J_iconst C dL_law_363 ?_
  refine J_iaddS C ⟨by omega, by omega⟩ dL_law_364 ?_
  refine J_sldI C hX (by omega) (by omega) (by omega) dL_law_365 ?_
  refine J_aload_n C 0 dL_law_366 rfl 1 rfl ?_
  refine J_iload C 4 dL_law_367 0 rfl ?_
  refine J_iconst C dL_law_369 ?_
  refine J_iaddS C ⟨by omega, by omega⟩ dL_law_370 ?_
  refine J_sldI C hX (by omega) (by omega) (by omega) dL_law_371 ?_
  refine J_callVE (rest := []) C EmC mw_X11_barge ml_RL_43 (CJ_at (m_X11_barge x.2.1 (sh 0 g) (EmC.inj (CxI C)) (xs (i + 1).toNat).toInt (rg_toInt32 _) (xs (i + 2).toNat).toInt (rg_toInt32 _) (xs (i + 3).toNat).toInt (rg_toInt32 _) (xs (i + 4).toNat).toInt (rg_toInt32 _) σ hσ (v, σ') e0) (zL_C σ τ f)) oC_0 rfl (Nat.le_trans (Nat.le_of_ble_eq_true rfl) hf) (Nat.le_trans (Nat.le_of_ble_eq_true rfl) hl) (by rw [sh_0]; rfl) rfl (Nat.le_of_ble_eq_true rfl) dL_law_372 (fun zC => ?_)
  rw [zL_inC]
  refine J_aload_n C 2 dL_law_375 rfl 3 rfl ?_
  refine J_aload_n C 0 dL_law_376 rfl 1 rfl ?_
  refine J_iload C 4 dL_law_377 0 rfl ?_
  refine J_iconst C dL_law_379 ?_
  refine J_iaddS C ⟨by omega, by omega⟩ dL_law_380 ?_
  refine J_sldI C hX (by omega) (by omega) (by omega) dL_law_381 ?_
  refine J_aload_n C 0 dL_law_382 rfl 1 rfl ?_
  refine J_iload C 4 dL_law_383 0 rfl ?_
  refine J_iconst C dL_law_385 ?_
  refine J_iaddS C ⟨by omega, by omega⟩ dL_law_386 ?_
  refine J_sldI C hX (by omega) (by omega) (by omega) dL_law_387 ?_
  refine J_aload_n C 0 dL_law_388 rfl 1 rfl ?_
  refine J_iload C 4 dL_law_389 0 rfl ?_
  refine J_iconst C dL_law_391 ?_
  refine J_iaddS C ⟨by omega, by omega⟩ dL_law_392 ?_
  refine J_sldI C hX (by omega) (by omega) (by omega) dL_law_393 ?_
  refine J_aload_n C 0 dL_law_394 rfl 1 rfl ?_
  refine J_iload C 4 dL_law_395 0 rfl ?_
  refine J_iconst C dL_law_397 ?_
  refine J_iaddS C ⟨by omega, by omega⟩ dL_law_398 ?_
  refine J_sldI C hX (by omega) (by omega) (by omega) dL_law_399 ?_
  refine J_callVE (rest := [vi v]) C EmR mw_X12_barge ml_RL_47 (CJ_at (m_X12_barge x.2.1 (sh 101 g) (EmR.inj (CxI C)) (xs (i + 1).toNat).toInt (rg_toInt32 _) (xs (i + 2).toNat).toInt (rg_toInt32 _) (xs (i + 3).toNat).toInt (rg_toInt32 _) (xs (i + 4).toNat).toInt (rg_toInt32 _) τ hτ (v, τ') e1) (zL_R σ' τ f)) oR_0 rfl (Nat.le_trans (Nat.le_of_ble_eq_true rfl) hf) (Nat.le_trans (Nat.le_of_ble_eq_true rfl) hl) rfl rfl (Nat.le_of_ble_eq_true rfl) dL_law_400 (fun zR => ?_)
  rw [zL_inR]
  refine J_icmp_eq C zC.1 zR.1 (tgt := 1719) dL_law_403 (by decide) (A := some ()) (B := none) (o := ()) (if_pos rfl) (fun _ _ => ?_) (fun _ n => absurd rfl n)
  exact k zC.2 zR.2
set_option maxRecDepth 100000 in
theorem lw_wind {x : Ct} {g : Gm} {nf nlc : Nat} (C : Cx x yL g 8 cL_law RL nf nlc) (hf : 5 ≤ nf) (hl : 142 ≤ nlc) {b L : Nat} {xs : Nat → Int32} (hX : XSc x yL g b L xs) (hL : L ≤ 3072) {i : Int} (hi : 0 ≤ i) (hi6 : i + 6 ≤ (L : Int)) {σ τ : Sg} {f : Int → Int} (hσ : wfS yC σ) (hτ : wfS yR τ) {v : Int} {σ' τ' : Sg} (e0 : fX11_wind (xs (i + 1).toNat).toInt (xs (i + 2).toNat).toInt (xs (i + 3).toNat).toInt (xs (i + 4).toNat).toInt σ = some (v, σ')) (e1 : fX12_wind (xs (i + 1).toNat).toInt (xs (i + 2).toNat).toInt (xs (i + 3).toNat).toInt (xs (i + 4).toNat).toInt τ = some (v, τ')) (k : wfS yC σ' → wfS yR τ' → J x yL g 8 1719 (lwLo g b i) [] (zL σ' τ' f)) : J x yL g 8 408 (lwLo g b i) [] (zL σ τ f) := by
  refine J_aload_n C 1 dL_law_408 rfl 2 rfl ?_
  refine J_aload_n C 0 dL_law_409 rfl 1 rfl ?_
  refine J_iload C 4 dL_law_410 0 rfl ?_
  refine J_iconst C dL_law_412 ?_
  refine J_iaddS C ⟨by omega, by omega⟩ dL_law_413 ?_
  refine J_sldI C hX (by omega) (by omega) (by omega) dL_law_414 ?_
  refine J_aload_n C 0 dL_law_415 rfl 1 rfl ?_
  refine J_iload C 4 dL_law_416 0 rfl ?_
  refine J_iconst C dL_law_418 ?_
  refine J_iaddS C ⟨by omega, by omega⟩ dL_law_419 ?_
  refine J_sldI C hX (by omega) (by omega) (by omega) dL_law_420 ?_
  refine J_aload_n C 0 dL_law_421 rfl 1 rfl ?_
  refine J_iload C 4 dL_law_422 0 rfl ?_
  refine J_iconst C dL_law_424 ?_
  refine J_iaddS C ⟨by omega, by omega⟩ dL_law_425 ?_
  refine J_sldI C hX (by omega) (by omega) (by omega) dL_law_426 ?_
  refine J_aload_n C 0 dL_law_427 rfl 1 rfl ?_
  refine J_iload C 4 dL_law_428 0 rfl ?_
  refine J_iconst C dL_law_430 ?_
  refine J_iaddS C ⟨by omega, by omega⟩ dL_law_431 ?_
  refine J_sldI C hX (by omega) (by omega) (by omega) dL_law_432 ?_
  refine J_callVE (rest := []) C EmC mw_X11_wind ml_RL_48 (CJ_at (m_X11_wind x.2.1 (sh 0 g) (EmC.inj (CxI C)) (xs (i + 1).toNat).toInt (rg_toInt32 _) (xs (i + 2).toNat).toInt (rg_toInt32 _) (xs (i + 3).toNat).toInt (rg_toInt32 _) (xs (i + 4).toNat).toInt (rg_toInt32 _) σ hσ (v, σ') e0) (zL_C σ τ f)) oC_0 rfl (Nat.le_trans (Nat.le_of_ble_eq_true rfl) hf) (Nat.le_trans (Nat.le_of_ble_eq_true rfl) hl) (by rw [sh_0]; rfl) rfl (Nat.le_of_ble_eq_true rfl) dL_law_433 (fun zC => ?_)
  rw [zL_inC]
  refine J_aload_n C 2 dL_law_436 rfl 3 rfl ?_
  refine J_aload_n C 0 dL_law_437 rfl 1 rfl ?_
  refine J_iload C 4 dL_law_438 0 rfl ?_
  refine J_iconst C dL_law_440 ?_
  refine J_iaddS C ⟨by omega, by omega⟩ dL_law_441 ?_
  refine J_sldI C hX (by omega) (by omega) (by omega) dL_law_442 ?_
  refine J_aload_n C 0 dL_law_443 rfl 1 rfl ?_
  refine J_iload C 4 dL_law_444 0 rfl ?_
  refine J_iconst C dL_law_446 ?_
  refine J_iaddS C ⟨by omega, by omega⟩ dL_law_447 ?_
  refine J_sldI C hX (by omega) (by omega) (by omega) dL_law_448 ?_
  refine J_aload_n C 0 dL_law_449 rfl 1 rfl ?_
  refine J_iload C 4 dL_law_450 0 rfl ?_
  refine J_iconst C dL_law_452 ?_
  refine J_iaddS C ⟨by omega, by omega⟩ dL_law_453 ?_
  refine J_sldI C hX (by omega) (by omega) (by omega) dL_law_454 ?_
  refine J_aload_n C 0 dL_law_455 rfl 1 rfl ?_
  refine J_iload C 4 dL_law_456 0 rfl ?_
  refine J_iconst C dL_law_458 ?_
  refine J_iaddS C ⟨by omega, by omega⟩ dL_law_459 ?_
  refine J_sldI C hX (by omega) (by omega) (by omega) dL_law_460 ?_
  refine J_callVE (rest := [vi v]) C EmR mw_X12_wind ml_RL_51 (CJ_at (m_X12_wind x.2.1 (sh 101 g) (EmR.inj (CxI C)) (xs (i + 1).toNat).toInt (rg_toInt32 _) (xs (i + 2).toNat).toInt (rg_toInt32 _) (xs (i + 3).toNat).toInt (rg_toInt32 _) (xs (i + 4).toNat).toInt (rg_toInt32 _) τ hτ (v, τ') e1) (zL_R σ' τ f)) oR_0 rfl (Nat.le_trans (Nat.le_of_ble_eq_true rfl) hf) (Nat.le_trans (Nat.le_of_ble_eq_true rfl) hl) rfl rfl (Nat.le_of_ble_eq_true rfl) dL_law_461 (fun zR => ?_)
  rw [zL_inR]
  refine J_icmp_eq C zC.1 zR.1 (tgt := 1719) dL_law_464 (by decide) (A := some ()) (B := none) (o := ()) (if_pos rfl) (fun _ _ => ?_) (fun _ n => absurd rfl n)
  exact k zC.2 zR.2
set_option maxRecDepth 100000 in
theorem lw_apart {x : Ct} {g : Gm} {nf nlc : Nat} (C : Cx x yL g 8 cL_law RL nf nlc) (hf : 2 ≤ nf) (hl : 44 ≤ nlc) {b L : Nat} {xs : Nat → Int32} (hX : XSc x yL g b L xs) (hL : L ≤ 3072) {i : Int} (hi : 0 ≤ i) (hi6 : i + 6 ≤ (L : Int)) {σ τ : Sg} {f : Int → Int} (hσ : wfS yC σ) (hτ : wfS yR τ) {v : Int} {σ' τ' : Sg} (e0 : fX11_apart (xs (i + 1).toNat).toInt σ = some (v, σ')) (e1 : fX12_apart (xs (i + 1).toNat).toInt τ = some (v, τ')) (k : wfS yC σ' → wfS yR τ' → J x yL g 8 1719 (lwLo g b i) [] (zL σ' τ' f)) : J x yL g 8 469 (lwLo g b i) [] (zL σ τ f) := by
  refine J_aload_n C 1 dL_law_469 rfl 2 rfl ?_
  refine J_aload_n C 0 dL_law_470 rfl 1 rfl ?_
  refine J_iload C 4 dL_law_471 0 rfl ?_
  refine J_iconst C dL_law_473 ?_
  refine J_iaddS C ⟨by omega, by omega⟩ dL_law_474 ?_
  refine J_sldI C hX (by omega) (by omega) (by omega) dL_law_475 ?_
  refine J_callVE (rest := []) C EmC mw_X11_apart ml_RL_52 (CJ_at (m_X11_apart x.2.1 (sh 0 g) (EmC.inj (CxI C)) (xs (i + 1).toNat).toInt (rg_toInt32 _) σ hσ (v, σ') e0) (zL_C σ τ f)) oC_0 rfl (Nat.le_trans (Nat.le_of_ble_eq_true rfl) hf) (Nat.le_trans (Nat.le_of_ble_eq_true rfl) hl) (by rw [sh_0]; rfl) rfl (Nat.le_of_ble_eq_true rfl) dL_law_476 (fun zC => ?_)
  rw [zL_inC]
  refine J_aload_n C 2 dL_law_479 rfl 3 rfl ?_
  refine J_aload_n C 0 dL_law_480 rfl 1 rfl ?_
  refine J_iload C 4 dL_law_481 0 rfl ?_
  refine J_iconst C dL_law_483 ?_
  refine J_iaddS C ⟨by omega, by omega⟩ dL_law_484 ?_
  refine J_sldI C hX (by omega) (by omega) (by omega) dL_law_485 ?_
  refine J_callVE (rest := [vi v]) C EmR mw_X12_apart ml_RL_56 (CJ_at (m_X12_apart x.2.1 (sh 101 g) (EmR.inj (CxI C)) (xs (i + 1).toNat).toInt (rg_toInt32 _) τ hτ (v, τ') e1) (zL_R σ' τ f)) oR_0 rfl (Nat.le_trans (Nat.le_of_ble_eq_true rfl) hf) (Nat.le_trans (Nat.le_of_ble_eq_true rfl) hl) rfl rfl (Nat.le_of_ble_eq_true rfl) dL_law_486 (fun zR => ?_)
  rw [zL_inR]
  refine J_icmp_eq C zC.1 zR.1 (tgt := 1719) dL_law_489 (by decide) (A := some ()) (B := none) (o := ()) (if_pos rfl) (fun _ _ => ?_) (fun _ n => absurd rfl n)
  exact k zC.2 zR.2
set_option maxRecDepth 100000 in
theorem lw_may {x : Ct} {g : Gm} {nf nlc : Nat} (C : Cx x yL g 8 cL_law RL nf nlc) (hf : 4 ≤ nf) (hl : 91 ≤ nlc) {b L : Nat} {xs : Nat → Int32} (hX : XSc x yL g b L xs) (hL : L ≤ 3072) {i : Int} (hi : 0 ≤ i) (hi6 : i + 6 ≤ (L : Int)) {σ τ : Sg} {f : Int → Int} (hσ : wfS yC σ) (hτ : wfS yR τ) {v : Int} (e0 : fX11_may (xs (i + 1).toNat).toInt (xs (i + 2).toNat).toInt σ = some v) (e1 : fX12_may (xs (i + 1).toNat).toInt (xs (i + 2).toNat).toInt τ = some v) (k : wfS yC σ → wfS yR τ → J x yL g 8 1719 (lwLo g b i) [] (zL σ τ f)) : J x yL g 8 494 (lwLo g b i) [] (zL σ τ f) := by
  refine J_aload_n C 1 dL_law_494 rfl 2 rfl ?_
  refine J_aload_n C 0 dL_law_495 rfl 1 rfl ?_
  refine J_iload C 4 dL_law_496 0 rfl ?_
  refine J_iconst C dL_law_498 ?_
  refine J_iaddS C ⟨by omega, by omega⟩ dL_law_499 ?_
  refine J_sldI C hX (by omega) (by omega) (by omega) dL_law_500 ?_
  refine J_aload_n C 0 dL_law_501 rfl 1 rfl ?_
  refine J_iload C 4 dL_law_502 0 rfl ?_
  refine J_iconst C dL_law_504 ?_
  refine J_iaddS C ⟨by omega, by omega⟩ dL_law_505 ?_
  refine J_sldI C hX (by omega) (by omega) (by omega) dL_law_506 ?_
  refine J_callVE (rest := []) C EmC mw_X11_may ml_RL_57 (CJ_at (m_X11_may x.2.1 (sh 0 g) (EmC.inj (CxI C)) (xs (i + 1).toNat).toInt (rg_toInt32 _) (xs (i + 2).toNat).toInt (rg_toInt32 _) σ hσ v e0) (zL_C σ τ f)) oC_0 rfl (Nat.le_trans (Nat.le_of_ble_eq_true rfl) hf) (Nat.le_trans (Nat.le_of_ble_eq_true rfl) hl) (by rw [sh_0]; rfl) rfl (Nat.le_of_ble_eq_true rfl) dL_law_507 (fun zC => ?_)
  rw [zL_inC]
  refine J_aload_n C 2 dL_law_510 rfl 3 rfl ?_
  refine J_aload_n C 0 dL_law_511 rfl 1 rfl ?_
  refine J_iload C 4 dL_law_512 0 rfl ?_
  refine J_iconst C dL_law_514 ?_
  refine J_iaddS C ⟨by omega, by omega⟩ dL_law_515 ?_
  refine J_sldI C hX (by omega) (by omega) (by omega) dL_law_516 ?_
  refine J_aload_n C 0 dL_law_517 rfl 1 rfl ?_
  refine J_iload C 4 dL_law_518 0 rfl ?_
  refine J_iconst C dL_law_520 ?_
  refine J_iaddS C ⟨by omega, by omega⟩ dL_law_521 ?_
  refine J_sldI C hX (by omega) (by omega) (by omega) dL_law_522 ?_
  refine J_callVE (rest := [vi v]) C EmR mw_X12_may ml_RL_60 (CJ_at (m_X12_may x.2.1 (sh 101 g) (EmR.inj (CxI C)) (xs (i + 1).toNat).toInt (rg_toInt32 _) (xs (i + 2).toNat).toInt (rg_toInt32 _) τ hτ v e1) (zL_R σ τ f)) oR_0 rfl (Nat.le_trans (Nat.le_of_ble_eq_true rfl) hf) (Nat.le_trans (Nat.le_of_ble_eq_true rfl) hl) rfl rfl (Nat.le_of_ble_eq_true rfl) dL_law_523 (fun zR => ?_)
  rw [zL_inR]
  refine J_icmp_eq C zC zR (tgt := 1719) dL_law_526 (by decide) (A := some ()) (B := none) (o := ()) (if_pos rfl) (fun _ _ => ?_) (fun _ n => absurd rfl n)
  exact k hσ hτ
set_option maxRecDepth 100000 in
theorem lw_safe {x : Ct} {g : Gm} {nf nlc : Nat} (C : Cx x yL g 8 cL_law RL nf nlc) (hf : 5 ≤ nf) (hl : 125 ≤ nlc) {b L : Nat} {xs : Nat → Int32} (hX : XSc x yL g b L xs) (hL : L ≤ 3072) {i : Int} (hi : 0 ≤ i) (hi6 : i + 6 ≤ (L : Int)) {σ τ : Sg} {f : Int → Int} (hσ : wfS yC σ) (hτ : wfS yR τ) {v : Int} (e0 : fX11_safe (xs (i + 1).toNat).toInt (xs (i + 2).toNat).toInt (xs (i + 3).toNat).toInt (xs (i + 4).toNat).toInt σ = some v) (e1 : fX12_safe (xs (i + 1).toNat).toInt (xs (i + 2).toNat).toInt (xs (i + 3).toNat).toInt (xs (i + 4).toNat).toInt τ = some v) (k : wfS yC σ → wfS yR τ → J x yL g 8 1719 (lwLo g b i) [] (zL σ τ f)) : J x yL g 8 531 (lwLo g b i) [] (zL σ τ f) := by
  refine J_aload_n C 1 dL_law_531 rfl 2 rfl ?_
  refine J_aload_n C 0 dL_law_532 rfl 1 rfl ?_
  refine J_iload C 4 dL_law_533 0 rfl ?_
  refine J_iconst C dL_law_535 ?_
  refine J_iaddS C ⟨by omega, by omega⟩ dL_law_536 ?_
  refine J_sldI C hX (by omega) (by omega) (by omega) dL_law_537 ?_
  refine J_aload_n C 0 dL_law_538 rfl 1 rfl ?_
  refine J_iload C 4 dL_law_539 0 rfl ?_
  refine J_iconst C dL_law_541 ?_
  refine J_iaddS C ⟨by omega, by omega⟩ dL_law_542 ?_
  refine J_sldI C hX (by omega) (by omega) (by omega) dL_law_543 ?_
  refine J_aload_n C 0 dL_law_544 rfl 1 rfl ?_
  refine J_iload C 4 dL_law_545 0 rfl ?_
  refine J_iconst C dL_law_547 ?_
  refine J_iaddS C ⟨by omega, by omega⟩ dL_law_548 ?_
  refine J_sldI C hX (by omega) (by omega) (by omega) dL_law_549 ?_
  refine J_aload_n C 0 dL_law_550 rfl 1 rfl ?_
  refine J_iload C 4 dL_law_551 0 rfl ?_
  refine J_iconst C dL_law_553 ?_
  refine J_iaddS C ⟨by omega, by omega⟩ dL_law_554 ?_
  refine J_sldI C hX (by omega) (by omega) (by omega) dL_law_555 ?_
  refine J_callVE (rest := []) C EmC mw_X11_safe ml_RL_61 (CJ_at (m_X11_safe x.2.1 (sh 0 g) (EmC.inj (CxI C)) (xs (i + 1).toNat).toInt (rg_toInt32 _) (xs (i + 2).toNat).toInt (rg_toInt32 _) (xs (i + 3).toNat).toInt (rg_toInt32 _) (xs (i + 4).toNat).toInt (rg_toInt32 _) σ hσ v e0) (zL_C σ τ f)) oC_0 rfl (Nat.le_trans (Nat.le_of_ble_eq_true rfl) hf) (Nat.le_trans (Nat.le_of_ble_eq_true rfl) hl) (by rw [sh_0]; rfl) rfl (Nat.le_of_ble_eq_true rfl) dL_law_556 (fun zC => ?_)
  rw [zL_inC]
  refine J_aload_n C 2 dL_law_559 rfl 3 rfl ?_
  refine J_aload_n C 0 dL_law_560 rfl 1 rfl ?_
  refine J_iload C 4 dL_law_561 0 rfl ?_
  refine J_iconst C dL_law_563 ?_
  refine J_iaddS C ⟨by omega, by omega⟩ dL_law_564 ?_
  refine J_sldI C hX (by omega) (by omega) (by omega) dL_law_565 ?_
  refine J_aload_n C 0 dL_law_566 rfl 1 rfl ?_
  refine J_iload C 4 dL_law_567 0 rfl ?_
  refine J_iconst C dL_law_569 ?_
  refine J_iaddS C ⟨by omega, by omega⟩ dL_law_570 ?_
  refine J_sldI C hX (by omega) (by omega) (by omega) dL_law_571 ?_
  refine J_aload_n C 0 dL_law_572 rfl 1 rfl ?_
  refine J_iload C 4 dL_law_573 0 rfl ?_
  refine J_iconst C dL_law_575 ?_
  refine J_iaddS C ⟨by omega, by omega⟩ dL_law_576 ?_
  refine J_sldI C hX (by omega) (by omega) (by omega) dL_law_577 ?_
  refine J_aload_n C 0 dL_law_578 rfl 1 rfl ?_
  refine J_iload C 4 dL_law_579 0 rfl ?_
  refine J_iconst C dL_law_581 ?_
  refine J_iaddS C ⟨by omega, by omega⟩ dL_law_582 ?_
  refine J_sldI C hX (by omega) (by omega) (by omega) dL_law_583 ?_
  refine J_callVE (rest := [vi v]) C EmR mw_X12_safe ml_RL_64 (CJ_at (m_X12_safe x.2.1 (sh 101 g) (EmR.inj (CxI C)) (xs (i + 1).toNat).toInt (rg_toInt32 _) (xs (i + 2).toNat).toInt (rg_toInt32 _) (xs (i + 3).toNat).toInt (rg_toInt32 _) (xs (i + 4).toNat).toInt (rg_toInt32 _) τ hτ v e1) (zL_R σ τ f)) oR_0 rfl (Nat.le_trans (Nat.le_of_ble_eq_true rfl) hf) (Nat.le_trans (Nat.le_of_ble_eq_true rfl) hl) rfl rfl (Nat.le_of_ble_eq_true rfl) dL_law_584 (fun zR => ?_)
  rw [zL_inR]
  refine J_icmp_eq C zC zR (tgt := 1719) dL_law_587 (by decide) (A := some ()) (B := none) (o := ()) (if_pos rfl) (fun _ _ => ?_) (fun _ n => absurd rfl n)
  exact k hσ hτ
set_option maxRecDepth 100000 in
theorem lw_hot {x : Ct} {g : Gm} {nf nlc : Nat} (C : Cx x yL g 8 cL_law RL nf nlc) (hf : 4 ≤ nf) (hl : 97 ≤ nlc) {b L : Nat} {xs : Nat → Int32} (hX : XSc x yL g b L xs) (hL : L ≤ 3072) {i : Int} (hi : 0 ≤ i) (hi6 : i + 6 ≤ (L : Int)) {σ τ : Sg} {f : Int → Int} (hσ : wfS yC σ) (hτ : wfS yR τ) {v : Int} (e0 : fX11_hot (xs (i + 1).toNat).toInt (xs (i + 2).toNat).toInt (xs (i + 3).toNat).toInt (xs (i + 4).toNat).toInt (xs (i + 5).toNat).toInt σ = some v) (e1 : fX12_hot (xs (i + 1).toNat).toInt (xs (i + 2).toNat).toInt (xs (i + 3).toNat).toInt (xs (i + 4).toNat).toInt (xs (i + 5).toNat).toInt τ = some v) (k : wfS yC σ → wfS yR τ → J x yL g 8 1719 (lwLo g b i) [] (zL σ τ f)) : J x yL g 8 592 (lwLo g b i) [] (zL σ τ f) := by
  refine J_aload_n C 1 dL_law_592 rfl 2 rfl ?_
  refine J_aload_n C 0 dL_law_593 rfl 1 rfl ?_
  refine J_iload C 4 dL_law_594 0 rfl ?_
  refine J_iconst C dL_law_596 ?_
  refine J_iaddS C ⟨by omega, by omega⟩ dL_law_597 ?_
  refine J_sldI C hX (by omega) (by omega) (by omega) dL_law_598 ?_
  refine J_aload_n C 0 dL_law_599 rfl 1 rfl ?_
  refine J_iload C 4 dL_law_600 0 rfl ?_
  refine J_iconst C dL_law_602 ?_
  refine J_iaddS C ⟨by omega, by omega⟩ dL_law_603 ?_
  refine J_sldI C hX (by omega) (by omega) (by omega) dL_law_604 ?_
  refine J_aload_n C 0 dL_law_605 rfl 1 rfl ?_
  refine J_iload C 4 dL_law_606 0 rfl ?_
  refine J_iconst C dL_law_608 ?_
  refine J_iaddS C ⟨by omega, by omega⟩ dL_law_609 ?_
  refine J_sldI C hX (by omega) (by omega) (by omega) dL_law_610 ?_
  refine J_aload_n C 0 dL_law_611 rfl 1 rfl ?_
  refine J_iload C 4 dL_law_612 0 rfl ?_
  refine J_iconst C dL_law_614 ?_
  refine J_iaddS C ⟨by omega, by omega⟩ dL_law_615 ?_
  refine J_sldI C hX (by omega) (by omega) (by omega) dL_law_616 ?_
  refine J_aload_n C 0 dL_law_617 rfl 1 rfl ?_
  refine J_iload C 4 dL_law_618 0 rfl ?_
  refine J_iconst C dL_law_620 ?_
  refine J_iaddS C ⟨by omega, by omega⟩ dL_law_621 ?_
  refine J_sldI C hX (by omega) (by omega) (by omega) dL_law_622 ?_
  refine J_callVE (rest := []) C EmC mw_X11_hot ml_RL_65 (CJ_at (m_X11_hot x.2.1 (sh 0 g) (EmC.inj (CxI C)) (xs (i + 1).toNat).toInt (rg_toInt32 _) (xs (i + 2).toNat).toInt (rg_toInt32 _) (xs (i + 3).toNat).toInt (rg_toInt32 _) (xs (i + 4).toNat).toInt (rg_toInt32 _) (xs (i + 5).toNat).toInt (rg_toInt32 _) σ hσ v e0) (zL_C σ τ f)) oC_0 rfl (Nat.le_trans (Nat.le_of_ble_eq_true rfl) hf) (Nat.le_trans (Nat.le_of_ble_eq_true rfl) hl) (by rw [sh_0]; rfl) rfl (Nat.le_of_ble_eq_true rfl) dL_law_623 (fun zC => ?_)
  rw [zL_inC]
  refine J_aload_n C 2 dL_law_626 rfl 3 rfl ?_
  refine J_aload_n C 0 dL_law_627 rfl 1 rfl ?_
  refine J_iload C 4 dL_law_628 0 rfl ?_
  refine J_iconst C dL_law_630 ?_
  refine J_iaddS C ⟨by omega, by omega⟩ dL_law_631 ?_
  refine J_sldI C hX (by omega) (by omega) (by omega) dL_law_632 ?_
  refine J_aload_n C 0 dL_law_633 rfl 1 rfl ?_
  refine J_iload C 4 dL_law_634 0 rfl ?_
  refine J_iconst C dL_law_636 ?_
  refine J_iaddS C ⟨by omega, by omega⟩ dL_law_637 ?_
  refine J_sldI C hX (by omega) (by omega) (by omega) dL_law_638 ?_
  refine J_aload_n C 0 dL_law_639 rfl 1 rfl ?_
  refine J_iload C 4 dL_law_640 0 rfl ?_
  refine J_iconst C dL_law_642 ?_
  refine J_iaddS C ⟨by omega, by omega⟩ dL_law_643 ?_
  refine J_sldI C hX (by omega) (by omega) (by omega) dL_law_644 ?_
  refine J_aload_n C 0 dL_law_645 rfl 1 rfl ?_
  refine J_iload C 4 dL_law_646 0 rfl ?_
  refine J_iconst C dL_law_648 ?_
  refine J_iaddS C ⟨by omega, by omega⟩ dL_law_649 ?_
  refine J_sldI C hX (by omega) (by omega) (by omega) dL_law_650 ?_
  refine J_aload_n C 0 dL_law_651 rfl 1 rfl ?_
  refine J_iload C 4 dL_law_652 0 rfl ?_
  refine J_iconst C dL_law_654 ?_
  refine J_iaddS C ⟨by omega, by omega⟩ dL_law_655 ?_
  refine J_sldI C hX (by omega) (by omega) (by omega) dL_law_656 ?_
  refine J_callVE (rest := [vi v]) C EmR mw_X12_hot ml_RL_68 (CJ_at (m_X12_hot x.2.1 (sh 101 g) (EmR.inj (CxI C)) (xs (i + 1).toNat).toInt (rg_toInt32 _) (xs (i + 2).toNat).toInt (rg_toInt32 _) (xs (i + 3).toNat).toInt (rg_toInt32 _) (xs (i + 4).toNat).toInt (rg_toInt32 _) (xs (i + 5).toNat).toInt (rg_toInt32 _) τ hτ v e1) (zL_R σ τ f)) oR_0 rfl (Nat.le_trans (Nat.le_of_ble_eq_true rfl) hf) (Nat.le_trans (Nat.le_of_ble_eq_true rfl) hl) rfl rfl (Nat.le_of_ble_eq_true rfl) dL_law_657 (fun zR => ?_)
  rw [zL_inR]
  refine J_icmp_eq C zC zR (tgt := 1719) dL_law_660 (by decide) (A := some ()) (B := none) (o := ()) (if_pos rfl) (fun _ _ => ?_) (fun _ n => absurd rfl n)
  exact k hσ hτ
set_option maxRecDepth 100000 in
theorem lw_write {x : Ct} {g : Gm} {nf nlc : Nat} (C : Cx x yL g 8 cL_law RL nf nlc) (hf : 8 ≤ nf) (hl : 194 ≤ nlc) {b L : Nat} {xs : Nat → Int32} (hX : XSc x yL g b L xs) (hL : L ≤ 3072) {i : Int} (hi : 0 ≤ i) (hi6 : i + 6 ≤ (L : Int)) {σ τ : Sg} {f : Int → Int} (hσ : wfS yC σ) (hτ : wfS yR τ) {v : Int} {σ' τ' : Sg} (e0 : fX11_write (xs (i + 1).toNat).toInt σ = some (v, σ')) (e1 : fX12_write (xs (i + 1).toNat).toInt τ = some (v, τ')) (k : wfS yC σ' → wfS yR τ' → J x yL g 8 1719 (lwLo g b i) [] (zL σ' τ' f)) : J x yL g 8 665 (lwLo g b i) [] (zL σ τ f) := by
  refine J_aload_n C 1 dL_law_665 rfl 2 rfl ?_
  refine J_aload_n C 0 dL_law_666 rfl 1 rfl ?_
  refine J_iload C 4 dL_law_667 0 rfl ?_
  refine J_iconst C dL_law_669 ?_
  refine J_iaddS C ⟨by omega, by omega⟩ dL_law_670 ?_
  refine J_sldI C hX (by omega) (by omega) (by omega) dL_law_671 ?_
  refine J_callVE (rest := []) C EmC mw_X11_write ml_RL_69 (CJ_at (m_X11_write x.2.1 (sh 0 g) (EmC.inj (CxI C)) (xs (i + 1).toNat).toInt (rg_toInt32 _) σ hσ (v, σ') e0) (zL_C σ τ f)) oC_0 rfl (Nat.le_trans (Nat.le_of_ble_eq_true rfl) hf) (Nat.le_trans (Nat.le_of_ble_eq_true rfl) hl) (by rw [sh_0]; rfl) rfl (Nat.le_of_ble_eq_true rfl) dL_law_672 (fun zC => ?_)
  rw [zL_inC]
  refine J_aload_n C 2 dL_law_675 rfl 3 rfl ?_
  refine J_aload_n C 0 dL_law_676 rfl 1 rfl ?_
  refine J_iload C 4 dL_law_677 0 rfl ?_
  refine J_iconst C dL_law_679 ?_
  refine J_iaddS C ⟨by omega, by omega⟩ dL_law_680 ?_
  refine J_sldI C hX (by omega) (by omega) (by omega) dL_law_681 ?_
  refine J_callVE (rest := [vi v]) C EmR mw_X12_write ml_RL_72 (CJ_at (m_X12_write x.2.1 (sh 101 g) (EmR.inj (CxI C)) (xs (i + 1).toNat).toInt (rg_toInt32 _) τ hτ (v, τ') e1) (zL_R σ' τ f)) oR_0 rfl (Nat.le_trans (Nat.le_of_ble_eq_true rfl) hf) (Nat.le_trans (Nat.le_of_ble_eq_true rfl) hl) rfl rfl (Nat.le_of_ble_eq_true rfl) dL_law_682 (fun zR => ?_)
  rw [zL_inR]
  refine J_icmp_eq C zC.1 zR.1 (tgt := 1719) dL_law_685 (by decide) (A := some ()) (B := none) (o := ()) (if_pos rfl) (fun _ _ => ?_) (fun _ n => absurd rfl n)
  exact k zC.2 zR.2
set_option maxRecDepth 100000 in
theorem lw_stretch {x : Ct} {g : Gm} {nf nlc : Nat} (C : Cx x yL g 8 cL_law RL nf nlc) (hf : 3 ≤ nf) (hl : 90 ≤ nlc) {b L : Nat} {xs : Nat → Int32} (hX : XSc x yL g b L xs) (hL : L ≤ 3072) {i : Int} (hi : 0 ≤ i) (hi6 : i + 6 ≤ (L : Int)) {σ τ : Sg} {f : Int → Int} (hσ : wfS yC σ) (hτ : wfS yR τ) {v : Int} {σ' τ' : Sg} (e0 : fX11_stretch (xs (i + 1).toNat).toInt (xs (i + 2).toNat).toInt (xs (i + 3).toNat).toInt σ = some (v, σ')) (e1 : fX12_stretch (xs (i + 1).toNat).toInt (xs (i + 2).toNat).toInt (xs (i + 3).toNat).toInt τ = some (v, τ')) (k : wfS yC σ' → wfS yR τ' → J x yL g 8 1719 (lwLo g b i) [] (zL σ' τ' f)) : J x yL g 8 758 (lwLo g b i) [] (zL σ τ f) := by
  refine J_aload_n C 1 dL_law_758 rfl 2 rfl ?_
  refine J_aload_n C 0 dL_law_759 rfl 1 rfl ?_
  refine J_iload C 4 dL_law_760 0 rfl ?_
  refine J_iconst C dL_law_762 ?_
  refine J_iaddS C ⟨by omega, by omega⟩ dL_law_763 ?_
  refine J_sldI C hX (by omega) (by omega) (by omega) dL_law_764 ?_
  refine J_aload_n C 0 dL_law_765 rfl 1 rfl ?_
  refine J_iload C 4 dL_law_766 0 rfl ?_
  refine J_iconst C dL_law_768 ?_
  refine J_iaddS C ⟨by omega, by omega⟩ dL_law_769 ?_
  refine J_sldI C hX (by omega) (by omega) (by omega) dL_law_770 ?_
  refine J_aload_n C 0 dL_law_771 rfl 1 rfl ?_
  refine J_iload C 4 dL_law_772 0 rfl ?_
  refine J_iconst C dL_law_774 ?_
  refine J_iaddS C ⟨by omega, by omega⟩ dL_law_775 ?_
  refine J_sldI C hX (by omega) (by omega) (by omega) dL_law_776 ?_
  refine J_callVE (rest := []) C EmC mw_X11_stretch ml_RL_82 (CJ_at (m_X11_stretch x.2.1 (sh 0 g) (EmC.inj (CxI C)) (xs (i + 1).toNat).toInt (rg_toInt32 _) (xs (i + 2).toNat).toInt (rg_toInt32 _) (xs (i + 3).toNat).toInt (rg_toInt32 _) σ hσ (v, σ') e0) (zL_C σ τ f)) oC_0 rfl (Nat.le_trans (Nat.le_of_ble_eq_true rfl) hf) (Nat.le_trans (Nat.le_of_ble_eq_true rfl) hl) (by rw [sh_0]; rfl) rfl (Nat.le_of_ble_eq_true rfl) dL_law_777 (fun zC => ?_)
  rw [zL_inC]
  refine J_aload_n C 2 dL_law_780 rfl 3 rfl ?_
  refine J_aload_n C 0 dL_law_781 rfl 1 rfl ?_
  refine J_iload C 4 dL_law_782 0 rfl ?_
  refine J_iconst C dL_law_784 ?_
  refine J_iaddS C ⟨by omega, by omega⟩ dL_law_785 ?_
  refine J_sldI C hX (by omega) (by omega) (by omega) dL_law_786 ?_
  refine J_aload_n C 0 dL_law_787 rfl 1 rfl ?_
  refine J_iload C 4 dL_law_788 0 rfl ?_
  refine J_iconst C dL_law_790 ?_
  refine J_iaddS C ⟨by omega, by omega⟩ dL_law_791 ?_
  refine J_sldI C hX (by omega) (by omega) (by omega) dL_law_792 ?_
  refine J_aload_n C 0 dL_law_793 rfl 1 rfl ?_
  refine J_iload C 4 dL_law_794 0 rfl ?_
  refine J_iconst C dL_law_796 ?_
  refine J_iaddS C ⟨by omega, by omega⟩ dL_law_797 ?_
  refine J_sldI C hX (by omega) (by omega) (by omega) dL_law_798 ?_
  refine J_callVE (rest := [vi v]) C EmR mw_X12_stretch ml_RL_85 (CJ_at (m_X12_stretch x.2.1 (sh 101 g) (EmR.inj (CxI C)) (xs (i + 1).toNat).toInt (rg_toInt32 _) (xs (i + 2).toNat).toInt (rg_toInt32 _) (xs (i + 3).toNat).toInt (rg_toInt32 _) τ hτ (v, τ') e1) (zL_R σ' τ f)) oR_0 rfl (Nat.le_trans (Nat.le_of_ble_eq_true rfl) hf) (Nat.le_trans (Nat.le_of_ble_eq_true rfl) hl) rfl rfl (Nat.le_of_ble_eq_true rfl) dL_law_799 (fun zR => ?_)
  rw [zL_inR]
  refine J_icmp_eq C zC.1 zR.1 (tgt := 1719) dL_law_802 (by decide) (A := some ()) (B := none) (o := ()) (if_pos rfl) (fun _ _ => ?_) (fun _ n => absurd rfl n)
  exact k zC.2 zR.2
set_option maxRecDepth 100000 in
theorem lw_lay {x : Ct} {g : Gm} {nf nlc : Nat} (C : Cx x yL g 8 cL_law RL nf nlc) (hf : 16 ≤ nf) (hl : 358 ≤ nlc) {b L : Nat} {xs : Nat → Int32} (hX : XSc x yL g b L xs) (hL : L ≤ 3072) {i : Int} (hi : 0 ≤ i) (hi6 : i + 6 ≤ (L : Int)) {σ τ : Sg} {f : Int → Int} (hσ : wfS yC σ) (hτ : wfS yR τ) {v : Int} {σ' τ' : Sg} (e0 : fX11_lay (xs (i + 1).toNat).toInt σ = some (v, σ')) (e1 : fX12_lay (xs (i + 1).toNat).toInt τ = some (v, τ')) (k : wfS yC σ' → wfS yR τ' → J x yL g 8 1719 (lwLo g b i) [] (zL σ' τ' f)) : J x yL g 8 807 (lwLo g b i) [] (zL σ τ f) := by
  refine J_aload_n C 1 dL_law_807 rfl 2 rfl ?_
  refine J_aload_n C 0 dL_law_808 rfl 1 rfl ?_
  refine J_iload C 4 dL_law_809 0 rfl ?_
  refine J_iconst C dL_law_811 ?_
  refine J_iaddS C ⟨by omega, by omega⟩ dL_law_812 ?_
  refine J_sldI C hX (by omega) (by omega) (by omega) dL_law_813 ?_
  refine J_callVE (rest := []) C EmC mw_X11_lay ml_RL_86 (CJ_at (m_X11_lay x.2.1 (sh 0 g) (EmC.inj (CxI C)) (xs (i + 1).toNat).toInt (rg_toInt32 _) σ hσ (v, σ') e0) (zL_C σ τ f)) oC_0 rfl (Nat.le_trans (Nat.le_of_ble_eq_true rfl) hf) (Nat.le_trans (Nat.le_of_ble_eq_true rfl) hl) (by rw [sh_0]; rfl) rfl (Nat.le_of_ble_eq_true rfl) dL_law_814 (fun zC => ?_)
  rw [zL_inC]
  refine J_aload_n C 2 dL_law_817 rfl 3 rfl ?_
  refine J_aload_n C 0 dL_law_818 rfl 1 rfl ?_
  refine J_iload C 4 dL_law_819 0 rfl ?_
  refine J_iconst C dL_law_821 ?_
  refine J_iaddS C ⟨by omega, by omega⟩ dL_law_822 ?_
  refine J_sldI C hX (by omega) (by omega) (by omega) dL_law_823 ?_
  refine J_callVE (rest := [vi v]) C EmR mw_X12_lay ml_RL_89 (CJ_at (m_X12_lay x.2.1 (sh 101 g) (EmR.inj (CxI C)) (xs (i + 1).toNat).toInt (rg_toInt32 _) τ hτ (v, τ') e1) (zL_R σ' τ f)) oR_0 rfl (Nat.le_trans (Nat.le_of_ble_eq_true rfl) hf) (Nat.le_trans (Nat.le_of_ble_eq_true rfl) hl) rfl rfl (Nat.le_of_ble_eq_true rfl) dL_law_824 (fun zR => ?_)
  rw [zL_inR]
  refine J_icmp_eq C zC.1 zR.1 (tgt := 1719) dL_law_827 (by decide) (A := some ()) (B := none) (o := ()) (if_pos rfl) (fun _ _ => ?_) (fun _ n => absurd rfl n)
  exact k zC.2 zR.2
set_option maxRecDepth 100000 in
theorem lw_proof {x : Ct} {g : Gm} {nf nlc : Nat} (C : Cx x yL g 8 cL_law RL nf nlc) (hf : 7 ≤ nf) (hl : 175 ≤ nlc) {b L : Nat} {xs : Nat → Int32} (hX : XSc x yL g b L xs) (hL : L ≤ 3072) {i : Int} (hi : 0 ≤ i) (hi6 : i + 6 ≤ (L : Int)) {σ τ : Sg} {f : Int → Int} (hσ : wfS yC σ) (hτ : wfS yR τ) {v : Int} {σ' τ' : Sg} (e0 : fX11_proof (xs (i + 1).toNat).toInt (xs (i + 2).toNat).toInt σ = some (v, σ')) (e1 : fX12_proof (xs (i + 1).toNat).toInt (xs (i + 2).toNat).toInt τ = some (v, τ')) (k : wfS yC σ' → wfS yR τ' → J x yL g 8 1719 (lwLo g b i) [] (zL σ' τ' f)) : J x yL g 8 832 (lwLo g b i) [] (zL σ τ f) := by
  refine J_aload_n C 1 dL_law_832 rfl 2 rfl ?_
  refine J_aload_n C 0 dL_law_833 rfl 1 rfl ?_
  refine J_iload C 4 dL_law_834 0 rfl ?_
  refine J_iconst C dL_law_836 ?_
  refine J_iaddS C ⟨by omega, by omega⟩ dL_law_837 ?_
  refine J_sldI C hX (by omega) (by omega) (by omega) dL_law_838 ?_
  refine J_aload_n C 0 dL_law_839 rfl 1 rfl ?_
  refine J_iload C 4 dL_law_840 0 rfl ?_
  refine J_iconst C dL_law_842 ?_
  refine J_iaddS C ⟨by omega, by omega⟩ dL_law_843 ?_
  refine J_sldI C hX (by omega) (by omega) (by omega) dL_law_844 ?_
  refine J_callVE (rest := []) C EmC mw_X11_proof ml_RL_90 (CJ_at (m_X11_proof x.2.1 (sh 0 g) (EmC.inj (CxI C)) (xs (i + 1).toNat).toInt (rg_toInt32 _) (xs (i + 2).toNat).toInt (rg_toInt32 _) σ hσ (v, σ') e0) (zL_C σ τ f)) oC_0 rfl (Nat.le_trans (Nat.le_of_ble_eq_true rfl) hf) (Nat.le_trans (Nat.le_of_ble_eq_true rfl) hl) (by rw [sh_0]; rfl) rfl (Nat.le_of_ble_eq_true rfl) dL_law_845 (fun zC => ?_)
  rw [zL_inC]
  refine J_aload_n C 2 dL_law_848 rfl 3 rfl ?_
  refine J_aload_n C 0 dL_law_849 rfl 1 rfl ?_
  refine J_iload C 4 dL_law_850 0 rfl ?_
  refine J_iconst C dL_law_852 ?_
  refine J_iaddS C ⟨by omega, by omega⟩ dL_law_853 ?_
  refine J_sldI C hX (by omega) (by omega) (by omega) dL_law_854 ?_
  refine J_aload_n C 0 dL_law_855 rfl 1 rfl ?_
  refine J_iload C 4 dL_law_856 0 rfl ?_
  refine J_iconst C dL_law_858 ?_
  refine J_iaddS C ⟨by omega, by omega⟩ dL_law_859 ?_
  refine J_sldI C hX (by omega) (by omega) (by omega) dL_law_860 ?_
  refine J_callVE (rest := [vi v]) C EmR mw_X12_proof ml_RL_93 (CJ_at (m_X12_proof x.2.1 (sh 101 g) (EmR.inj (CxI C)) (xs (i + 1).toNat).toInt (rg_toInt32 _) (xs (i + 2).toNat).toInt (rg_toInt32 _) τ hτ (v, τ') e1) (zL_R σ' τ f)) oR_0 rfl (Nat.le_trans (Nat.le_of_ble_eq_true rfl) hf) (Nat.le_trans (Nat.le_of_ble_eq_true rfl) hl) rfl rfl (Nat.le_of_ble_eq_true rfl) dL_law_861 (fun zR => ?_)
  rw [zL_inR]
  refine J_icmp_eq C zC.1 zR.1 (tgt := 1719) dL_law_864 (by decide) (A := some ()) (B := none) (o := ()) (if_pos rfl) (fun _ _ => ?_) (fun _ n => absurd rfl n)
  exact k zC.2 zR.2
set_option maxRecDepth 100000 in
theorem lw_place {x : Ct} {g : Gm} {nf nlc : Nat} (C : Cx x yL g 8 cL_law RL nf nlc) (hf : 3 ≤ nf) (hl : 66 ≤ nlc) {b L : Nat} {xs : Nat → Int32} (hX : XSc x yL g b L xs) (hL : L ≤ 3072) {i : Int} (hi : 0 ≤ i) (hi6 : i + 6 ≤ (L : Int)) {σ τ : Sg} {f : Int → Int} (hσ : wfS yC σ) (hτ : wfS yR τ) {v : Int} {σ' τ' : Sg} (e0 : fX11_place (xs (i + 1).toNat).toInt (xs (i + 2).toNat).toInt σ = some (v, σ')) (e1 : fX12_place (xs (i + 1).toNat).toInt (xs (i + 2).toNat).toInt τ = some (v, τ')) (k : wfS yC σ' → wfS yR τ' → J x yL g 8 1719 (lwLo g b i) [] (zL σ' τ' f)) : J x yL g 8 869 (lwLo g b i) [] (zL σ τ f) := by
  refine J_aload_n C 1 dL_law_869 rfl 2 rfl ?_
  refine J_aload_n C 0 dL_law_870 rfl 1 rfl ?_
  refine J_iload C 4 dL_law_871 0 rfl ?_
  refine J_iconst C dL_law_873 ?_
  refine J_iaddS C ⟨by omega, by omega⟩ dL_law_874 ?_
  refine J_sldI C hX (by omega) (by omega) (by omega) dL_law_875 ?_
  refine J_aload_n C 0 dL_law_876 rfl 1 rfl ?_
  refine J_iload C 4 dL_law_877 0 rfl ?_
  refine J_iconst C dL_law_879 ?_
  refine J_iaddS C ⟨by omega, by omega⟩ dL_law_880 ?_
  refine J_sldI C hX (by omega) (by omega) (by omega) dL_law_881 ?_
  refine J_callVE (rest := []) C EmC mw_X11_place ml_RL_94 (CJ_at (m_X11_place x.2.1 (sh 0 g) (EmC.inj (CxI C)) (xs (i + 1).toNat).toInt (rg_toInt32 _) (xs (i + 2).toNat).toInt (rg_toInt32 _) σ hσ (v, σ') e0) (zL_C σ τ f)) oC_0 rfl (Nat.le_trans (Nat.le_of_ble_eq_true rfl) hf) (Nat.le_trans (Nat.le_of_ble_eq_true rfl) hl) (by rw [sh_0]; rfl) rfl (Nat.le_of_ble_eq_true rfl) dL_law_882 (fun zC => ?_)
  rw [zL_inC]
  refine J_aload_n C 2 dL_law_885 rfl 3 rfl ?_
  refine J_aload_n C 0 dL_law_886 rfl 1 rfl ?_
  refine J_iload C 4 dL_law_887 0 rfl ?_
  refine J_iconst C dL_law_889 ?_
  refine J_iaddS C ⟨by omega, by omega⟩ dL_law_890 ?_
  refine J_sldI C hX (by omega) (by omega) (by omega) dL_law_891 ?_
  refine J_aload_n C 0 dL_law_892 rfl 1 rfl ?_
  refine J_iload C 4 dL_law_893 0 rfl ?_
  refine J_iconst C dL_law_895 ?_
  refine J_iaddS C ⟨by omega, by omega⟩ dL_law_896 ?_
  refine J_sldI C hX (by omega) (by omega) (by omega) dL_law_897 ?_
  refine J_callVE (rest := [vi v]) C EmR mw_X12_place ml_RL_97 (CJ_at (m_X12_place x.2.1 (sh 101 g) (EmR.inj (CxI C)) (xs (i + 1).toNat).toInt (rg_toInt32 _) (xs (i + 2).toNat).toInt (rg_toInt32 _) τ hτ (v, τ') e1) (zL_R σ' τ f)) oR_0 rfl (Nat.le_trans (Nat.le_of_ble_eq_true rfl) hf) (Nat.le_trans (Nat.le_of_ble_eq_true rfl) hl) rfl rfl (Nat.le_of_ble_eq_true rfl) dL_law_898 (fun zR => ?_)
  rw [zL_inR]
  refine J_icmp_eq C zC.1 zR.1 (tgt := 1719) dL_law_901 (by decide) (A := some ()) (B := none) (o := ()) (if_pos rfl) (fun _ _ => ?_) (fun _ n => absurd rfl n)
  exact k zC.2 zR.2
set_option maxRecDepth 100000 in
theorem lw_meter {x : Ct} {g : Gm} {nf nlc : Nat} (C : Cx x yL g 8 cL_law RL nf nlc) (hf : 2 ≤ nf) (hl : 46 ≤ nlc) {b L : Nat} {xs : Nat → Int32} (hX : XSc x yL g b L xs) (hL : L ≤ 3072) {i : Int} (hi : 0 ≤ i) (hi6 : i + 6 ≤ (L : Int)) {σ τ : Sg} {f : Int → Int} (hσ : wfS yC σ) (hτ : wfS yR τ) {v : Int} {σ' τ' : Sg} (e0 : fX11_meter (xs (i + 1).toNat).toInt (xs (i + 2).toNat).toInt (xs (i + 3).toNat).toInt σ = some (v, σ')) (e1 : fX12_meter (xs (i + 1).toNat).toInt (xs (i + 2).toNat).toInt (xs (i + 3).toNat).toInt τ = some (v, τ')) (k : wfS yC σ' → wfS yR τ' → J x yL g 8 1719 (lwLo g b i) [] (zL σ' τ' f)) : J x yL g 8 906 (lwLo g b i) [] (zL σ τ f) := by
  refine J_aload_n C 1 dL_law_906 rfl 2 rfl ?_
  refine J_aload_n C 0 dL_law_907 rfl 1 rfl ?_
  refine J_iload C 4 dL_law_908 0 rfl ?_
  refine J_iconst C dL_law_910 ?_
  refine J_iaddS C ⟨by omega, by omega⟩ dL_law_911 ?_
  refine J_sldI C hX (by omega) (by omega) (by omega) dL_law_912 ?_
  refine J_aload_n C 0 dL_law_913 rfl 1 rfl ?_
  refine J_iload C 4 dL_law_914 0 rfl ?_
  refine J_iconst C dL_law_916 ?_
  refine J_iaddS C ⟨by omega, by omega⟩ dL_law_917 ?_
  refine J_sldI C hX (by omega) (by omega) (by omega) dL_law_918 ?_
  refine J_aload_n C 0 dL_law_919 rfl 1 rfl ?_
  refine J_iload C 4 dL_law_920 0 rfl ?_
  refine J_iconst C dL_law_922 ?_
  refine J_iaddS C ⟨by omega, by omega⟩ dL_law_923 ?_
  refine J_sldI C hX (by omega) (by omega) (by omega) dL_law_924 ?_
  refine J_callVE (rest := []) C EmC mw_X11_meter ml_RL_98 (CJ_at (m_X11_meter x.2.1 (sh 0 g) (EmC.inj (CxI C)) (xs (i + 1).toNat).toInt (rg_toInt32 _) (xs (i + 2).toNat).toInt (rg_toInt32 _) (xs (i + 3).toNat).toInt (rg_toInt32 _) σ hσ (v, σ') e0) (zL_C σ τ f)) oC_0 rfl (Nat.le_trans (Nat.le_of_ble_eq_true rfl) hf) (Nat.le_trans (Nat.le_of_ble_eq_true rfl) hl) (by rw [sh_0]; rfl) rfl (Nat.le_of_ble_eq_true rfl) dL_law_925 (fun zC => ?_)
  rw [zL_inC]
  refine J_aload_n C 2 dL_law_928 rfl 3 rfl ?_
  refine J_aload_n C 0 dL_law_929 rfl 1 rfl ?_
  refine J_iload C 4 dL_law_930 0 rfl ?_
  refine J_iconst C dL_law_932 ?_
  refine J_iaddS C ⟨by omega, by omega⟩ dL_law_933 ?_
  refine J_sldI C hX (by omega) (by omega) (by omega) dL_law_934 ?_
  refine J_aload_n C 0 dL_law_935 rfl 1 rfl ?_
  refine J_iload C 4 dL_law_936 0 rfl ?_
  refine J_iconst C dL_law_938 ?_
  refine J_iaddS C ⟨by omega, by omega⟩ dL_law_939 ?_
  refine J_sldI C hX (by omega) (by omega) (by omega) dL_law_940 ?_
  refine J_aload_n C 0 dL_law_941 rfl 1 rfl ?_
  refine J_iload C 4 dL_law_942 0 rfl ?_
  refine J_iconst C dL_law_944 ?_
  refine J_iaddS C ⟨by omega, by omega⟩ dL_law_945 ?_
  refine J_sldI C hX (by omega) (by omega) (by omega) dL_law_946 ?_
  refine J_callVE (rest := [vi v]) C EmR mw_X12_meter ml_RL_101 (CJ_at (m_X12_meter x.2.1 (sh 101 g) (EmR.inj (CxI C)) (xs (i + 1).toNat).toInt (rg_toInt32 _) (xs (i + 2).toNat).toInt (rg_toInt32 _) (xs (i + 3).toNat).toInt (rg_toInt32 _) τ hτ (v, τ') e1) (zL_R σ' τ f)) oR_0 rfl (Nat.le_trans (Nat.le_of_ble_eq_true rfl) hf) (Nat.le_trans (Nat.le_of_ble_eq_true rfl) hl) rfl rfl (Nat.le_of_ble_eq_true rfl) dL_law_947 (fun zR => ?_)
  rw [zL_inR]
  refine J_icmp_eq C zC.1 zR.1 (tgt := 1719) dL_law_950 (by decide) (A := some ()) (B := none) (o := ()) (if_pos rfl) (fun _ _ => ?_) (fun _ n => absurd rfl n)
  exact k zC.2 zR.2
set_option maxRecDepth 100000 in
theorem lw_knows {x : Ct} {g : Gm} {nf nlc : Nat} (C : Cx x yL g 8 cL_law RL nf nlc) (hf : 2 ≤ nf) (hl : 45 ≤ nlc) {b L : Nat} {xs : Nat → Int32} (hX : XSc x yL g b L xs) (hL : L ≤ 3072) {i : Int} (hi : 0 ≤ i) (hi6 : i + 6 ≤ (L : Int)) {σ τ : Sg} {f : Int → Int} (hσ : wfS yC σ) (hτ : wfS yR τ) {v : Int} (e0 : fX11_knows (xs (i + 1).toNat).toInt σ = some v) (e1 : fX12_knows (xs (i + 1).toNat).toInt τ = some v) (k : wfS yC σ → wfS yR τ → J x yL g 8 1719 (lwLo g b i) [] (zL σ τ f)) : J x yL g 8 955 (lwLo g b i) [] (zL σ τ f) := by
  refine J_aload_n C 1 dL_law_955 rfl 2 rfl ?_
  refine J_aload_n C 0 dL_law_956 rfl 1 rfl ?_
  refine J_iload C 4 dL_law_957 0 rfl ?_
  refine J_iconst C dL_law_959 ?_
  refine J_iaddS C ⟨by omega, by omega⟩ dL_law_960 ?_
  refine J_sldI C hX (by omega) (by omega) (by omega) dL_law_961 ?_
  refine J_callVE (rest := []) C EmC mw_X11_knows ml_RL_102 (CJ_at (m_X11_knows x.2.1 (sh 0 g) (EmC.inj (CxI C)) (xs (i + 1).toNat).toInt (rg_toInt32 _) σ hσ v e0) (zL_C σ τ f)) oC_0 rfl (Nat.le_trans (Nat.le_of_ble_eq_true rfl) hf) (Nat.le_trans (Nat.le_of_ble_eq_true rfl) hl) (by rw [sh_0]; rfl) rfl (Nat.le_of_ble_eq_true rfl) dL_law_962 (fun zC => ?_)
  rw [zL_inC]
  refine J_aload_n C 2 dL_law_965 rfl 3 rfl ?_
  refine J_aload_n C 0 dL_law_966 rfl 1 rfl ?_
  refine J_iload C 4 dL_law_967 0 rfl ?_
  refine J_iconst C dL_law_969 ?_
  refine J_iaddS C ⟨by omega, by omega⟩ dL_law_970 ?_
  refine J_sldI C hX (by omega) (by omega) (by omega) dL_law_971 ?_
  refine J_callVE (rest := [vi v]) C EmR mw_X12_knows ml_RL_105 (CJ_at (m_X12_knows x.2.1 (sh 101 g) (EmR.inj (CxI C)) (xs (i + 1).toNat).toInt (rg_toInt32 _) τ hτ v e1) (zL_R σ τ f)) oR_0 rfl (Nat.le_trans (Nat.le_of_ble_eq_true rfl) hf) (Nat.le_trans (Nat.le_of_ble_eq_true rfl) hl) rfl rfl (Nat.le_of_ble_eq_true rfl) dL_law_972 (fun zR => ?_)
  rw [zL_inR]
  refine J_icmp_eq C zC zR (tgt := 1719) dL_law_975 (by decide) (A := some ()) (B := none) (o := ()) (if_pos rfl) (fun _ _ => ?_) (fun _ n => absurd rfl n)
  exact k hσ hτ
set_option maxRecDepth 100000 in
theorem lw_hold {x : Ct} {g : Gm} {nf nlc : Nat} (C : Cx x yL g 8 cL_law RL nf nlc) (hf : 5 ≤ nf) (hl : 111 ≤ nlc) {b L : Nat} {xs : Nat → Int32} (hX : XSc x yL g b L xs) (hL : L ≤ 3072) {i : Int} (hi : 0 ≤ i) (hi6 : i + 6 ≤ (L : Int)) {σ τ : Sg} {f : Int → Int} (hσ : wfS yC σ) (hτ : wfS yR τ) {v : Int} {σ' τ' : Sg} (e0 : fX11_hold (xs (i + 1).toNat).toInt σ = some (v, σ')) (e1 : fX12_hold (xs (i + 1).toNat).toInt τ = some (v, τ')) (k : wfS yC σ' → wfS yR τ' → J x yL g 8 1719 (lwLo g b i) [] (zL σ' τ' f)) : J x yL g 8 980 (lwLo g b i) [] (zL σ τ f) := by
  refine J_aload_n C 1 dL_law_980 rfl 2 rfl ?_
  refine J_aload_n C 0 dL_law_981 rfl 1 rfl ?_
  refine J_iload C 4 dL_law_982 0 rfl ?_
  refine J_iconst C dL_law_984 ?_
  refine J_iaddS C ⟨by omega, by omega⟩ dL_law_985 ?_
  refine J_sldI C hX (by omega) (by omega) (by omega) dL_law_986 ?_
  refine J_callVE (rest := []) C EmC mw_X11_hold ml_RL_106 (CJ_at (m_X11_hold x.2.1 (sh 0 g) (EmC.inj (CxI C)) (xs (i + 1).toNat).toInt (rg_toInt32 _) σ hσ (v, σ') e0) (zL_C σ τ f)) oC_0 rfl (Nat.le_trans (Nat.le_of_ble_eq_true rfl) hf) (Nat.le_trans (Nat.le_of_ble_eq_true rfl) hl) (by rw [sh_0]; rfl) rfl (Nat.le_of_ble_eq_true rfl) dL_law_987 (fun zC => ?_)
  rw [zL_inC]
  refine J_aload_n C 2 dL_law_990 rfl 3 rfl ?_
  refine J_aload_n C 0 dL_law_991 rfl 1 rfl ?_
  refine J_iload C 4 dL_law_992 0 rfl ?_
  refine J_iconst C dL_law_994 ?_
  refine J_iaddS C ⟨by omega, by omega⟩ dL_law_995 ?_
  refine J_sldI C hX (by omega) (by omega) (by omega) dL_law_996 ?_
  refine J_callVE (rest := [vi v]) C EmR mw_X12_hold ml_RL_109 (CJ_at (m_X12_hold x.2.1 (sh 101 g) (EmR.inj (CxI C)) (xs (i + 1).toNat).toInt (rg_toInt32 _) τ hτ (v, τ') e1) (zL_R σ' τ f)) oR_0 rfl (Nat.le_trans (Nat.le_of_ble_eq_true rfl) hf) (Nat.le_trans (Nat.le_of_ble_eq_true rfl) hl) rfl rfl (Nat.le_of_ble_eq_true rfl) dL_law_997 (fun zR => ?_)
  rw [zL_inR]
  refine J_icmp_eq C zC.1 zR.1 (tgt := 1719) dL_law_1000 (by decide) (A := some ()) (B := none) (o := ()) (if_pos rfl) (fun _ _ => ?_) (fun _ n => absurd rfl n)
  exact k zC.2 zR.2
set_option maxRecDepth 100000 in
theorem lw_holdless {x : Ct} {g : Gm} {nf nlc : Nat} (C : Cx x yL g 8 cL_law RL nf nlc) (hf : 1 ≤ nf) (hl : 21 ≤ nlc) {b L : Nat} {xs : Nat → Int32} (hX : XSc x yL g b L xs) (hL : L ≤ 3072) {i : Int} (hi : 0 ≤ i) (hi6 : i + 6 ≤ (L : Int)) {σ τ : Sg} {f : Int → Int} (hσ : wfS yC σ) (hτ : wfS yR τ) {v : Int} {σ' τ' : Sg} (e0 : fX11_holdless  σ = some (v, σ')) (e1 : fX12_holdless  τ = some (v, τ')) (k : wfS yC σ' → wfS yR τ' → J x yL g 8 1719 (lwLo g b i) [] (zL σ' τ' f)) : J x yL g 8 1005 (lwLo g b i) [] (zL σ τ f) := by
  refine J_aload_n C 1 dL_law_1005 rfl 2 rfl ?_
  refine J_callVE (rest := []) C EmC mw_X11_holdless ml_RL_110 (CJ_at (m_X11_holdless x.2.1 (sh 0 g) (EmC.inj (CxI C)) σ hσ (v, σ') e0) (zL_C σ τ f)) oC_0 rfl (Nat.le_trans (Nat.le_of_ble_eq_true rfl) hf) (Nat.le_trans (Nat.le_of_ble_eq_true rfl) hl) (by rw [sh_0]; rfl) rfl (Nat.le_of_ble_eq_true rfl) dL_law_1006 (fun zC => ?_)
  rw [zL_inC]
  refine J_aload_n C 2 dL_law_1009 rfl 3 rfl ?_
  refine J_callVE (rest := [vi v]) C EmR mw_X12_holdless ml_RL_113 (CJ_at (m_X12_holdless x.2.1 (sh 101 g) (EmR.inj (CxI C)) τ hτ (v, τ') e1) (zL_R σ' τ f)) oR_0 rfl (Nat.le_trans (Nat.le_of_ble_eq_true rfl) hf) (Nat.le_trans (Nat.le_of_ble_eq_true rfl) hl) rfl rfl (Nat.le_of_ble_eq_true rfl) dL_law_1010 (fun zR => ?_)
  rw [zL_inR]
  refine J_icmp_eq C zC.1 zR.1 (tgt := 1719) dL_law_1013 (by decide) (A := some ()) (B := none) (o := ()) (if_pos rfl) (fun _ _ => ?_) (fun _ n => absurd rfl n)
  exact k zC.2 zR.2
set_option maxRecDepth 100000 in
theorem lw_fault {x : Ct} {g : Gm} {nf nlc : Nat} (C : Cx x yL g 8 cL_law RL nf nlc) (hf : 3 ≤ nf) (hl : 66 ≤ nlc) {b L : Nat} {xs : Nat → Int32} (hX : XSc x yL g b L xs) (hL : L ≤ 3072) {i : Int} (hi : 0 ≤ i) (hi6 : i + 6 ≤ (L : Int)) {σ τ : Sg} {f : Int → Int} (hσ : wfS yC σ) (hτ : wfS yR τ) {v : Int} {σ' τ' : Sg} (e0 : fX11_fault (xs (i + 1).toNat).toInt (xs (i + 2).toNat).toInt σ = some (v, σ')) (e1 : fX12_fault (xs (i + 1).toNat).toInt (xs (i + 2).toNat).toInt τ = some (v, τ')) (k : wfS yC σ' → wfS yR τ' → J x yL g 8 1719 (lwLo g b i) [] (zL σ' τ' f)) : J x yL g 8 1018 (lwLo g b i) [] (zL σ τ f) := by
  refine J_aload_n C 1 dL_law_1018 rfl 2 rfl ?_
  refine J_aload_n C 0 dL_law_1019 rfl 1 rfl ?_
  refine J_iload C 4 dL_law_1020 0 rfl ?_
  refine J_iconst C dL_law_1022 ?_
  refine J_iaddS C ⟨by omega, by omega⟩ dL_law_1023 ?_
  refine J_sldI C hX (by omega) (by omega) (by omega) dL_law_1024 ?_
  refine J_aload_n C 0 dL_law_1025 rfl 1 rfl ?_
  refine J_iload C 4 dL_law_1026 0 rfl ?_
  refine J_iconst C dL_law_1028 ?_
  refine J_iaddS C ⟨by omega, by omega⟩ dL_law_1029 ?_
  refine J_sldI C hX (by omega) (by omega) (by omega) dL_law_1030 ?_
  refine J_callVE (rest := []) C EmC mw_X11_fault ml_RL_114 (CJ_at (m_X11_fault x.2.1 (sh 0 g) (EmC.inj (CxI C)) (xs (i + 1).toNat).toInt (rg_toInt32 _) (xs (i + 2).toNat).toInt (rg_toInt32 _) σ hσ (v, σ') e0) (zL_C σ τ f)) oC_0 rfl (Nat.le_trans (Nat.le_of_ble_eq_true rfl) hf) (Nat.le_trans (Nat.le_of_ble_eq_true rfl) hl) (by rw [sh_0]; rfl) rfl (Nat.le_of_ble_eq_true rfl) dL_law_1031 (fun zC => ?_)
  rw [zL_inC]
  refine J_aload_n C 2 dL_law_1034 rfl 3 rfl ?_
  refine J_aload_n C 0 dL_law_1035 rfl 1 rfl ?_
  refine J_iload C 4 dL_law_1036 0 rfl ?_
  refine J_iconst C dL_law_1038 ?_
  refine J_iaddS C ⟨by omega, by omega⟩ dL_law_1039 ?_
  refine J_sldI C hX (by omega) (by omega) (by omega) dL_law_1040 ?_
  refine J_aload_n C 0 dL_law_1041 rfl 1 rfl ?_
  refine J_iload C 4 dL_law_1042 0 rfl ?_
  refine J_iconst C dL_law_1044 ?_
  refine J_iaddS C ⟨by omega, by omega⟩ dL_law_1045 ?_
  refine J_sldI C hX (by omega) (by omega) (by omega) dL_law_1046 ?_
  refine J_callVE (rest := [vi v]) C EmR mw_X12_fault ml_RL_117 (CJ_at (m_X12_fault x.2.1 (sh 101 g) (EmR.inj (CxI C)) (xs (i + 1).toNat).toInt (rg_toInt32 _) (xs (i + 2).toNat).toInt (rg_toInt32 _) τ hτ (v, τ') e1) (zL_R σ' τ f)) oR_0 rfl (Nat.le_trans (Nat.le_of_ble_eq_true rfl) hf) (Nat.le_trans (Nat.le_of_ble_eq_true rfl) hl) rfl rfl (Nat.le_of_ble_eq_true rfl) dL_law_1047 (fun zR => ?_)
  rw [zL_inR]
  refine J_icmp_eq C zC.1 zR.1 (tgt := 1719) dL_law_1050 (by decide) (A := some ()) (B := none) (o := ()) (if_pos rfl) (fun _ _ => ?_) (fun _ n => absurd rfl n)
  exact k zC.2 zR.2
set_option maxRecDepth 100000 in
theorem lw_halt {x : Ct} {g : Gm} {nf nlc : Nat} (C : Cx x yL g 8 cL_law RL nf nlc) (hf : 2 ≤ nf) (hl : 44 ≤ nlc) {b L : Nat} {xs : Nat → Int32} (hX : XSc x yL g b L xs) (hL : L ≤ 3072) {i : Int} (hi : 0 ≤ i) (hi6 : i + 6 ≤ (L : Int)) {σ τ : Sg} {f : Int → Int} (hσ : wfS yC σ) (hτ : wfS yR τ) {v : Int} {σ' τ' : Sg} (e0 : fX11_halt (xs (i + 1).toNat).toInt σ = some (v, σ')) (e1 : fX12_halt (xs (i + 1).toNat).toInt τ = some (v, τ')) (k : wfS yC σ' → wfS yR τ' → J x yL g 8 1719 (lwLo g b i) [] (zL σ' τ' f)) : J x yL g 8 1055 (lwLo g b i) [] (zL σ τ f) := by
  refine J_aload_n C 1 dL_law_1055 rfl 2 rfl ?_
  refine J_aload_n C 0 dL_law_1056 rfl 1 rfl ?_
  refine J_iload C 4 dL_law_1057 0 rfl ?_
  refine J_iconst C dL_law_1059 ?_
  refine J_iaddS C ⟨by omega, by omega⟩ dL_law_1060 ?_
  refine J_sldI C hX (by omega) (by omega) (by omega) dL_law_1061 ?_
  refine J_callVE (rest := []) C EmC mw_X11_halt ml_RL_118 (CJ_at (m_X11_halt x.2.1 (sh 0 g) (EmC.inj (CxI C)) (xs (i + 1).toNat).toInt (rg_toInt32 _) σ hσ (v, σ') e0) (zL_C σ τ f)) oC_0 rfl (Nat.le_trans (Nat.le_of_ble_eq_true rfl) hf) (Nat.le_trans (Nat.le_of_ble_eq_true rfl) hl) (by rw [sh_0]; rfl) rfl (Nat.le_of_ble_eq_true rfl) dL_law_1062 (fun zC => ?_)
  rw [zL_inC]
  refine J_aload_n C 2 dL_law_1065 rfl 3 rfl ?_
  refine J_aload_n C 0 dL_law_1066 rfl 1 rfl ?_
  refine J_iload C 4 dL_law_1067 0 rfl ?_
  refine J_iconst C dL_law_1069 ?_
  refine J_iaddS C ⟨by omega, by omega⟩ dL_law_1070 ?_
  refine J_sldI C hX (by omega) (by omega) (by omega) dL_law_1071 ?_
  refine J_callVE (rest := [vi v]) C EmR mw_X12_halt ml_RL_121 (CJ_at (m_X12_halt x.2.1 (sh 101 g) (EmR.inj (CxI C)) (xs (i + 1).toNat).toInt (rg_toInt32 _) τ hτ (v, τ') e1) (zL_R σ' τ f)) oR_0 rfl (Nat.le_trans (Nat.le_of_ble_eq_true rfl) hf) (Nat.le_trans (Nat.le_of_ble_eq_true rfl) hl) rfl rfl (Nat.le_of_ble_eq_true rfl) dL_law_1072 (fun zR => ?_)
  rw [zL_inR]
  refine J_icmp_eq C zC.1 zR.1 (tgt := 1719) dL_law_1075 (by decide) (A := some ()) (B := none) (o := ()) (if_pos rfl) (fun _ _ => ?_) (fun _ n => absurd rfl n)
  exact k zC.2 zR.2
set_option maxRecDepth 100000 in
theorem lw_fate {x : Ct} {g : Gm} {nf nlc : Nat} (C : Cx x yL g 8 cL_law RL nf nlc) (hf : 8 ≤ nf) (hl : 195 ≤ nlc) {b L : Nat} {xs : Nat → Int32} (hX : XSc x yL g b L xs) (hL : L ≤ 3072) {i : Int} (hi : 0 ≤ i) (hi6 : i + 6 ≤ (L : Int)) {σ τ : Sg} {f : Int → Int} (hσ : wfS yC σ) (hτ : wfS yR τ) {v : Int} {σ' τ' : Sg} (e0 : fX11_fate (xs (i + 1).toNat).toInt σ = some (v, σ')) (e1 : fX12_fate (xs (i + 1).toNat).toInt τ = some (v, τ')) (k : wfS yC σ' → wfS yR τ' → J x yL g 8 1719 (lwLo g b i) [] (zL σ' τ' f)) : J x yL g 8 1080 (lwLo g b i) [] (zL σ τ f) := by
  refine J_aload_n C 1 dL_law_1080 rfl 2 rfl ?_
  refine J_aload_n C 0 dL_law_1081 rfl 1 rfl ?_
  refine J_iload C 4 dL_law_1082 0 rfl ?_
  refine J_iconst C dL_law_1084 ?_
  refine J_iaddS C ⟨by omega, by omega⟩ dL_law_1085 ?_
  refine J_sldI C hX (by omega) (by omega) (by omega) dL_law_1086 ?_
  refine J_callVE (rest := []) C EmC mw_X11_fate ml_RL_122 (CJ_at (m_X11_fate x.2.1 (sh 0 g) (EmC.inj (CxI C)) (xs (i + 1).toNat).toInt (rg_toInt32 _) σ hσ (v, σ') e0) (zL_C σ τ f)) oC_0 rfl (Nat.le_trans (Nat.le_of_ble_eq_true rfl) hf) (Nat.le_trans (Nat.le_of_ble_eq_true rfl) hl) (by rw [sh_0]; rfl) rfl (Nat.le_of_ble_eq_true rfl) dL_law_1087 (fun zC => ?_)
  rw [zL_inC]
  refine J_aload_n C 2 dL_law_1090 rfl 3 rfl ?_
  refine J_aload_n C 0 dL_law_1091 rfl 1 rfl ?_
  refine J_iload C 4 dL_law_1092 0 rfl ?_
  refine J_iconst C dL_law_1094 ?_
  refine J_iaddS C ⟨by omega, by omega⟩ dL_law_1095 ?_
  refine J_sldI C hX (by omega) (by omega) (by omega) dL_law_1096 ?_
  refine J_callVE (rest := [vi v]) C EmR mw_X12_fate ml_RL_125 (CJ_at (m_X12_fate x.2.1 (sh 101 g) (EmR.inj (CxI C)) (xs (i + 1).toNat).toInt (rg_toInt32 _) τ hτ (v, τ') e1) (zL_R σ' τ f)) oR_0 rfl (Nat.le_trans (Nat.le_of_ble_eq_true rfl) hf) (Nat.le_trans (Nat.le_of_ble_eq_true rfl) hl) rfl rfl (Nat.le_of_ble_eq_true rfl) dL_law_1097 (fun zR => ?_)
  rw [zL_inR]
  refine J_icmp_eq C zC.1 zR.1 (tgt := 1719) dL_law_1100 (by decide) (A := some ()) (B := none) (o := ()) (if_pos rfl) (fun _ _ => ?_) (fun _ n => absurd rfl n)
  exact k zC.2 zR.2
set_option maxRecDepth 100000 in
theorem lw_many {x : Ct} {g : Gm} {nf nlc : Nat} (C : Cx x yL g 8 cL_law RL nf nlc) (hf : 8 ≤ nf) (hl : 197 ≤ nlc) {b L : Nat} {xs : Nat → Int32} (hX : XSc x yL g b L xs) (hL : L ≤ 3072) {i : Int} (hi : 0 ≤ i) (hi6 : i + 6 ≤ (L : Int)) {σ τ : Sg} {f : Int → Int} (hσ : wfS yC σ) (hτ : wfS yR τ) {v : Int} {σ' τ' : Sg} (e0 : fX11_many (xs (i + 1).toNat).toInt σ = some (v, σ')) (e1 : fX12_many (xs (i + 1).toNat).toInt τ = some (v, τ')) (k : wfS yC σ' → wfS yR τ' → J x yL g 8 1719 (lwLo g b i) [] (zL σ' τ' f)) : J x yL g 8 1173 (lwLo g b i) [] (zL σ τ f) := by
  refine J_aload_n C 1 dL_law_1173 rfl 2 rfl ?_
  refine J_aload_n C 0 dL_law_1174 rfl 1 rfl ?_
  refine J_iload C 4 dL_law_1175 0 rfl ?_
  refine J_iconst C dL_law_1177 ?_
  refine J_iaddS C ⟨by omega, by omega⟩ dL_law_1178 ?_
  refine J_sldI C hX (by omega) (by omega) (by omega) dL_law_1179 ?_
  refine J_callVE (rest := []) C EmC mw_X11_many ml_RL_129 (CJ_at (m_X11_many x.2.1 (sh 0 g) (EmC.inj (CxI C)) (xs (i + 1).toNat).toInt (rg_toInt32 _) σ hσ (v, σ') e0) (zL_C σ τ f)) oC_0 rfl (Nat.le_trans (Nat.le_of_ble_eq_true rfl) hf) (Nat.le_trans (Nat.le_of_ble_eq_true rfl) hl) (by rw [sh_0]; rfl) rfl (Nat.le_of_ble_eq_true rfl) dL_law_1180 (fun zC => ?_)
  rw [zL_inC]
  refine J_aload_n C 2 dL_law_1183 rfl 3 rfl ?_
  refine J_aload_n C 0 dL_law_1184 rfl 1 rfl ?_
  refine J_iload C 4 dL_law_1185 0 rfl ?_
  refine J_iconst C dL_law_1187 ?_
  refine J_iaddS C ⟨by omega, by omega⟩ dL_law_1188 ?_
  refine J_sldI C hX (by omega) (by omega) (by omega) dL_law_1189 ?_
  refine J_callVE (rest := [vi v]) C EmR mw_X12_many ml_RL_132 (CJ_at (m_X12_many x.2.1 (sh 101 g) (EmR.inj (CxI C)) (xs (i + 1).toNat).toInt (rg_toInt32 _) τ hτ (v, τ') e1) (zL_R σ' τ f)) oR_0 rfl (Nat.le_trans (Nat.le_of_ble_eq_true rfl) hf) (Nat.le_trans (Nat.le_of_ble_eq_true rfl) hl) rfl rfl (Nat.le_of_ble_eq_true rfl) dL_law_1190 (fun zR => ?_)
  rw [zL_inR]
  refine J_icmp_eq C zC.1 zR.1 (tgt := 1719) dL_law_1193 (by decide) (A := some ()) (B := none) (o := ()) (if_pos rfl) (fun _ _ => ?_) (fun _ n => absurd rfl n)
  exact k zC.2 zR.2
set_option maxRecDepth 100000 in
theorem lw_order {x : Ct} {g : Gm} {nf nlc : Nat} (C : Cx x yL g 8 cL_law RL nf nlc) (hf : 8 ≤ nf) (hl : 195 ≤ nlc) {b L : Nat} {xs : Nat → Int32} (hX : XSc x yL g b L xs) (hL : L ≤ 3072) {i : Int} (hi : 0 ≤ i) (hi6 : i + 6 ≤ (L : Int)) {σ τ : Sg} {f : Int → Int} (hσ : wfS yC σ) (hτ : wfS yR τ) {v : Int} {σ' τ' : Sg} (e0 : fX11_order (xs (i + 1).toNat).toInt σ = some (v, σ')) (e1 : fX12_order (xs (i + 1).toNat).toInt τ = some (v, τ')) (k : wfS yC σ' → wfS yR τ' → J x yL g 8 1719 (lwLo g b i) [] (zL σ' τ' f)) : J x yL g 8 1198 (lwLo g b i) [] (zL σ τ f) := by
  refine J_aload_n C 1 dL_law_1198 rfl 2 rfl ?_
  refine J_aload_n C 0 dL_law_1199 rfl 1 rfl ?_
  refine J_iload C 4 dL_law_1200 0 rfl ?_
  refine J_iconst C dL_law_1202 ?_
  refine J_iaddS C ⟨by omega, by omega⟩ dL_law_1203 ?_
  refine J_sldI C hX (by omega) (by omega) (by omega) dL_law_1204 ?_
  refine J_callVE (rest := []) C EmC mw_X11_order ml_RL_133 (CJ_at (m_X11_order x.2.1 (sh 0 g) (EmC.inj (CxI C)) (xs (i + 1).toNat).toInt (rg_toInt32 _) σ hσ (v, σ') e0) (zL_C σ τ f)) oC_0 rfl (Nat.le_trans (Nat.le_of_ble_eq_true rfl) hf) (Nat.le_trans (Nat.le_of_ble_eq_true rfl) hl) (by rw [sh_0]; rfl) rfl (Nat.le_of_ble_eq_true rfl) dL_law_1205 (fun zC => ?_)
  rw [zL_inC]
  refine J_aload_n C 2 dL_law_1208 rfl 3 rfl ?_
  refine J_aload_n C 0 dL_law_1209 rfl 1 rfl ?_
  refine J_iload C 4 dL_law_1210 0 rfl ?_
  refine J_iconst C dL_law_1212 ?_
  refine J_iaddS C ⟨by omega, by omega⟩ dL_law_1213 ?_
  refine J_sldI C hX (by omega) (by omega) (by omega) dL_law_1214 ?_
  refine J_callVE (rest := [vi v]) C EmR mw_X12_order ml_RL_136 (CJ_at (m_X12_order x.2.1 (sh 101 g) (EmR.inj (CxI C)) (xs (i + 1).toNat).toInt (rg_toInt32 _) τ hτ (v, τ') e1) (zL_R σ' τ f)) oR_0 rfl (Nat.le_trans (Nat.le_of_ble_eq_true rfl) hf) (Nat.le_trans (Nat.le_of_ble_eq_true rfl) hl) rfl rfl (Nat.le_of_ble_eq_true rfl) dL_law_1215 (fun zR => ?_)
  rw [zL_inR]
  refine J_icmp_eq C zC.1 zR.1 (tgt := 1719) dL_law_1218 (by decide) (A := some ()) (B := none) (o := ()) (if_pos rfl) (fun _ _ => ?_) (fun _ n => absurd rfl n)
  exact k zC.2 zR.2
set_option maxRecDepth 100000 in
theorem lw_seen {x : Ct} {g : Gm} {nf nlc : Nat} (C : Cx x yL g 8 cL_law RL nf nlc) (hf : 2 ≤ nf) (hl : 45 ≤ nlc) {b L : Nat} {xs : Nat → Int32} (hX : XSc x yL g b L xs) (hL : L ≤ 3072) {i : Int} (hi : 0 ≤ i) (hi6 : i + 6 ≤ (L : Int)) {σ τ : Sg} {f : Int → Int} (hσ : wfS yC σ) (hτ : wfS yR τ) {v : Int} {σ' τ' : Sg} (e0 : fX11_seen (xs (i + 1).toNat).toInt (xs (i + 2).toNat).toInt σ = some (v, σ')) (e1 : fX12_seen (xs (i + 1).toNat).toInt (xs (i + 2).toNat).toInt τ = some (v, τ')) (k : wfS yC σ' → wfS yR τ' → J x yL g 8 1719 (lwLo g b i) [] (zL σ' τ' f)) : J x yL g 8 1223 (lwLo g b i) [] (zL σ τ f) := by
  refine J_aload_n C 1 dL_law_1223 rfl 2 rfl ?_
  refine J_aload_n C 0 dL_law_1224 rfl 1 rfl ?_
  refine J_iload C 4 dL_law_1225 0 rfl ?_
  refine J_iconst C dL_law_1227 ?_
  refine J_iaddS C ⟨by omega, by omega⟩ dL_law_1228 ?_
  refine J_sldI C hX (by omega) (by omega) (by omega) dL_law_1229 ?_
  refine J_aload_n C 0 dL_law_1230 rfl 1 rfl ?_
  refine J_iload C 4 dL_law_1231 0 rfl ?_
  refine J_iconst C dL_law_1233 ?_
  refine J_iaddS C ⟨by omega, by omega⟩ dL_law_1234 ?_
  refine J_sldI C hX (by omega) (by omega) (by omega) dL_law_1235 ?_
  refine J_callVE (rest := []) C EmC mw_X11_seen ml_RL_137 (CJ_at (m_X11_seen x.2.1 (sh 0 g) (EmC.inj (CxI C)) (xs (i + 1).toNat).toInt (rg_toInt32 _) (xs (i + 2).toNat).toInt (rg_toInt32 _) σ hσ (v, σ') e0) (zL_C σ τ f)) oC_0 rfl (Nat.le_trans (Nat.le_of_ble_eq_true rfl) hf) (Nat.le_trans (Nat.le_of_ble_eq_true rfl) hl) (by rw [sh_0]; rfl) rfl (Nat.le_of_ble_eq_true rfl) dL_law_1236 (fun zC => ?_)
  rw [zL_inC]
  refine J_aload_n C 2 dL_law_1239 rfl 3 rfl ?_
  refine J_aload_n C 0 dL_law_1240 rfl 1 rfl ?_
  refine J_iload C 4 dL_law_1241 0 rfl ?_
  refine J_iconst C dL_law_1243 ?_
  refine J_iaddS C ⟨by omega, by omega⟩ dL_law_1244 ?_
  refine J_sldI C hX (by omega) (by omega) (by omega) dL_law_1245 ?_
  refine J_aload_n C 0 dL_law_1246 rfl 1 rfl ?_
  refine J_iload C 4 dL_law_1247 0 rfl ?_
  refine J_iconst C dL_law_1249 ?_
  refine J_iaddS C ⟨by omega, by omega⟩ dL_law_1250 ?_
  refine J_sldI C hX (by omega) (by omega) (by omega) dL_law_1251 ?_
  refine J_callVE (rest := [vi v]) C EmR mw_X12_seen ml_RL_140 (CJ_at (m_X12_seen x.2.1 (sh 101 g) (EmR.inj (CxI C)) (xs (i + 1).toNat).toInt (rg_toInt32 _) (xs (i + 2).toNat).toInt (rg_toInt32 _) τ hτ (v, τ') e1) (zL_R σ' τ f)) oR_0 rfl (Nat.le_trans (Nat.le_of_ble_eq_true rfl) hf) (Nat.le_trans (Nat.le_of_ble_eq_true rfl) hl) rfl rfl (Nat.le_of_ble_eq_true rfl) dL_law_1252 (fun zR => ?_)
  rw [zL_inR]
  refine J_icmp_eq C zC.1 zR.1 (tgt := 1719) dL_law_1255 (by decide) (A := some ()) (B := none) (o := ()) (if_pos rfl) (fun _ _ => ?_) (fun _ n => absurd rfl n)
  exact k zC.2 zR.2
set_option maxRecDepth 100000 in
theorem lw_unseen {x : Ct} {g : Gm} {nf nlc : Nat} (C : Cx x yL g 8 cL_law RL nf nlc) (hf : 1 ≤ nf) (hl : 21 ≤ nlc) {b L : Nat} {xs : Nat → Int32} (hX : XSc x yL g b L xs) (hL : L ≤ 3072) {i : Int} (hi : 0 ≤ i) (hi6 : i + 6 ≤ (L : Int)) {σ τ : Sg} {f : Int → Int} (hσ : wfS yC σ) (hτ : wfS yR τ) {v : Int} {σ' τ' : Sg} (e0 : fX11_unseen  σ = some (v, σ')) (e1 : fX12_unseen  τ = some (v, τ')) (k : wfS yC σ' → wfS yR τ' → J x yL g 8 1719 (lwLo g b i) [] (zL σ' τ' f)) : J x yL g 8 1260 (lwLo g b i) [] (zL σ τ f) := by
  refine J_aload_n C 1 dL_law_1260 rfl 2 rfl ?_
  refine J_callVE (rest := []) C EmC mw_X11_unseen ml_RL_141 (CJ_at (m_X11_unseen x.2.1 (sh 0 g) (EmC.inj (CxI C)) σ hσ (v, σ') e0) (zL_C σ τ f)) oC_0 rfl (Nat.le_trans (Nat.le_of_ble_eq_true rfl) hf) (Nat.le_trans (Nat.le_of_ble_eq_true rfl) hl) (by rw [sh_0]; rfl) rfl (Nat.le_of_ble_eq_true rfl) dL_law_1261 (fun zC => ?_)
  rw [zL_inC]
  refine J_aload_n C 2 dL_law_1264 rfl 3 rfl ?_
  refine J_callVE (rest := [vi v]) C EmR mw_X12_unseen ml_RL_144 (CJ_at (m_X12_unseen x.2.1 (sh 101 g) (EmR.inj (CxI C)) τ hτ (v, τ') e1) (zL_R σ' τ f)) oR_0 rfl (Nat.le_trans (Nat.le_of_ble_eq_true rfl) hf) (Nat.le_trans (Nat.le_of_ble_eq_true rfl) hl) rfl rfl (Nat.le_of_ble_eq_true rfl) dL_law_1265 (fun zR => ?_)
  rw [zL_inR]
  refine J_icmp_eq C zC.1 zR.1 (tgt := 1719) dL_law_1268 (by decide) (A := some ()) (B := none) (o := ()) (if_pos rfl) (fun _ _ => ?_) (fun _ n => absurd rfl n)
  exact k zC.2 zR.2
set_option maxRecDepth 100000 in
theorem lw_duds {x : Ct} {g : Gm} {nf nlc : Nat} (C : Cx x yL g 8 cL_law RL nf nlc) (hf : 67 ≤ nf) (hl : 1474 ≤ nlc) {b L : Nat} {xs : Nat → Int32} (hX : XSc x yL g b L xs) (hL : L ≤ 3072) {i : Int} (hi : 0 ≤ i) (hi6 : i + 6 ≤ (L : Int)) {σ τ : Sg} {f : Int → Int} (hσ : wfS yC σ) (hτ : wfS yR τ) {v : Int} {σ' τ' : Sg} (e0 : fX11_duds  σ = some (v, σ')) (e1 : fX12_duds  τ = some (v, τ')) (k : wfS yC σ' → wfS yR τ' → J x yL g 8 1719 (lwLo g b i) [] (zL σ' τ' f)) : J x yL g 8 1273 (lwLo g b i) [] (zL σ τ f) := by
  refine J_aload_n C 1 dL_law_1273 rfl 2 rfl ?_
  refine J_callVE (rest := []) C EmC mw_X11_duds ml_RL_145 (CJ_at (m_X11_duds x.2.1 (sh 0 g) (EmC.inj (CxI C)) σ hσ (v, σ') e0) (zL_C σ τ f)) oC_0 rfl (Nat.le_trans (Nat.le_of_ble_eq_true rfl) hf) (Nat.le_trans (Nat.le_of_ble_eq_true rfl) hl) (by rw [sh_0]; rfl) rfl (Nat.le_of_ble_eq_true rfl) dL_law_1274 (fun zC => ?_)
  rw [zL_inC]
  refine J_aload_n C 2 dL_law_1277 rfl 3 rfl ?_
  refine J_callVE (rest := [vi v]) C EmR mw_X12_duds ml_RL_148 (CJ_at (m_X12_duds x.2.1 (sh 101 g) (EmR.inj (CxI C)) τ hτ (v, τ') e1) (zL_R σ' τ f)) oR_0 rfl (Nat.le_trans (Nat.le_of_ble_eq_true rfl) hf) (Nat.le_trans (Nat.le_of_ble_eq_true rfl) hl) rfl rfl (Nat.le_of_ble_eq_true rfl) dL_law_1278 (fun zR => ?_)
  rw [zL_inR]
  refine J_icmp_eq C zC.1 zR.1 (tgt := 1719) dL_law_1281 (by decide) (A := some ()) (B := none) (o := ()) (if_pos rfl) (fun _ _ => ?_) (fun _ n => absurd rfl n)
  exact k zC.2 zR.2
set_option maxRecDepth 100000 in
theorem lw_dud {x : Ct} {g : Gm} {nf nlc : Nat} (C : Cx x yL g 8 cL_law RL nf nlc) (hf : 67 ≤ nf) (hl : 1475 ≤ nlc) {b L : Nat} {xs : Nat → Int32} (hX : XSc x yL g b L xs) (hL : L ≤ 3072) {i : Int} (hi : 0 ≤ i) (hi6 : i + 6 ≤ (L : Int)) {σ τ : Sg} {f : Int → Int} (hσ : wfS yC σ) (hτ : wfS yR τ) {v : Int} {σ' τ' : Sg} (e0 : fX11_dud (xs (i + 1).toNat).toInt σ = some (v, σ')) (e1 : fX12_dud (xs (i + 1).toNat).toInt τ = some (v, τ')) (k : wfS yC σ' → wfS yR τ' → J x yL g 8 1719 (lwLo g b i) [] (zL σ' τ' f)) : J x yL g 8 1286 (lwLo g b i) [] (zL σ τ f) := by
  refine J_aload_n C 1 dL_law_1286 rfl 2 rfl ?_
  refine J_aload_n C 0 dL_law_1287 rfl 1 rfl ?_
  refine J_iload C 4 dL_law_1288 0 rfl ?_
  refine J_iconst C dL_law_1290 ?_
  refine J_iaddS C ⟨by omega, by omega⟩ dL_law_1291 ?_
  refine J_sldI C hX (by omega) (by omega) (by omega) dL_law_1292 ?_
  refine J_callVE (rest := []) C EmC mw_X11_dud ml_RL_149 (CJ_at (m_X11_dud x.2.1 (sh 0 g) (EmC.inj (CxI C)) (xs (i + 1).toNat).toInt (rg_toInt32 _) σ hσ (v, σ') e0) (zL_C σ τ f)) oC_0 rfl (Nat.le_trans (Nat.le_of_ble_eq_true rfl) hf) (Nat.le_trans (Nat.le_of_ble_eq_true rfl) hl) (by rw [sh_0]; rfl) rfl (Nat.le_of_ble_eq_true rfl) dL_law_1293 (fun zC => ?_)
  rw [zL_inC]
  refine J_aload_n C 2 dL_law_1296 rfl 3 rfl ?_
  refine J_aload_n C 0 dL_law_1297 rfl 1 rfl ?_
  refine J_iload C 4 dL_law_1298 0 rfl ?_
  refine J_iconst C dL_law_1300 ?_
  refine J_iaddS C ⟨by omega, by omega⟩ dL_law_1301 ?_
  refine J_sldI C hX (by omega) (by omega) (by omega) dL_law_1302 ?_
  refine J_callVE (rest := [vi v]) C EmR mw_X12_dud ml_RL_152 (CJ_at (m_X12_dud x.2.1 (sh 101 g) (EmR.inj (CxI C)) (xs (i + 1).toNat).toInt (rg_toInt32 _) τ hτ (v, τ') e1) (zL_R σ' τ f)) oR_0 rfl (Nat.le_trans (Nat.le_of_ble_eq_true rfl) hf) (Nat.le_trans (Nat.le_of_ble_eq_true rfl) hl) rfl rfl (Nat.le_of_ble_eq_true rfl) dL_law_1303 (fun zR => ?_)
  rw [zL_inR]
  refine J_icmp_eq C zC.1 zR.1 (tgt := 1719) dL_law_1306 (by decide) (A := some ()) (B := none) (o := ()) (if_pos rfl) (fun _ _ => ?_) (fun _ n => absurd rfl n)
  exact k zC.2 zR.2
set_option maxRecDepth 100000 in
theorem lw_strange {x : Ct} {g : Gm} {nf nlc : Nat} (C : Cx x yL g 8 cL_law RL nf nlc) (hf : 67 ≤ nf) (hl : 1472 ≤ nlc) {b L : Nat} {xs : Nat → Int32} (hX : XSc x yL g b L xs) (hL : L ≤ 3072) {i : Int} (hi : 0 ≤ i) (hi6 : i + 6 ≤ (L : Int)) {σ τ : Sg} {f : Int → Int} (hσ : wfS yC σ) (hτ : wfS yR τ) {v : Int} {σ' τ' : Sg} (e0 : fX11_strange  σ = some (v, σ')) (e1 : fX12_strange  τ = some (v, τ')) (k : wfS yC σ' → wfS yR τ' → J x yL g 8 1719 (lwLo g b i) [] (zL σ' τ' f)) : J x yL g 8 1311 (lwLo g b i) [] (zL σ τ f) := by
  refine J_aload_n C 1 dL_law_1311 rfl 2 rfl ?_
  refine J_callVE (rest := []) C EmC mw_X11_strange ml_RL_153 (CJ_at (m_X11_strange x.2.1 (sh 0 g) (EmC.inj (CxI C)) σ hσ (v, σ') e0) (zL_C σ τ f)) oC_0 rfl (Nat.le_trans (Nat.le_of_ble_eq_true rfl) hf) (Nat.le_trans (Nat.le_of_ble_eq_true rfl) hl) (by rw [sh_0]; rfl) rfl (Nat.le_of_ble_eq_true rfl) dL_law_1312 (fun zC => ?_)
  rw [zL_inC]
  refine J_aload_n C 2 dL_law_1315 rfl 3 rfl ?_
  refine J_callVE (rest := [vi v]) C EmR mw_X12_strange ml_RL_156 (CJ_at (m_X12_strange x.2.1 (sh 101 g) (EmR.inj (CxI C)) τ hτ (v, τ') e1) (zL_R σ' τ f)) oR_0 rfl (Nat.le_trans (Nat.le_of_ble_eq_true rfl) hf) (Nat.le_trans (Nat.le_of_ble_eq_true rfl) hl) rfl rfl (Nat.le_of_ble_eq_true rfl) dL_law_1316 (fun zR => ?_)
  rw [zL_inR]
  refine J_icmp_eq C zC.1 zR.1 (tgt := 1719) dL_law_1319 (by decide) (A := some ()) (B := none) (o := ()) (if_pos rfl) (fun _ _ => ?_) (fun _ n => absurd rfl n)
  exact k zC.2 zR.2
set_option maxRecDepth 100000 in
theorem lw_tape {x : Ct} {g : Gm} {nf nlc : Nat} (C : Cx x yL g 8 cL_law RL nf nlc) (hf : 3 ≤ nf) (hl : 106 ≤ nlc) {b L : Nat} {xs : Nat → Int32} (hX : XSc x yL g b L xs) (hL : L ≤ 3072) {i : Int} (hi : 0 ≤ i) (hi6 : i + 6 ≤ (L : Int)) {σ τ : Sg} {f : Int → Int} (hσ : wfS yC σ) (hτ : wfS yR τ) {v : Int} {σ' τ' : Sg} (e0 : fX11_tape (xs (i + 1).toNat).toInt (xs (i + 2).toNat).toInt (xs (i + 3).toNat).toInt σ = some (v, σ')) (e1 : fX12_tape (xs (i + 1).toNat).toInt (xs (i + 2).toNat).toInt (xs (i + 3).toNat).toInt τ = some (v, τ')) (k : wfS yC σ' → wfS yR τ' → J x yL g 8 1719 (lwLo g b i) [] (zL σ' τ' f)) : J x yL g 8 1324 (lwLo g b i) [] (zL σ τ f) := by
  refine J_aload_n C 1 dL_law_1324 rfl 2 rfl ?_
  refine J_aload_n C 0 dL_law_1325 rfl 1 rfl ?_
  refine J_iload C 4 dL_law_1326 0 rfl ?_
  refine J_iconst C dL_law_1328 ?_
  refine J_iaddS C ⟨by omega, by omega⟩ dL_law_1329 ?_
  refine J_sldI C hX (by omega) (by omega) (by omega) dL_law_1330 ?_
  refine J_aload_n C 0 dL_law_1331 rfl 1 rfl ?_
  refine J_iload C 4 dL_law_1332 0 rfl ?_
  refine J_iconst C dL_law_1334 ?_
  refine J_iaddS C ⟨by omega, by omega⟩ dL_law_1335 ?_
  refine J_sldI C hX (by omega) (by omega) (by omega) dL_law_1336 ?_
  refine J_aload_n C 0 dL_law_1337 rfl 1 rfl ?_
  refine J_iload C 4 dL_law_1338 0 rfl ?_
  refine J_iconst C dL_law_1340 ?_
  refine J_iaddS C ⟨by omega, by omega⟩ dL_law_1341 ?_
  refine J_sldI C hX (by omega) (by omega) (by omega) dL_law_1342 ?_
  refine J_callVE (rest := []) C EmC mw_X11_tape ml_RL_157 (CJ_at (m_X11_tape x.2.1 (sh 0 g) (EmC.inj (CxI C)) (xs (i + 1).toNat).toInt (rg_toInt32 _) (xs (i + 2).toNat).toInt (rg_toInt32 _) (xs (i + 3).toNat).toInt (rg_toInt32 _) σ hσ (v, σ') e0) (zL_C σ τ f)) oC_0 rfl (Nat.le_trans (Nat.le_of_ble_eq_true rfl) hf) (Nat.le_trans (Nat.le_of_ble_eq_true rfl) hl) (by rw [sh_0]; rfl) rfl (Nat.le_of_ble_eq_true rfl) dL_law_1343 (fun zC => ?_)
  rw [zL_inC]
  refine J_aload_n C 2 dL_law_1346 rfl 3 rfl ?_
  refine J_aload_n C 0 dL_law_1347 rfl 1 rfl ?_
  refine J_iload C 4 dL_law_1348 0 rfl ?_
  refine J_iconst C dL_law_1350 ?_
  refine J_iaddS C ⟨by omega, by omega⟩ dL_law_1351 ?_
  refine J_sldI C hX (by omega) (by omega) (by omega) dL_law_1352 ?_
  refine J_aload_n C 0 dL_law_1353 rfl 1 rfl ?_
  refine J_iload C 4 dL_law_1354 0 rfl ?_
  refine J_iconst C dL_law_1356 ?_
  refine J_iaddS C ⟨by omega, by omega⟩ dL_law_1357 ?_
  refine J_sldI C hX (by omega) (by omega) (by omega) dL_law_1358 ?_
  refine J_aload_n C 0 dL_law_1359 rfl 1 rfl ?_
  refine J_iload C 4 dL_law_1360 0 rfl ?_
  refine J_iconst C dL_law_1362 ?_
  refine J_iaddS C ⟨by omega, by omega⟩ dL_law_1363 ?_
  refine J_sldI C hX (by omega) (by omega) (by omega) dL_law_1364 ?_
  refine J_callVE (rest := [vi v]) C EmR mw_X12_tape ml_RL_160 (CJ_at (m_X12_tape x.2.1 (sh 101 g) (EmR.inj (CxI C)) (xs (i + 1).toNat).toInt (rg_toInt32 _) (xs (i + 2).toNat).toInt (rg_toInt32 _) (xs (i + 3).toNat).toInt (rg_toInt32 _) τ hτ (v, τ') e1) (zL_R σ' τ f)) oR_0 rfl (Nat.le_trans (Nat.le_of_ble_eq_true rfl) hf) (Nat.le_trans (Nat.le_of_ble_eq_true rfl) hl) rfl rfl (Nat.le_of_ble_eq_true rfl) dL_law_1365 (fun zR => ?_)
  rw [zL_inR]
  refine J_icmp_eq C zC.1 zR.1 (tgt := 1719) dL_law_1368 (by decide) (A := some ()) (B := none) (o := ()) (if_pos rfl) (fun _ _ => ?_) (fun _ n => absurd rfl n)
  exact k zC.2 zR.2
set_option maxRecDepth 100000 in
theorem lw_keep {x : Ct} {g : Gm} {nf nlc : Nat} (C : Cx x yL g 8 cL_law RL nf nlc) (hf : 4 ≤ nf) (hl : 124 ≤ nlc) {b L : Nat} {xs : Nat → Int32} (hX : XSc x yL g b L xs) (hL : L ≤ 3072) {i : Int} (hi : 0 ≤ i) (hi6 : i + 6 ≤ (L : Int)) {σ τ : Sg} {f : Int → Int} (hσ : wfS yC σ) (hτ : wfS yR τ) {v : Int} {σ' τ' : Sg} (e0 : fX11_keep (xs (i + 1).toNat).toInt σ = some (v, σ')) (e1 : fX12_keep (xs (i + 1).toNat).toInt τ = some (v, τ')) (k : wfS yC σ' → wfS yR τ' → J x yL g 8 1719 (lwLo g b i) [] (zL σ' τ' f)) : J x yL g 8 1373 (lwLo g b i) [] (zL σ τ f) := by
  refine J_aload_n C 1 dL_law_1373 rfl 2 rfl ?_
  refine J_aload_n C 0 dL_law_1374 rfl 1 rfl ?_
  refine J_iload C 4 dL_law_1375 0 rfl ?_
  refine J_iconst C dL_law_1377 ?_
  refine J_iaddS C ⟨by omega, by omega⟩ dL_law_1378 ?_
  refine J_sldI C hX (by omega) (by omega) (by omega) dL_law_1379 ?_
  refine J_callVE (rest := []) C EmC mw_X11_keep ml_RL_161 (CJ_at (m_X11_keep x.2.1 (sh 0 g) (EmC.inj (CxI C)) (xs (i + 1).toNat).toInt (rg_toInt32 _) σ hσ (v, σ') e0) (zL_C σ τ f)) oC_0 rfl (Nat.le_trans (Nat.le_of_ble_eq_true rfl) hf) (Nat.le_trans (Nat.le_of_ble_eq_true rfl) hl) (by rw [sh_0]; rfl) rfl (Nat.le_of_ble_eq_true rfl) dL_law_1380 (fun zC => ?_)
  rw [zL_inC]
  refine J_aload_n C 2 dL_law_1383 rfl 3 rfl ?_
  refine J_aload_n C 0 dL_law_1384 rfl 1 rfl ?_
  refine J_iload C 4 dL_law_1385 0 rfl ?_
  refine J_iconst C dL_law_1387 ?_
  refine J_iaddS C ⟨by omega, by omega⟩ dL_law_1388 ?_
  refine J_sldI C hX (by omega) (by omega) (by omega) dL_law_1389 ?_
  refine J_callVE (rest := [vi v]) C EmR mw_X12_keep ml_RL_164 (CJ_at (m_X12_keep x.2.1 (sh 101 g) (EmR.inj (CxI C)) (xs (i + 1).toNat).toInt (rg_toInt32 _) τ hτ (v, τ') e1) (zL_R σ' τ f)) oR_0 rfl (Nat.le_trans (Nat.le_of_ble_eq_true rfl) hf) (Nat.le_trans (Nat.le_of_ble_eq_true rfl) hl) rfl rfl (Nat.le_of_ble_eq_true rfl) dL_law_1390 (fun zR => ?_)
  rw [zL_inR]
  refine J_icmp_eq C zC.1 zR.1 (tgt := 1719) dL_law_1393 (by decide) (A := some ()) (B := none) (o := ()) (if_pos rfl) (fun _ _ => ?_) (fun _ n => absurd rfl n)
  exact k zC.2 zR.2
set_option maxRecDepth 100000 in
theorem lw_back {x : Ct} {g : Gm} {nf nlc : Nat} (C : Cx x yL g 8 cL_law RL nf nlc) (hf : 4 ≤ nf) (hl : 126 ≤ nlc) {b L : Nat} {xs : Nat → Int32} (hX : XSc x yL g b L xs) (hL : L ≤ 3072) {i : Int} (hi : 0 ≤ i) (hi6 : i + 6 ≤ (L : Int)) {σ τ : Sg} {f : Int → Int} (hσ : wfS yC σ) (hτ : wfS yR τ) {v : Int} {σ' τ' : Sg} (e0 : fX11_back (xs (i + 1).toNat).toInt σ = some (v, σ')) (e1 : fX12_back (xs (i + 1).toNat).toInt τ = some (v, τ')) (k : wfS yC σ' → wfS yR τ' → J x yL g 8 1719 (lwLo g b i) [] (zL σ' τ' f)) : J x yL g 8 1398 (lwLo g b i) [] (zL σ τ f) := by
  refine J_aload_n C 1 dL_law_1398 rfl 2 rfl ?_
  refine J_aload_n C 0 dL_law_1399 rfl 1 rfl ?_
  refine J_iload C 4 dL_law_1400 0 rfl ?_
  refine J_iconst C dL_law_1402 ?_
  refine J_iaddS C ⟨by omega, by omega⟩ dL_law_1403 ?_
  refine J_sldI C hX (by omega) (by omega) (by omega) dL_law_1404 ?_
  refine J_callVE (rest := []) C EmC mw_X11_back ml_RL_165 (CJ_at (m_X11_back x.2.1 (sh 0 g) (EmC.inj (CxI C)) (xs (i + 1).toNat).toInt (rg_toInt32 _) σ hσ (v, σ') e0) (zL_C σ τ f)) oC_0 rfl (Nat.le_trans (Nat.le_of_ble_eq_true rfl) hf) (Nat.le_trans (Nat.le_of_ble_eq_true rfl) hl) (by rw [sh_0]; rfl) rfl (Nat.le_of_ble_eq_true rfl) dL_law_1405 (fun zC => ?_)
  rw [zL_inC]
  refine J_aload_n C 2 dL_law_1408 rfl 3 rfl ?_
  refine J_aload_n C 0 dL_law_1409 rfl 1 rfl ?_
  refine J_iload C 4 dL_law_1410 0 rfl ?_
  refine J_iconst C dL_law_1412 ?_
  refine J_iaddS C ⟨by omega, by omega⟩ dL_law_1413 ?_
  refine J_sldI C hX (by omega) (by omega) (by omega) dL_law_1414 ?_
  refine J_callVE (rest := [vi v]) C EmR mw_X12_back ml_RL_168 (CJ_at (m_X12_back x.2.1 (sh 101 g) (EmR.inj (CxI C)) (xs (i + 1).toNat).toInt (rg_toInt32 _) τ hτ (v, τ') e1) (zL_R σ' τ f)) oR_0 rfl (Nat.le_trans (Nat.le_of_ble_eq_true rfl) hf) (Nat.le_trans (Nat.le_of_ble_eq_true rfl) hl) rfl rfl (Nat.le_of_ble_eq_true rfl) dL_law_1415 (fun zR => ?_)
  rw [zL_inR]
  refine J_icmp_eq C zC.1 zR.1 (tgt := 1719) dL_law_1418 (by decide) (A := some ()) (B := none) (o := ()) (if_pos rfl) (fun _ _ => ?_) (fun _ n => absurd rfl n)
  exact k zC.2 zR.2
set_option maxRecDepth 100000 in
theorem lw_toss {x : Ct} {g : Gm} {nf nlc : Nat} (C : Cx x yL g 8 cL_law RL nf nlc) (C2 : Cx (bump x 1 6) yL g 8 cL_law RL nf nlc) {l : Launch} (hlt : l.stackTraces = false) (hxl : x.2.1 = l) (hf : 8 ≤ nf) (hl : 154 ≤ nlc) {b L : Nat} {xs : Nat → Int32} (hX : XSc x yL g b L xs) (hL : L ≤ 3072) {i : Int} (hi : 0 ≤ i) (hi6 : i + 6 ≤ (L : Int)) {σ τ : Sg} {f : Int → Int} (hσ : wfS yC σ) (hτ : wfS yR τ) {v : Int} {σ' τ' : Sg} (e0 : fX11_toss (xs (i + 1).toNat).toInt σ = some (v, σ')) (e1 : fX12_toss (xs (i + 1).toNat).toInt τ = some (v, τ')) (k : wfS yC σ' → wfS yR τ' → J (bump x 1 6) yL g 8 1719 (lwLo g b i) [] (zL σ' τ' f)) : J x yL g 8 1423 (lwLo g b i) [] (zL σ τ f) := by
  refine J_aload_n C 1 dL_law_1423 rfl 2 rfl ?_
  refine J_aload_n C 0 dL_law_1424 rfl 1 rfl ?_
  refine J_iload C 4 dL_law_1425 0 rfl ?_
  refine J_iconst C dL_law_1427 ?_
  refine J_iaddS C ⟨by omega, by omega⟩ dL_law_1428 ?_
  refine J_sldI C hX (by omega) (by omega) (by omega) dL_law_1429 ?_
  refine J_callVEH (rest := []) C C2 EmC mwh_X11_toss ml_RL_169 (CH_at (h_X11_toss x.2.1 (sh 0 g) (EmC.inj (CxI C)) (by rw [hxl]; exact hlt) (xs (i + 1).toNat).toInt (rg_toInt32 _)  σ hσ (v, σ') e0) (zL_C σ τ f)) oC_0 rfl (Nat.le_trans (Nat.le_of_ble_eq_true rfl) hf) (Nat.le_trans (Nat.le_of_ble_eq_true rfl) hl) (by rw [sh_0]; rfl) rfl (Nat.le_of_ble_eq_true rfl) dL_law_1430 (fun zC => ?_)
  have C := C2
  have hX := hX.bump 1 6
  rw [zL_inC]
  refine J_aload_n C 2 dL_law_1433 rfl 3 rfl ?_
  refine J_aload_n C 0 dL_law_1434 rfl 1 rfl ?_
  refine J_iload C 4 dL_law_1435 0 rfl ?_
  refine J_iconst C dL_law_1437 ?_
  refine J_iaddS C ⟨by omega, by omega⟩ dL_law_1438 ?_
  refine J_sldI C hX (by omega) (by omega) (by omega) dL_law_1439 ?_
  refine J_callVE (rest := [vi v]) C EmR mw_X12_toss ml_RL_172 (CJ_at (m_X12_toss x.2.1 (sh 101 g) (EmR.inj (CxI C)) (xs (i + 1).toNat).toInt (rg_toInt32 _) τ hτ (v, τ') e1) (zL_R σ' τ f)) oR_0 rfl (Nat.le_trans (Nat.le_of_ble_eq_true rfl) hf) (Nat.le_trans (Nat.le_of_ble_eq_true rfl) hl) rfl rfl (Nat.le_of_ble_eq_true rfl) dL_law_1440 (fun zR => ?_)
  rw [zL_inR]
  refine J_icmp_eq C zC.1 zR.1 (tgt := 1719) dL_law_1443 (by decide) (A := some ()) (B := none) (o := ()) (if_pos rfl) (fun _ _ => ?_) (fun _ n => absurd rfl n)
  exact k zC.2 zR.2
set_option maxRecDepth 100000 in
theorem lw_clear {x : Ct} {g : Gm} {nf nlc : Nat} (C : Cx x yL g 8 cL_law RL nf nlc) (hf : 3 ≤ nf) (hl : 64 ≤ nlc) {b L : Nat} {xs : Nat → Int32} (hX : XSc x yL g b L xs) (hL : L ≤ 3072) {i : Int} (hi : 0 ≤ i) (hi6 : i + 6 ≤ (L : Int)) {σ τ : Sg} {f : Int → Int} (hσ : wfS yC σ) (hτ : wfS yR τ) {v : Int} {σ' τ' : Sg} (e0 : fX11_clear (xs (i + 1).toNat).toInt σ = some (v, σ')) (e1 : fX12_clear (xs (i + 1).toNat).toInt τ = some (v, τ')) (k : wfS yC σ' → wfS yR τ' → J x yL g 8 1719 (lwLo g b i) [] (zL σ' τ' f)) : J x yL g 8 1448 (lwLo g b i) [] (zL σ τ f) := by
  refine J_aload_n C 1 dL_law_1448 rfl 2 rfl ?_
  refine J_aload_n C 0 dL_law_1449 rfl 1 rfl ?_
  refine J_iload C 4 dL_law_1450 0 rfl ?_
  refine J_iconst C dL_law_1452 ?_
  refine J_iaddS C ⟨by omega, by omega⟩ dL_law_1453 ?_
  refine J_sldI C hX (by omega) (by omega) (by omega) dL_law_1454 ?_
  refine J_callVE (rest := []) C EmC mw_X11_clear ml_RL_173 (CJ_at (m_X11_clear x.2.1 (sh 0 g) (EmC.inj (CxI C)) (xs (i + 1).toNat).toInt (rg_toInt32 _) σ hσ (v, σ') e0) (zL_C σ τ f)) oC_0 rfl (Nat.le_trans (Nat.le_of_ble_eq_true rfl) hf) (Nat.le_trans (Nat.le_of_ble_eq_true rfl) hl) (by rw [sh_0]; rfl) rfl (Nat.le_of_ble_eq_true rfl) dL_law_1455 (fun zC => ?_)
  rw [zL_inC]
  refine J_aload_n C 2 dL_law_1458 rfl 3 rfl ?_
  refine J_aload_n C 0 dL_law_1459 rfl 1 rfl ?_
  refine J_iload C 4 dL_law_1460 0 rfl ?_
  refine J_iconst C dL_law_1462 ?_
  refine J_iaddS C ⟨by omega, by omega⟩ dL_law_1463 ?_
  refine J_sldI C hX (by omega) (by omega) (by omega) dL_law_1464 ?_
  refine J_callVE (rest := [vi v]) C EmR mw_X12_clear ml_RL_176 (CJ_at (m_X12_clear x.2.1 (sh 101 g) (EmR.inj (CxI C)) (xs (i + 1).toNat).toInt (rg_toInt32 _) τ hτ (v, τ') e1) (zL_R σ' τ f)) oR_0 rfl (Nat.le_trans (Nat.le_of_ble_eq_true rfl) hf) (Nat.le_trans (Nat.le_of_ble_eq_true rfl) hl) rfl rfl (Nat.le_of_ble_eq_true rfl) dL_law_1465 (fun zR => ?_)
  rw [zL_inR]
  refine J_icmp_eq C zC.1 zR.1 (tgt := 1719) dL_law_1468 (by decide) (A := some ()) (B := none) (o := ()) (if_pos rfl) (fun _ _ => ?_) (fun _ n => absurd rfl n)
  exact k zC.2 zR.2
set_option maxRecDepth 100000 in
theorem lw_copy {x : Ct} {g : Gm} {nf nlc : Nat} (C : Cx x yL g 8 cL_law RL nf nlc) (hf : 3 ≤ nf) (hl : 87 ≤ nlc) {b L : Nat} {xs : Nat → Int32} (hX : XSc x yL g b L xs) (hL : L ≤ 3072) {i : Int} (hi : 0 ≤ i) (hi6 : i + 6 ≤ (L : Int)) {σ τ : Sg} {f : Int → Int} (hσ : wfS yC σ) (hτ : wfS yR τ) {v : Int} {σ' τ' : Sg} (e0 : fX11_copy (xs (i + 1).toNat).toInt (xs (i + 2).toNat).toInt (xs (i + 3).toNat).toInt (xs (i + 4).toNat).toInt (xs (i + 5).toNat).toInt σ = some (v, σ')) (e1 : fX12_copy (xs (i + 1).toNat).toInt (xs (i + 2).toNat).toInt (xs (i + 3).toNat).toInt (xs (i + 4).toNat).toInt (xs (i + 5).toNat).toInt τ = some (v, τ')) (k : wfS yC σ' → wfS yR τ' → J x yL g 8 1719 (lwLo g b i) [] (zL σ' τ' f)) : J x yL g 8 1621 (lwLo g b i) [] (zL σ τ f) := by
  refine J_aload_n C 1 dL_law_1621 rfl 2 rfl ?_
  refine J_aload_n C 0 dL_law_1622 rfl 1 rfl ?_
  refine J_iload C 4 dL_law_1623 0 rfl ?_
  refine J_iconst C dL_law_1625 ?_
  refine J_iaddS C ⟨by omega, by omega⟩ dL_law_1626 ?_
  refine J_sldI C hX (by omega) (by omega) (by omega) dL_law_1627 ?_
  refine J_aload_n C 0 dL_law_1628 rfl 1 rfl ?_
  refine J_iload C 4 dL_law_1629 0 rfl ?_
  refine J_iconst C dL_law_1631 ?_
  refine J_iaddS C ⟨by omega, by omega⟩ dL_law_1632 ?_
  refine J_sldI C hX (by omega) (by omega) (by omega) dL_law_1633 ?_
  refine J_aload_n C 0 dL_law_1634 rfl 1 rfl ?_
  refine J_iload C 4 dL_law_1635 0 rfl ?_
  refine J_iconst C dL_law_1637 ?_
  refine J_iaddS C ⟨by omega, by omega⟩ dL_law_1638 ?_
  refine J_sldI C hX (by omega) (by omega) (by omega) dL_law_1639 ?_
  refine J_aload_n C 0 dL_law_1640 rfl 1 rfl ?_
  refine J_iload C 4 dL_law_1641 0 rfl ?_
  refine J_iconst C dL_law_1643 ?_
  refine J_iaddS C ⟨by omega, by omega⟩ dL_law_1644 ?_
  refine J_sldI C hX (by omega) (by omega) (by omega) dL_law_1645 ?_
  refine J_aload_n C 0 dL_law_1646 rfl 1 rfl ?_
  refine J_iload C 4 dL_law_1647 0 rfl ?_
  refine J_iconst C dL_law_1649 ?_
  refine J_iaddS C ⟨by omega, by omega⟩ dL_law_1650 ?_
  refine J_sldI C hX (by omega) (by omega) (by omega) dL_law_1651 ?_
  refine J_callVE (rest := []) C EmC mw_X11_copy ml_RL_187 (CJ_at (m_X11_copy x.2.1 (sh 0 g) (EmC.inj (CxI C)) (xs (i + 1).toNat).toInt (rg_toInt32 _) (xs (i + 2).toNat).toInt (rg_toInt32 _) (xs (i + 3).toNat).toInt (rg_toInt32 _) (xs (i + 4).toNat).toInt (rg_toInt32 _) (xs (i + 5).toNat).toInt (rg_toInt32 _) σ hσ (v, σ') e0) (zL_C σ τ f)) oC_0 rfl (Nat.le_trans (Nat.le_of_ble_eq_true rfl) hf) (Nat.le_trans (Nat.le_of_ble_eq_true rfl) hl) (by rw [sh_0]; rfl) rfl (Nat.le_of_ble_eq_true rfl) dL_law_1652 (fun zC => ?_)
  rw [zL_inC]
  refine J_aload_n C 2 dL_law_1655 rfl 3 rfl ?_
  refine J_aload_n C 0 dL_law_1656 rfl 1 rfl ?_
  refine J_iload C 4 dL_law_1657 0 rfl ?_
  refine J_iconst C dL_law_1659 ?_
  refine J_iaddS C ⟨by omega, by omega⟩ dL_law_1660 ?_
  refine J_sldI C hX (by omega) (by omega) (by omega) dL_law_1661 ?_
  refine J_aload_n C 0 dL_law_1662 rfl 1 rfl ?_
  refine J_iload C 4 dL_law_1663 0 rfl ?_
  refine J_iconst C dL_law_1665 ?_
  refine J_iaddS C ⟨by omega, by omega⟩ dL_law_1666 ?_
  refine J_sldI C hX (by omega) (by omega) (by omega) dL_law_1667 ?_
  refine J_aload_n C 0 dL_law_1668 rfl 1 rfl ?_
  refine J_iload C 4 dL_law_1669 0 rfl ?_
  refine J_iconst C dL_law_1671 ?_
  refine J_iaddS C ⟨by omega, by omega⟩ dL_law_1672 ?_
  refine J_sldI C hX (by omega) (by omega) (by omega) dL_law_1673 ?_
  refine J_aload_n C 0 dL_law_1674 rfl 1 rfl ?_
  refine J_iload C 4 dL_law_1675 0 rfl ?_
  refine J_iconst C dL_law_1677 ?_
  refine J_iaddS C ⟨by omega, by omega⟩ dL_law_1678 ?_
  refine J_sldI C hX (by omega) (by omega) (by omega) dL_law_1679 ?_
  refine J_aload_n C 0 dL_law_1680 rfl 1 rfl ?_
  refine J_iload C 4 dL_law_1681 0 rfl ?_
  refine J_iconst C dL_law_1683 ?_
  refine J_iaddS C ⟨by omega, by omega⟩ dL_law_1684 ?_
  refine J_sldI C hX (by omega) (by omega) (by omega) dL_law_1685 ?_
  refine J_callVE (rest := [vi v]) C EmR mw_X12_copy ml_RL_190 (CJ_at (m_X12_copy x.2.1 (sh 101 g) (EmR.inj (CxI C)) (xs (i + 1).toNat).toInt (rg_toInt32 _) (xs (i + 2).toNat).toInt (rg_toInt32 _) (xs (i + 3).toNat).toInt (rg_toInt32 _) (xs (i + 4).toNat).toInt (rg_toInt32 _) (xs (i + 5).toNat).toInt (rg_toInt32 _) τ hτ (v, τ') e1) (zL_R σ' τ f)) oR_0 rfl (Nat.le_trans (Nat.le_of_ble_eq_true rfl) hf) (Nat.le_trans (Nat.le_of_ble_eq_true rfl) hl) rfl rfl (Nat.le_of_ble_eq_true rfl) dL_law_1686 (fun zR => ?_)
  rw [zL_inR]
  refine J_icmp_eq C zC.1 zR.1 (tgt := 1719) dL_law_1689 (by decide) (A := some ()) (B := none) (o := ()) (if_pos rfl) (fun _ _ => ?_) (fun _ n => absurd rfl n)
  exact k zC.2 zR.2
set_option maxRecDepth 100000 in
theorem lw_count {x : Ct} {g : Gm} {nf nlc : Nat} (C : Cx x yL g 8 cL_law RL nf nlc) (hf : 4 ≤ nf) (hl : 85 ≤ nlc) {b L : Nat} {xs : Nat → Int32} (hX : XSc x yL g b L xs) (hL : L ≤ 3072) {i : Int} (hi : 0 ≤ i) (hi6 : i + 6 ≤ (L : Int)) {σ τ : Sg} {f : Int → Int} (hσ : wfS yC σ) (hτ : wfS yR τ) {v : Int} (e0 : fX11_count (xs (i + 1).toNat).toInt σ = some v) (e1 : fX12_count (xs (i + 1).toNat).toInt τ = some v) (k : wfS yC σ → wfS yR τ → J x yL g 8 1719 (lwLo g b i) [] (zL σ τ f)) : J x yL g 8 1694 (lwLo g b i) [] (zL σ τ f) := by
  refine J_aload_n C 1 dL_law_1694 rfl 2 rfl ?_
  refine J_aload_n C 0 dL_law_1695 rfl 1 rfl ?_
  refine J_iload C 4 dL_law_1696 0 rfl ?_
  refine J_iconst C dL_law_1698 ?_
  refine J_iaddS C ⟨by omega, by omega⟩ dL_law_1699 ?_
  refine J_sldI C hX (by omega) (by omega) (by omega) dL_law_1700 ?_
  refine J_callVE (rest := []) C EmC mw_X11_count ml_RL_191 (CJ_at (m_X11_count x.2.1 (sh 0 g) (EmC.inj (CxI C)) (xs (i + 1).toNat).toInt (rg_toInt32 _) σ hσ v e0) (zL_C σ τ f)) oC_0 rfl (Nat.le_trans (Nat.le_of_ble_eq_true rfl) hf) (Nat.le_trans (Nat.le_of_ble_eq_true rfl) hl) (by rw [sh_0]; rfl) rfl (Nat.le_of_ble_eq_true rfl) dL_law_1701 (fun zC => ?_)
  rw [zL_inC]
  refine J_aload_n C 2 dL_law_1704 rfl 3 rfl ?_
  refine J_aload_n C 0 dL_law_1705 rfl 1 rfl ?_
  refine J_iload C 4 dL_law_1706 0 rfl ?_
  refine J_iconst C dL_law_1708 ?_
  refine J_iaddS C ⟨by omega, by omega⟩ dL_law_1709 ?_
  refine J_sldI C hX (by omega) (by omega) (by omega) dL_law_1710 ?_
  refine J_callVE (rest := [vi v]) C EmR mw_X12_count ml_RL_194 (CJ_at (m_X12_count x.2.1 (sh 101 g) (EmR.inj (CxI C)) (xs (i + 1).toNat).toInt (rg_toInt32 _) τ hτ v e1) (zL_R σ τ f)) oR_0 rfl (Nat.le_trans (Nat.le_of_ble_eq_true rfl) hf) (Nat.le_trans (Nat.le_of_ble_eq_true rfl) hl) rfl rfl (Nat.le_of_ble_eq_true rfl) dL_law_1711 (fun zR => ?_)
  rw [zL_inR]
  refine J_icmp_eq C zC zR (tgt := 1719) dL_law_1714 (by decide) (A := some ()) (B := none) (o := ()) (if_pos rfl) (fun _ _ => ?_) (fun _ n => absurd rfl n)
  exact k hσ hτ

