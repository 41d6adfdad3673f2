section JL2
variable {x : Ct} {y : Sy} {g : Gm} {nL nf nlc : Nat} {cc : ByteArray} {own : String} {pc : Nat} {lo : List (Nat × Value)} {st : List Value} {σ : Sg}
theorem vl_toInt (a : Int64) : (.long a : Value) = vl a.toInt := by unfold vl; rw [Int64.ofInt_toInt]
theorem J_lshlV (C : Cx x y g nL cc own nf nlc) {a v : Int64} {n : Int32} (hv : a <<< (n.toInt64 &&& 63) = v) (d : decode cc pc = .ok (.lshl, 1)) (k : J x y g nL (pc + 1) lo (.long v :: st) σ) : J x y g nL pc lo (.int n :: .long a :: st) σ := by
  obtain ⟨p, l, e, R, s, m, args, below, meth, c, Q, kc, ks⟩ := x
  obtain ⟨hx, hb, hml, hown, hts, hK, hg, hNf, hNl, hLk, hSt, hKc, hKs⟩ := C
  intro H locs ls hP hS hl
  exact lv_lshl hx hb d hv (k H locs ls hP hS hl)
theorem J_landV (C : Cx x y g nL cc own nf nlc) {a b : Int64} (d : decode cc pc = .ok (.land, 1)) (k : J x y g nL (pc + 1) lo (.long (a &&& b) :: st) σ) : J x y g nL pc lo (.long b :: .long a :: st) σ := by
  obtain ⟨p, l, e, R, s, m, args, below, meth, c, Q, kc, ks⟩ := x
  obtain ⟨hx, hb, hml, hown, hts, hK, hg, hNf, hNl, hLk, hSt, hKc, hKs⟩ := C
  intro H locs ls hP hS hl
  exact lv_land hx hb d (k H locs ls hP hS hl)
theorem J_lorV (C : Cx x y g nL cc own nf nlc) {a b : Int64} (d : decode cc pc = .ok (.lor, 1)) (k : J x y g nL (pc + 1) lo (.long (a ||| b) :: st) σ) : J x y g nL pc lo (.long b :: .long a :: st) σ := by
  obtain ⟨p, l, e, R, s, m, args, below, meth, c, Q, kc, ks⟩ := x
  obtain ⟨hx, hb, hml, hown, hts, hK, hg, hNf, hNl, hLk, hSt, hKc, hKs⟩ := C
  intro H locs ls hP hS hl
  exact lv_lor hx hb d (k H locs ls hP hS hl)
theorem J_ldc2V (C : Cx x y g nL cc own nf nlc) {i : Nat} {v : Int64} (hw : Cond.constantLong own i v ∈ okw) (d : decode cc pc = .ok (.ldc2_w i, 3)) (k : J x y g nL (pc + 3) lo (.long v :: st) σ) : J x y g nL pc lo st σ := by
  obtain ⟨p, l, e, R, s, m, args, below, meth, c, Q, kc, ks⟩ := x
  obtain ⟨hx, hb, hml, hown, hts, hK, hg, hNf, hNl, hLk, hSt, hKc, hKs⟩ := C
  intro H locs ls hP hS hl
  exact lv_ldc2 hx hb hown (hts _ hw) d (k H locs ls hP hS hl)
theorem J_lload (C : Cx x y g nL cc own nf nlc) {a : Int} (i : Nat) (d : decode cc pc = .ok (.lload i, 2)) (j : Nat) (hj : lo[j]? = some (i, vl a)) (k : J x y g nL (pc + 2) lo (vl a :: st) σ) : J x y g nL pc lo st σ := by
  obtain ⟨p, l, e, R, s, m, args, below, meth, c, Q, kc, ks⟩ := x
  obtain ⟨hx, hb, hml, hown, hts, hK, hg, hNf, hNl, hLk, hSt, hKc, hKs⟩ := C
  intro H locs ls hP hS hl
  exact lv_lload hx hb d (lv_at hl j hj) (k H locs ls hP hS hl)
theorem J_lstore (C : Cx x y g nL cc own nf nlc) {a : Int} {lo2 : List (Nat × Value)} (i : Nat) (d : decode cc pc = .ok (.lstore i, 2)) (hi : i + 1 < nL) (hl2 : (i, vl a) :: lo.filter (fun q => !(q.1 == i) && (!(q.1 == i + 1) && !(q.1 + 1 == i && q.2.category == 2))) = lo2) (k : J x y g nL (pc + 2) lo2 st σ) : J x y g nL pc lo (vl a :: st) σ := by
  obtain ⟨p, l, e, R, s, m, args, below, meth, c, Q, kc, ks⟩ := x
  obtain ⟨hx, hb, hml, hown, hts, hK, hg, hNf, hNl, hLk, hSt, hKc, hKs⟩ := C
  intro H locs ls hP hS hl
  exact lv_lstore hx hb d hl hi hl2 (fun ls2 hl3 => k H locs ls2 hP hS hl3)
theorem J_lcmp (C : Cx x y g nL cc own nf nlc) {a b : Int64} (d : decode cc pc = .ok (.lcmp, 1)) (k : J x y g nL (pc + 1) lo (.int (lg_cmp a b) :: st) σ) : J x y g nL pc lo (.long b :: .long a :: st) σ := by
  obtain ⟨p, l, e, R, s, m, args, below, meth, c, Q, kc, ks⟩ := x
  obtain ⟨hx, hb, hml, hown, hts, hK, hg, hNf, hNl, hLk, hSt, hKc, hKs⟩ := C
  intro H locs ls hP hS hl
  exact W.lcmp hx hb d (k H locs ls hP hS hl)
theorem J_lorL (C : Cx x y g nL cc own nf nlc) {a b : Int64} (d : decode cc pc = .ok (.lor, 1)) (k : J x y g nL (pc + 1) lo (vl (a ||| b).toInt :: st) σ) : J x y g nL pc lo (.long b :: .long a :: st) σ :=
  J_lorV C d (by rw [vl_toInt]; exact k)
end JL2
/-- the long of two ints of the script -/
def lngW (a b : Int) : Int := ((Int64.ofInt a <<< ((Int32.ofInt 32).toInt64 &&& 63)) ||| (Int64.ofInt b &&& 4294967295)).toInt
theorem ml_RL_73 : Cond.methodLink RL 73 yL_cue ∈ okw := okw_in (List.mem_of_getElem? (i := 1213) (by decide +kernel)) (by decide +kernel)
theorem ml_RL_78 : Cond.methodLink RL 78 yX12_cue ∈ okw := okw_in (List.mem_of_getElem? (i := 1550) (by decide +kernel)) (by decide +kernel)
theorem mw_X12_cue : MV yX12_cue cX12_cue 3 (some .int) 2 := ⟨⟨okw_in (List.mem_of_getElem? (i := 1553) (by decide +kernel)) (by decide +kernel), okw_in (List.mem_of_getElem? (i := 79) (by decide +kernel)) (by decide +kernel), by decide, by decide, by decide +kernel⟩, okw_in (List.mem_of_getElem? (i := 1551) (by decide +kernel)) (by decide +kernel), okw_in (List.mem_of_getElem? (i := 1552) (by decide +kernel)) (by decide +kernel)⟩
theorem ml_RL_79 : Cond.methodLink RL 79 yX12_thrown ∈ okw := okw_in (List.mem_of_getElem? (i := 1443) (by decide +kernel)) (by decide +kernel)
theorem mw_X12_thrown : MV yX12_thrown cX12_thrown 1 (some .int) 0 := ⟨⟨okw_in (List.mem_of_getElem? (i := 1446) (by decide +kernel)) (by decide +kernel), okw_in (List.mem_of_getElem? (i := 79) (by decide +kernel)) (by decide +kernel), by decide, by decide, by decide +kernel⟩, okw_in (List.mem_of_getElem? (i := 1444) (by decide +kernel)) (by decide +kernel), okw_in (List.mem_of_getElem? (i := 1445) (by decide +kernel)) (by decide +kernel)⟩
theorem ml_RL_126 : Cond.methodLink RL 126 yL_goes ∈ okw := okw_in (List.mem_of_getElem? (i := 1241) (by decide +kernel)) (by decide +kernel)
theorem ml_RL_128 : Cond.methodLink RL 128 yX12_goes ∈ okw := okw_in (List.mem_of_getElem? (i := 1657) (by decide +kernel)) (by decide +kernel)
theorem mw_X12_goes : MV yX12_goes cX12_goes 3 (some .int) 2 := ⟨⟨okw_in (List.mem_of_getElem? (i := 1660) (by decide +kernel)) (by decide +kernel), okw_in (List.mem_of_getElem? (i := 79) (by decide +kernel)) (by decide +kernel), by decide, by decide, by decide +kernel⟩, okw_in (List.mem_of_getElem? (i := 1658) (by decide +kernel)) (by decide +kernel), okw_in (List.mem_of_getElem? (i := 1659) (by decide +kernel)) (by decide +kernel)⟩
theorem ml_RL_184 : Cond.methodLink RL 184 yL_at ∈ okw := okw_in (List.mem_of_getElem? (i := 1251) (by decide +kernel)) (by decide +kernel)
theorem ml_RL_186 : Cond.methodLink RL 186 yX12_at ∈ okw := okw_in (List.mem_of_getElem? (i := 1736) (by decide +kernel)) (by decide +kernel)
theorem mw_X12_at : MV yX12_at cX12_at 3 (some .long) 2 := ⟨⟨okw_in (List.mem_of_getElem? (i := 1739) (by decide +kernel)) (by decide +kernel), okw_in (List.mem_of_getElem? (i := 79) (by decide +kernel)) (by decide +kernel), by decide, by decide, by decide +kernel⟩, okw_in (List.mem_of_getElem? (i := 1737) (by decide +kernel)) (by decide +kernel), okw_in (List.mem_of_getElem? (i := 1738) (by decide +kernel)) (by decide +kernel)⟩
theorem J_lcmpS {x : Ct} {y : Sy} {g : Gm} {nL nf nlc : Nat} {cc : ByteArray} {own : String} {pc : Nat} {lo : List (Nat × Value)} {st : List Value} {σ : Sg} (C : Cx x y g nL cc own nf nlc) {a : Int} (d : decode cc pc = .ok (.lcmp, 1)) (k : J x y g nL (pc + 1) lo (vi 0 :: st) σ) : J x y g nL pc lo (vl a :: vl a :: st) σ :=
  J_lcmp C d (by rw [show lg_cmp (Int64.ofInt a) (Int64.ofInt a) = 0 from by simp [lg_cmp]]; exact k)

set_option maxRecDepth 100000 in
theorem h_L_goesW (l : Launch) (g : Gm) (hg : gInj yL g) (hlt : l.stackTraces = false) (x1 : Int) (h1 : rg x1) (x2 : Int) (h2 : rg x2) (σ τ : Sg) (f : Int → Int) (hσ : wfS yC σ) (hτ : wfS yR τ) (q : Int × Sg) (h : fX11_goes x1 x2 σ = some q) : CH l yL g yL_goes cL_goes 5 (some .int) [((0 : Nat), (10 : Nat), (13 : Nat), (13 : Nat)), ((0 : Nat), (10 : Nat), (17 : Nat), (15 : Nat))] 8 198 [.ref (gad g 0), vi x1, vi x2, .ref (gad g 146)] (zL σ τ f) (some (vi 0)) (zL q.2 τ (fun k => if k = 0 then q.1 else f k)) (wfS yC q.2) := by
  refine CH_of hg (by decide) rfl (Nat.le_of_ble_eq_true rfl) (lo := [(0, .ref (gad g 0)), (1, vi x1), (2, vi x2), (3, .ref (gad g 146))]) rfl (fun x C C2 E E2 HT hxl => ?_)
  refine J_aload_n C 3 dL_goes_0 rfl 3 rfl ?_
  refine J_iconst C dL_goes_1 ?_
  refine J_aload_n C 0 dL_goes_2 rfl 0 rfl ?_
  refine J_iload_n C 1 dL_goes_3 rfl 1 rfl ?_
  refine J_iload_n C 2 dL_goes_4 rfl 2 rfl ?_
  refine J_callVE (rest := [vi 0, .ref (gad g 146)]) C EmC mw_X11_goes ml_RL_17 (CJ_at (m_X11_goes x.2.1 (sh 0 g) (EmC.inj hg) x1 h1 x2 h2 σ hσ q h) (zL_C σ τ f)) oC_0 rfl (Nat.le_of_ble_eq_true rfl) (Nat.le_of_ble_eq_true rfl) (by rw [sh_0]; rfl) rfl (Nat.le_of_ble_eq_true rfl) dL_goes_5 (fun hz => ?_)
  rw [zL_inC]
  refine J_i2l C hz.1 dL_goes_8 ?_
  refine J_last C aL_146 (zL_wf (σ := q.2) hz.2 hτ) dL_goes_9 (K := fun z => some z) (o := zL q.2 τ (fun k => if k = 0 then q.1 else f k)) (by rw [← put_zL]; rfl) (fun z hz3 e9 => ?_)
  have e9 := sE e9
  subst e9
  refine J_goto C (tgt := 21) dL_goes_10 (by decide) ?_
  refine J_iconst C dL_goes_21 ?_
  exact J_iret C E hz.2 dL_goes_22

set_option maxRecDepth 100000 in
theorem h_L_goesTW (l : Launch) (g : Gm) (hg : gInj yL g) (hlt : l.stackTraces = false) (x1 : Int) (h1 : rg x1) (x2 : Int) (h2 : rg x2) (σ τ : Sg) (f : Int → Int) (hσ : wfS yC σ) (hτ : wfS yR τ) (q : Int × Sg) (h : fX11_goesT x1 x2 σ = some q) (hq : q.1 = 1 ∨ q.1 = 2) : CH l yL g yL_goes cL_goes 5 (some .int) [((0 : Nat), (10 : Nat), (13 : Nat), (13 : Nat)), ((0 : Nat), (10 : Nat), (17 : Nat), (15 : Nat))] 8 198 [.ref (gad g 0), vi x1, vi x2, .ref (gad g 146)] (zL σ τ f) (some (vi q.1)) (zL q.2 τ f) (wfS yC q.2) := by
  refine CH_of hg (by decide) rfl (Nat.le_of_ble_eq_true rfl) (lo := [(0, .ref (gad g 0)), (1, vi x1), (2, vi x2), (3, .ref (gad g 146))]) rfl (fun x C C2 E E2 HT hxl => ?_)
  refine J_aload_n C 3 dL_goes_0 rfl 3 rfl ?_
  refine J_iconst C dL_goes_1 ?_
  refine J_aload_n C 0 dL_goes_2 rfl 0 rfl ?_
  refine J_iload_n C 1 dL_goes_3 rfl 1 rfl ?_
  refine J_iload_n C 2 dL_goes_4 rfl 2 rfl ?_
  rcases hq with hq | hq
  · refine J_catchV (rest := [vi 0, .ref (gad g 146)]) C C2 EmC mw_X11_goes ml_RL_17 (TJ_at (t_X11_goesT x.2.1 (sh 0 g) (EmC.inj hg) (by rw [hxl]; exact hlt) x1 h1 x2 h2 σ hσ q h) (zL_C σ τ f)) oC_0 rfl (Nat.le_of_ble_eq_true rfl) (Nat.le_of_ble_eq_true rfl) (by rw [sh_0]; rfl) rfl (Nat.le_of_ble_eq_true rfl) dL_goes_5 (by rw [hq]; exact lawCatch1_goes C HT) (fun hz a8 => ?_)
    rw [zL_inC]
    have C := C2
    have E := E2
    refine J_astore (lo2 := [(4, .ref a8), (0, .ref (gad g 0)), (1, vi x1), (2, vi x2), (3, .ref (gad g 146))]) C 4 dL_goes_13 (by decide) rfl ?_
    refine J_iconst C dL_goes_15 ?_
    rw [hq] at E
    exact J_iret C E hz dL_goes_16
  · refine J_catchV (rest := [vi 0, .ref (gad g 146)]) C C2 EmC mw_X11_goes ml_RL_17 (TJ_at (t_X11_goesT x.2.1 (sh 0 g) (EmC.inj hg) (by rw [hxl]; exact hlt) x1 h1 x2 h2 σ hσ q h) (zL_C σ τ f)) oC_0 rfl (Nat.le_of_ble_eq_true rfl) (Nat.le_of_ble_eq_true rfl) (by rw [sh_0]; rfl) rfl (Nat.le_of_ble_eq_true rfl) dL_goes_5 (by rw [hq]; exact lawCatch2_goes C HT) (fun hz a8 => ?_)
    rw [zL_inC]
    have C := C2
    have E := E2
    refine J_astore (lo2 := [(4, .ref a8), (0, .ref (gad g 0)), (1, vi x1), (2, vi x2), (3, .ref (gad g 146))]) C 4 dL_goes_17 (by decide) rfl ?_
    refine J_iconst C dL_goes_19 ?_
    rw [hq] at E
    exact J_iret C E hz dL_goes_20

set_option maxRecDepth 100000 in
theorem lw_cue {x : Ct} {g : Gm} {nf nlc : Nat} (C : Cx x yL g 8 cL_law RL nf nlc) (C2 : Cx (bump x 1 6) yL g 8 cL_law RL nf nlc) {l : Launch} (hlt : l.stackTraces = false) (hxl : x.2.1 = l) (hf : 8 ≤ nf) (hl : 224 ≤ nlc) {b L : Nat} {xs : Nat → Int32} (hX : XSc x yL g b L xs) (hL : L ≤ 3072) {i : Int} (hi : 0 ≤ i) (hi6 : i + 6 ≤ (L : Int)) {σ τ : Sg} {f : Int → Int} (hσ : wfS yC σ) (hτ : wfS yR τ) {v : Int} {τ' : Sg} (e1 : fX12_cue (xs (i + 1).toNat).toInt (xs (i + 2).toNat).toInt τ = some (v, τ')) (h : (fX11_cue (xs (i + 1).toNat).toInt (xs (i + 2).toNat).toInt σ = some v ∧ τ' 0 38 = 0) ∨ ∃ q, (q = 1 ∨ q = 2) ∧ fX11_cueT (xs (i + 1).toNat).toInt (xs (i + 2).toNat).toInt σ = some q ∧ τ' 0 38 = q) (k : ∀ f' : Int → Int, wfS yC σ → wfS yR τ' → J (bump x 1 6) yL g 8 1719 (lwLo g b i) [] (zL σ τ' f')) : J x yL g 8 690 (lwLo g b i) [] (zL σ τ f) := by
  refine J_aload_n C 1 dL_law_690 rfl 2 rfl ?_
  refine J_aload_n C 0 dL_law_691 rfl 1 rfl ?_
  refine J_iload C 4 dL_law_692 0 rfl ?_
  refine J_iconst C dL_law_694 ?_
  refine J_iaddS C ⟨by omega, by omega⟩ dL_law_695 ?_
  refine J_sldI C hX (by omega) (by omega) (by omega) dL_law_696 ?_
  refine J_aload_n C 0 dL_law_697 rfl 1 rfl ?_
  refine J_iload C 4 dL_law_698 0 rfl ?_
  refine J_iconst C dL_law_700 ?_
  refine J_iaddS C ⟨by omega, by omega⟩ dL_law_701 ?_
  refine J_sldI C hX (by omega) (by omega) (by omega) dL_law_702 ?_
  refine J_aload_n C 3 dL_law_703 rfl 4 rfl ?_
  rcases h with ⟨h1, h38⟩ | ⟨q, hq, h1, h38⟩
  · refine J_callSH (rest := []) C C2 mwh_L_cue ml_RL_73 (h_L_cue x.2.1 g (CxI C) (by rw [hxl]; exact hlt) (xs (i + 1).toNat).toInt (rg_toInt32 _) (xs (i + 2).toNat).toInt (rg_toInt32 _) σ τ f hσ hτ v h1) (Nat.le_trans (Nat.le_of_ble_eq_true rfl) hf) (Nat.le_trans (Nat.le_of_ble_eq_true rfl) hl) rfl rfl (Nat.le_of_ble_eq_true rfl) dL_law_704 (fun zS => ?_)
    have C := C2
    have hX := hX.bump 1 6
    refine J_istore (lo2 := (5, vi 0) :: lwLo g b i) C 5 dL_law_707 (by decide) rfl ?_
    refine J_aload_n C 2 dL_law_709 rfl 4 rfl ?_
    refine J_aload_n C 0 dL_law_710 rfl 2 rfl ?_
    refine J_iload C 4 dL_law_711 1 rfl ?_
    refine J_iconst C dL_law_713 ?_
    refine J_iaddS C ⟨by omega, by omega⟩ dL_law_714 ?_
    refine J_sldI C hX (by omega) (by omega) (by omega) dL_law_715 ?_
    refine J_aload_n C 0 dL_law_716 rfl 2 rfl ?_
    refine J_iload C 4 dL_law_717 1 rfl ?_
    refine J_iconst C dL_law_719 ?_
    refine J_iaddS C ⟨by omega, by omega⟩ dL_law_720 ?_
    refine J_sldI C hX (by omega) (by omega) (by omega) dL_law_721 ?_
    refine J_callVE (rest := []) C EmR mw_X12_cue ml_RL_78 (CJ_at (m_X12_cue x.2.1 (sh 101 g) (EmR.inj (CxI C)) (xs (i + 1).toNat).toInt (rg_toInt32 _) (xs (i + 2).toNat).toInt (rg_toInt32 _) τ hτ (v, τ') e1) (zL_R σ τ (fun k => if k = 0 then v else f k))) oR_0 rfl (Nat.le_trans (Nat.le_of_ble_eq_true rfl) hf) (Nat.le_trans (Nat.le_of_ble_eq_true rfl) hl) rfl rfl (Nat.le_of_ble_eq_true rfl) dL_law_722 (fun zR => ?_)
    rw [zL_inR]
    refine J_istore (lo2 := (6, vi v) :: (5, vi 0) :: lwLo g b i) C 6 dL_law_725 (by decide) rfl ?_
    refine J_aload_n C 2 dL_law_727 rfl 5 rfl ?_
    refine J_callVE (rest := []) C EmR mw_X12_thrown ml_RL_79 (CJ_at (m_X12_thrown x.2.1 (sh 101 g) (EmR.inj (CxI C)) τ' zR.2 (τ' 0 38) rfl) (zL_R σ τ' (fun k => if k = 0 then v else f k))) oR_0 rfl (Nat.le_trans (Nat.le_of_ble_eq_true rfl) hf) (Nat.le_trans (Nat.le_of_ble_eq_true rfl) hl) rfl rfl (Nat.le_of_ble_eq_true rfl) dL_law_728 (fun _ => ?_)
    rw [zL_inR]
    rw [h38]
    refine J_iload C 5 dL_law_731 1 rfl ?_
    refine J_icmp_eq C ⟨by decide, by decide⟩ ⟨by decide, by decide⟩ (tgt := 738) dL_law_733 (by decide) (A := some ()) (B := none) (o := ()) (if_pos rfl) (fun _ _ => ?_) (fun _ n => absurd rfl n)
    refine J_iload C 5 dL_law_738 1 rfl ?_
    refine J_if_ne C ⟨by decide, by decide⟩ (tgt := 755) dL_law_740 (by decide) (A := some ()) (B := none) (o := ()) (if_pos rfl) (fun _ _ => ?_) (fun _ n => absurd rfl n)
    refine J_aload_n C 3 dL_law_743 rfl 6 rfl ?_
    refine J_iconst C dL_law_744 ?_
    refine J_lald C aL_146 dL_law_745 (K := fun z => some z) (o := v) (by unfold rd; rw [if_pos ⟨by decide, by decide⟩]; rfl) (fun z e9 => ?_)
    have e9 := sE e9
    subst e9
    refine J_iload C 6 dL_law_746 0 rfl ?_
    refine J_i2l C zR.1 dL_law_748 ?_
    refine J_lcmpS C dL_law_749 ?_
    refine J_if_eq C ⟨by decide, by decide⟩ (tgt := 755) dL_law_750 (by decide) (A := some ()) (B := none) (o := ()) (if_pos rfl) (fun _ _ => ?_) (fun _ n => absurd rfl n)
    refine J_goto C (tgt := 1719) dL_law_755 (by decide) ?_
    refine J_sub [2, 3, 4, 5, 6] rfl ?_
    exact k _ hσ zR.2
  · refine J_callSH (rest := []) C C2 mwh_L_cue ml_RL_73 (h_L_cueT x.2.1 g (CxI C) (by rw [hxl]; exact hlt) (xs (i + 1).toNat).toInt (rg_toInt32 _) (xs (i + 2).toNat).toInt (rg_toInt32 _) σ τ f hσ hτ q h1 hq) (Nat.le_trans (Nat.le_of_ble_eq_true rfl) hf) (Nat.le_trans (Nat.le_of_ble_eq_true rfl) hl) rfl rfl (Nat.le_of_ble_eq_true rfl) dL_law_704 (fun zS => ?_)
    have C := C2
    have hX := hX.bump 1 6
    refine J_istore (lo2 := (5, vi q) :: lwLo g b i) C 5 dL_law_707 (by decide) rfl ?_
    refine J_aload_n C 2 dL_law_709 rfl 4 rfl ?_
    refine J_aload_n C 0 dL_law_710 rfl 2 rfl ?_
    refine J_iload C 4 dL_law_711 1 rfl ?_
    refine J_iconst C dL_law_713 ?_
    refine J_iaddS C ⟨by omega, by omega⟩ dL_law_714 ?_
    refine J_sldI C hX (by omega) (by omega) (by omega) dL_law_715 ?_
    refine J_aload_n C 0 dL_law_716 rfl 2 rfl ?_
    refine J_iload C 4 dL_law_717 1 rfl ?_
    refine J_iconst C dL_law_719 ?_
    refine J_iaddS C ⟨by omega, by omega⟩ dL_law_720 ?_
    refine J_sldI C hX (by omega) (by omega) (by omega) dL_law_721 ?_
    refine J_callVE (rest := []) C EmR mw_X12_cue ml_RL_78 (CJ_at (m_X12_cue x.2.1 (sh 101 g) (EmR.inj (CxI C)) (xs (i + 1).toNat).toInt (rg_toInt32 _) (xs (i + 2).toNat).toInt (rg_toInt32 _) τ hτ (v, τ') e1) (zL_R σ τ f)) oR_0 rfl (Nat.le_trans (Nat.le_of_ble_eq_true rfl) hf) (Nat.le_trans (Nat.le_of_ble_eq_true rfl) hl) rfl rfl (Nat.le_of_ble_eq_true rfl) dL_law_722 (fun zR => ?_)
    rw [zL_inR]
    refine J_istore (lo2 := (6, vi v) :: (5, vi q) :: lwLo g b i) C 6 dL_law_725 (by decide) rfl ?_
    refine J_aload_n C 2 dL_law_727 rfl 5 rfl ?_
    refine J_callVE (rest := []) C EmR mw_X12_thrown ml_RL_79 (CJ_at (m_X12_thrown x.2.1 (sh 101 g) (EmR.inj (CxI C)) τ' zR.2 (τ' 0 38) rfl) (zL_R σ τ' f)) oR_0 rfl (Nat.le_trans (Nat.le_of_ble_eq_true rfl) hf) (Nat.le_trans (Nat.le_of_ble_eq_true rfl) hl) rfl rfl (Nat.le_of_ble_eq_true rfl) dL_law_728 (fun _ => ?_)
    rw [zL_inR]
    rw [h38]
    refine J_iload C 5 dL_law_731 1 rfl ?_
    refine J_icmp_eq C (by rcases hq with e | e <;> (rw [e]; exact ⟨by decide, by decide⟩)) (by rcases hq with e | e <;> (rw [e]; exact ⟨by decide, by decide⟩)) (tgt := 738) dL_law_733 (by decide) (A := some ()) (B := none) (o := ()) (if_pos rfl) (fun _ _ => ?_) (fun _ n => absurd rfl n)
    refine J_iload C 5 dL_law_738 1 rfl ?_
    refine J_if_ne C (by rcases hq with e | e <;> (rw [e]; exact ⟨by decide, by decide⟩)) (tgt := 755) dL_law_740 (by decide) (A := none) (B := some ()) (o := ()) (if_neg (by rcases hq with e | e <;> (rw [e]; decide))) (fun n _ => by cases n) (fun _ _ => ?_)
    refine J_goto C (tgt := 1719) dL_law_755 (by decide) ?_
    refine J_sub [2, 3, 4, 5, 6] rfl ?_
    exact k _ hσ zR.2

set_option maxRecDepth 100000 in
theorem lw_goes {x : Ct} {g : Gm} {nf nlc : Nat} (C : Cx x yL g 8 cL_law RL nf nlc) (C2 : Cx (bump x 1 6) yL g 8 cL_law RL nf nlc) {l : Launch} (hlt : l.stackTraces = false) (hxl : x.2.1 = l) (hf : 9 ≤ nf) (hl : 224 ≤ nlc) {b L : Nat} {xs : Nat → Int32} (hX : XSc x yL g b L xs) (hL : L ≤ 3072) {i : Int} (hi : 0 ≤ i) (hi6 : i + 6 ≤ (L : Int)) {σ τ : Sg} {f : Int → Int} (hσ : wfS yC σ) (hτ : wfS yR τ) {v : Int} {τ' : Sg} {Q : Sg → Prop} (e1 : fX12_goes (xs (i + 1).toNat).toInt (xs (i + 2).toNat).toInt τ = some (v, τ')) (h : (∃ σ', fX11_goes (xs (i + 1).toNat).toInt (xs (i + 2).toNat).toInt σ = some (v, σ') ∧ τ' 0 38 = 0 ∧ Q σ') ∨ ∃ q σ', (q = 1 ∨ q = 2) ∧ fX11_goesT (xs (i + 1).toNat).toInt (xs (i + 2).toNat).toInt σ = some (q, σ') ∧ τ' 0 38 = q ∧ Q σ') (k : ∀ (σ' : Sg) (f' : Int → Int), Q σ' → wfS yC σ' → wfS yR τ' → J (bump x 1 6) yL g 8 1719 (lwLo g b i) [] (zL σ' τ' f')) : J x yL g 8 1105 (lwLo g b i) [] (zL σ τ f) := by
  refine J_aload_n C 1 dL_law_1105 rfl 2 rfl ?_
  refine J_aload_n C 0 dL_law_1106 rfl 1 rfl ?_
  refine J_iload C 4 dL_law_1107 0 rfl ?_
  refine J_iconst C dL_law_1109 ?_
  refine J_iaddS C ⟨by omega, by omega⟩ dL_law_1110 ?_
  refine J_sldI C hX (by omega) (by omega) (by omega) dL_law_1111 ?_
  refine J_aload_n C 0 dL_law_1112 rfl 1 rfl ?_
  refine J_iload C 4 dL_law_1113 0 rfl ?_
  refine J_iconst C dL_law_1115 ?_
  refine J_iaddS C ⟨by omega, by omega⟩ dL_law_1116 ?_
  refine J_sldI C hX (by omega) (by omega) (by omega) dL_law_1117 ?_
  refine J_aload_n C 3 dL_law_1118 rfl 4 rfl ?_
  rcases h with ⟨σ', h1, h38, hQ⟩ | ⟨q, σ', hq, h1, h38, hQ⟩
  · refine J_callSH (rest := []) C C2 mwh_L_goes ml_RL_126 (h_L_goesW x.2.1 g (CxI C) (by rw [hxl]; exact hlt) (xs (i + 1).toNat).toInt (rg_toInt32 _) (xs (i + 2).toNat).toInt (rg_toInt32 _) σ τ f hσ hτ (v, σ') h1) (Nat.le_trans (Nat.le_of_ble_eq_true rfl) hf) (Nat.le_trans (Nat.le_of_ble_eq_true rfl) hl) rfl rfl (Nat.le_of_ble_eq_true rfl) dL_law_1119 (fun zS => ?_)
    have C := C2
    have hX := hX.bump 1 6
    refine J_istore (lo2 := (5, vi 0) :: lwLo g b i) C 5 dL_law_1122 (by decide) rfl ?_
    refine J_aload_n C 2 dL_law_1124 rfl 4 rfl ?_
    refine J_aload_n C 0 dL_law_1125 rfl 2 rfl ?_
    refine J_iload C 4 dL_law_1126 1 rfl ?_
    refine J_iconst C dL_law_1128 ?_
    refine J_iaddS C ⟨by omega, by omega⟩ dL_law_1129 ?_
    refine J_sldI C hX (by omega) (by omega) (by omega) dL_law_1130 ?_
    refine J_aload_n C 0 dL_law_1131 rfl 2 rfl ?_
    refine J_iload C 4 dL_law_1132 1 rfl ?_
    refine J_iconst C dL_law_1134 ?_
    refine J_iaddS C ⟨by omega, by omega⟩ dL_law_1135 ?_
    refine J_sldI C hX (by omega) (by omega) (by omega) dL_law_1136 ?_
    refine J_callVE (rest := []) C EmR mw_X12_goes ml_RL_128 (CJ_at (m_X12_goes x.2.1 (sh 101 g) (EmR.inj (CxI C)) (xs (i + 1).toNat).toInt (rg_toInt32 _) (xs (i + 2).toNat).toInt (rg_toInt32 _) τ hτ (v, τ') e1) (zL_R σ' τ (fun k => if k = 0 then v else f k))) oR_0 rfl (Nat.le_trans (Nat.le_of_ble_eq_true rfl) hf) (Nat.le_trans (Nat.le_of_ble_eq_true rfl) hl) rfl rfl (Nat.le_of_ble_eq_true rfl) dL_law_1137 (fun zR => ?_)
    rw [zL_inR]
    refine J_istore (lo2 := (6, vi v) :: (5, vi 0) :: lwLo g b i) C 6 dL_law_1140 (by decide) rfl ?_
    refine J_aload_n C 2 dL_law_1142 rfl 5 rfl ?_
    refine J_callVE (rest := []) C EmR mw_X12_thrown ml_RL_79 (CJ_at (m_X12_thrown x.2.1 (sh 101 g) (EmR.inj (CxI C)) τ' zR.2 (τ' 0 38) rfl) (zL_R σ' τ' (fun k => if k = 0 then v else f k))) oR_0 rfl (Nat.le_trans (Nat.le_of_ble_eq_true rfl) hf) (Nat.le_trans (Nat.le_of_ble_eq_true rfl) hl) rfl rfl (Nat.le_of_ble_eq_true rfl) dL_law_1143 (fun _ => ?_)
    rw [zL_inR]
    rw [h38]
    refine J_iload C 5 dL_law_1146 1 rfl ?_
    refine J_icmp_eq C ⟨by decide, by decide⟩ ⟨by decide, by decide⟩ (tgt := 1153) dL_law_1148 (by decide) (A := some ()) (B := none) (o := ()) (if_pos rfl) (fun _ _ => ?_) (fun _ n => absurd rfl n)
    refine J_iload C 5 dL_law_1153 1 rfl ?_
    refine J_if_ne C ⟨by decide, by decide⟩ (tgt := 1170) dL_law_1155 (by decide) (A := some ()) (B := none) (o := ()) (if_pos rfl) (fun _ _ => ?_) (fun _ n => absurd rfl n)
    refine J_aload_n C 3 dL_law_1158 rfl 6 rfl ?_
    refine J_iconst C dL_law_1159 ?_
    refine J_lald C aL_146 dL_law_1160 (K := fun z => some z) (o := v) (by unfold rd; rw [if_pos ⟨by decide, by decide⟩]; rfl) (fun z e9 => ?_)
    have e9 := sE e9
    subst e9
    refine J_iload C 6 dL_law_1161 0 rfl ?_
    refine J_i2l C zR.1 dL_law_1163 ?_
    refine J_lcmpS C dL_law_1164 ?_
    refine J_if_eq C ⟨by decide, by decide⟩ (tgt := 1170) dL_law_1165 (by decide) (A := some ()) (B := none) (o := ()) (if_pos rfl) (fun _ _ => ?_) (fun _ n => absurd rfl n)
    refine J_goto C (tgt := 1719) dL_law_1170 (by decide) ?_
    refine J_sub [2, 3, 4, 5, 6] rfl ?_
    exact k σ' _ hQ zS zR.2
  · refine J_callSH (rest := []) C C2 mwh_L_goes ml_RL_126 (h_L_goesTW x.2.1 g (CxI C) (by rw [hxl]; exact hlt) (xs (i + 1).toNat).toInt (rg_toInt32 _) (xs (i + 2).toNat).toInt (rg_toInt32 _) σ τ f hσ hτ (q, σ') h1 hq) (Nat.le_trans (Nat.le_of_ble_eq_true rfl) hf) (Nat.le_trans (Nat.le_of_ble_eq_true rfl) hl) rfl rfl (Nat.le_of_ble_eq_true rfl) dL_law_1119 (fun zS => ?_)
    have C := C2
    have hX := hX.bump 1 6
    refine J_istore (lo2 := (5, vi q) :: lwLo g b i) C 5 dL_law_1122 (by decide) rfl ?_
    refine J_aload_n C 2 dL_law_1124 rfl 4 rfl ?_
    refine J_aload_n C 0 dL_law_1125 rfl 2 rfl ?_
    refine J_iload C 4 dL_law_1126 1 rfl ?_
    refine J_iconst C dL_law_1128 ?_
    refine J_iaddS C ⟨by omega, by omega⟩ dL_law_1129 ?_
    refine J_sldI C hX (by omega) (by omega) (by omega) dL_law_1130 ?_
    refine J_aload_n C 0 dL_law_1131 rfl 2 rfl ?_
    refine J_iload C 4 dL_law_1132 1 rfl ?_
    refine J_iconst C dL_law_1134 ?_
    refine J_iaddS C ⟨by omega, by omega⟩ dL_law_1135 ?_
    refine J_sldI C hX (by omega) (by omega) (by omega) dL_law_1136 ?_
    refine J_callVE (rest := []) C EmR mw_X12_goes ml_RL_128 (CJ_at (m_X12_goes x.2.1 (sh 101 g) (EmR.inj (CxI C)) (xs (i + 1).toNat).toInt (rg_toInt32 _) (xs (i + 2).toNat).toInt (rg_toInt32 _) τ hτ (v, τ') e1) (zL_R σ' τ f)) oR_0 rfl (Nat.le_trans (Nat.le_of_ble_eq_true rfl) hf) (Nat.le_trans (Nat.le_of_ble_eq_true rfl) hl) rfl rfl (Nat.le_of_ble_eq_true rfl) dL_law_1137 (fun zR => ?_)
    rw [zL_inR]
    refine J_istore (lo2 := (6, vi v) :: (5, vi q) :: lwLo g b i) C 6 dL_law_1140 (by decide) rfl ?_
    refine J_aload_n C 2 dL_law_1142 rfl 5 rfl ?_
    refine J_callVE (rest := []) C EmR mw_X12_thrown ml_RL_79 (CJ_at (m_X12_thrown x.2.1 (sh 101 g) (EmR.inj (CxI C)) τ' zR.2 (τ' 0 38) rfl) (zL_R σ' τ' f)) oR_0 rfl (Nat.le_trans (Nat.le_of_ble_eq_true rfl) hf) (Nat.le_trans (Nat.le_of_ble_eq_true rfl) hl) rfl rfl (Nat.le_of_ble_eq_true rfl) dL_law_1143 (fun _ => ?_)
    rw [zL_inR]
    rw [h38]
    refine J_iload C 5 dL_law_1146 1 rfl ?_
    refine J_icmp_eq C (by rcases hq with e | e <;> (rw [e]; exact ⟨by decide, by decide⟩)) (by rcases hq with e | e <;> (rw [e]; exact ⟨by decide, by decide⟩)) (tgt := 1153) dL_law_1148 (by decide) (A := some ()) (B := none) (o := ()) (if_pos rfl) (fun _ _ => ?_) (fun _ n => absurd rfl n)
    refine J_iload C 5 dL_law_1153 1 rfl ?_
    refine J_if_ne C (by rcases hq with e | e <;> (rw [e]; exact ⟨by decide, by decide⟩)) (tgt := 1170) dL_law_1155 (by decide) (A := none) (B := some ()) (o := ()) (if_neg (by rcases hq with e | e <;> (rw [e]; decide))) (fun n _ => by cases n) (fun _ _ => ?_)
    refine J_goto C (tgt := 1719) dL_law_1170 (by decide) ?_
    refine J_sub [2, 3, 4, 5, 6] rfl ?_
    exact k σ' _ hQ zS zR.2

set_option maxRecDepth 100000 in
theorem lw_at {x : Ct} {g : Gm} {nf nlc : Nat} (C : Cx x yL g 8 cL_law RL nf nlc) (C2 : Cx (bump x 1 6) yL g 8 cL_law RL nf nlc) {l : Launch} (hlt : l.stackTraces = false) (hxl : x.2.1 = l) (hf : 8 ≤ nf) (hl : 224 ≤ nlc) {b L : Nat} {xs : Nat → Int32} (hX : XSc x yL g b L xs) (hL : L ≤ 3072) {i : Int} (hi : 0 ≤ i) (hi6 : i + 6 ≤ (L : Int)) {σ τ : Sg} {f : Int → Int} (hσ : wfS yC σ) (hτ : wfS yR τ) {v : Int} {τ' : Sg} (e1 : fX12_at (xs (i + 1).toNat).toInt (xs (i + 2).toNat).toInt τ = some (v, τ')) (h : (fX11_at (xs (i + 1).toNat).toInt (xs (i + 2).toNat).toInt σ = some v ∧ τ' 0 38 = 0) ∨ ∃ q, (q = 1 ∨ q = 2) ∧ fX11_atT (xs (i + 1).toNat).toInt (xs (i + 2).toNat).toInt σ = some q ∧ τ' 0 38 = q) (k : ∀ f' : Int → Int, wfS yC σ → wfS yR τ' → J (bump x 1 6) yL g 8 1719 (lwLo g b i) [] (zL σ τ' f')) : J x yL g 8 1554 (lwLo g b i) [] (zL σ τ f) := by
  refine J_aload_n C 1 dL_law_1554 rfl 2 rfl ?_
  refine J_aload_n C 0 dL_law_1555 rfl 1 rfl ?_
  refine J_iload C 4 dL_law_1556 0 rfl ?_
  refine J_iconst C dL_law_1558 ?_
  refine J_iaddS C ⟨by omega, by omega⟩ dL_law_1559 ?_
  refine J_sldI C hX (by omega) (by omega) (by omega) dL_law_1560 ?_
  refine J_aload_n C 0 dL_law_1561 rfl 1 rfl ?_
  refine J_iload C 4 dL_law_1562 0 rfl ?_
  refine J_iconst C dL_law_1564 ?_
  refine J_iaddS C ⟨by omega, by omega⟩ dL_law_1565 ?_
  refine J_sldI C hX (by omega) (by omega) (by omega) dL_law_1566 ?_
  refine J_aload_n C 3 dL_law_1567 rfl 4 rfl ?_
  rcases h with ⟨h1, h38⟩ | ⟨q, hq, h1, h38⟩
  · refine J_callSH (rest := []) C C2 mwh_L_at ml_RL_184 (h_L_at x.2.1 g (CxI C) (by rw [hxl]; exact hlt) (xs (i + 1).toNat).toInt (rg_toInt32 _) (xs (i + 2).toNat).toInt (rg_toInt32 _) σ τ f hσ hτ v h1) (Nat.le_trans (Nat.le_of_ble_eq_true rfl) hf) (Nat.le_trans (Nat.le_of_ble_eq_true rfl) hl) rfl rfl (Nat.le_of_ble_eq_true rfl) dL_law_1568 (fun zS => ?_)
    have C := C2
    have hX := hX.bump 1 6
    refine J_istore (lo2 := (5, vi 0) :: lwLo g b i) C 5 dL_law_1571 (by decide) rfl ?_
    refine J_aload_n C 2 dL_law_1573 rfl 4 rfl ?_
    refine J_aload_n C 0 dL_law_1574 rfl 2 rfl ?_
    refine J_iload C 4 dL_law_1575 1 rfl ?_
    refine J_iconst C dL_law_1577 ?_
    refine J_iaddS C ⟨by omega, by omega⟩ dL_law_1578 ?_
    refine J_sldI C hX (by omega) (by omega) (by omega) dL_law_1579 ?_
    refine J_aload_n C 0 dL_law_1580 rfl 2 rfl ?_
    refine J_iload C 4 dL_law_1581 1 rfl ?_
    refine J_iconst C dL_law_1583 ?_
    refine J_iaddS C ⟨by omega, by omega⟩ dL_law_1584 ?_
    refine J_sldI C hX (by omega) (by omega) (by omega) dL_law_1585 ?_
    refine J_callVE (rest := []) C EmR mw_X12_at ml_RL_186 (CJ_at (m_X12_at x.2.1 (sh 101 g) (EmR.inj (CxI C)) (xs (i + 1).toNat).toInt (rg_toInt32 _) (xs (i + 2).toNat).toInt (rg_toInt32 _) τ hτ (v, τ') e1) (zL_R σ τ (fun k => if k = 0 then v else f k))) oR_0 rfl (Nat.le_trans (Nat.le_of_ble_eq_true rfl) hf) (Nat.le_trans (Nat.le_of_ble_eq_true rfl) hl) rfl rfl (Nat.le_of_ble_eq_true rfl) dL_law_1586 (fun zR => ?_)
    rw [zL_inR]
    refine J_lstore (lo2 := (6, vl v) :: (5, vi 0) :: lwLo g b i) C 6 dL_law_1589 (by decide) rfl ?_
    refine J_aload_n C 2 dL_law_1591 rfl 5 rfl ?_
    refine J_callVE (rest := []) C EmR mw_X12_thrown ml_RL_79 (CJ_at (m_X12_thrown x.2.1 (sh 101 g) (EmR.inj (CxI C)) τ' zR.2 (τ' 0 38) rfl) (zL_R σ τ' (fun k => if k = 0 then v else f k))) oR_0 rfl (Nat.le_trans (Nat.le_of_ble_eq_true rfl) hf) (Nat.le_trans (Nat.le_of_ble_eq_true rfl) hl) rfl rfl (Nat.le_of_ble_eq_true rfl) dL_law_1592 (fun _ => ?_)
    rw [zL_inR]
    rw [h38]
    refine J_iload C 5 dL_law_1595 1 rfl ?_
    refine J_icmp_eq C ⟨by decide, by decide⟩ ⟨by decide, by decide⟩ (tgt := 1602) dL_law_1597 (by decide) (A := some ()) (B := none) (o := ()) (if_pos rfl) (fun _ _ => ?_) (fun _ n => absurd rfl n)
    refine J_iload C 5 dL_law_1602 1 rfl ?_
    refine J_if_ne C ⟨by decide, by decide⟩ (tgt := 1618) dL_law_1604 (by decide) (A := some ()) (B := none) (o := ()) (if_pos rfl) (fun _ _ => ?_) (fun _ n => absurd rfl n)
    refine J_aload_n C 3 dL_law_1607 rfl 6 rfl ?_
    refine J_iconst C dL_law_1608 ?_
    refine J_lald C aL_146 dL_law_1609 (K := fun z => some z) (o := v) (by unfold rd; rw [if_pos ⟨by decide, by decide⟩]; rfl) (fun z e9 => ?_)
    have e9 := sE e9
    subst e9
    refine J_lload C 6 dL_law_1610 0 rfl ?_
    refine J_lcmpS C dL_law_1612 ?_
    refine J_if_eq C ⟨by decide, by decide⟩ (tgt := 1618) dL_law_1613 (by decide) (A := some ()) (B := none) (o := ()) (if_pos rfl) (fun _ _ => ?_) (fun _ n => absurd rfl n)
    refine J_goto C (tgt := 1719) dL_law_1618 (by decide) ?_
    refine J_sub [2, 3, 4, 5, 6] rfl ?_
    exact k _ hσ zR.2
  · refine J_callSH (rest := []) C C2 mwh_L_at ml_RL_184 (h_L_atT x.2.1 g (CxI C) (by rw [hxl]; exact hlt) (xs (i + 1).toNat).toInt (rg_toInt32 _) (xs (i + 2).toNat).toInt (rg_toInt32 _) σ τ f hσ hτ q h1 hq) (Nat.le_trans (Nat.le_of_ble_eq_true rfl) hf) (Nat.le_trans (Nat.le_of_ble_eq_true rfl) hl) rfl rfl (Nat.le_of_ble_eq_true rfl) dL_law_1568 (fun zS => ?_)
    have C := C2
    have hX := hX.bump 1 6
    refine J_istore (lo2 := (5, vi q) :: lwLo g b i) C 5 dL_law_1571 (by decide) rfl ?_
    refine J_aload_n C 2 dL_law_1573 rfl 4 rfl ?_
    refine J_aload_n C 0 dL_law_1574 rfl 2 rfl ?_
    refine J_iload C 4 dL_law_1575 1 rfl ?_
    refine J_iconst C dL_law_1577 ?_
    refine J_iaddS C ⟨by omega, by omega⟩ dL_law_1578 ?_
    refine J_sldI C hX (by omega) (by omega) (by omega) dL_law_1579 ?_
    refine J_aload_n C 0 dL_law_1580 rfl 2 rfl ?_
    refine J_iload C 4 dL_law_1581 1 rfl ?_
    refine J_iconst C dL_law_1583 ?_
    refine J_iaddS C ⟨by omega, by omega⟩ dL_law_1584 ?_
    refine J_sldI C hX (by omega) (by omega) (by omega) dL_law_1585 ?_
    refine J_callVE (rest := []) C EmR mw_X12_at ml_RL_186 (CJ_at (m_X12_at x.2.1 (sh 101 g) (EmR.inj (CxI C)) (xs (i + 1).toNat).toInt (rg_toInt32 _) (xs (i + 2).toNat).toInt (rg_toInt32 _) τ hτ (v, τ') e1) (zL_R σ τ f)) oR_0 rfl (Nat.le_trans (Nat.le_of_ble_eq_true rfl) hf) (Nat.le_trans (Nat.le_of_ble_eq_true rfl) hl) rfl rfl (Nat.le_of_ble_eq_true rfl) dL_law_1586 (fun zR => ?_)
    rw [zL_inR]
    refine J_lstore (lo2 := (6, vl v) :: (5, vi q) :: lwLo g b i) C 6 dL_law_1589 (by decide) rfl ?_
    refine J_aload_n C 2 dL_law_1591 rfl 5 rfl ?_
    refine J_callVE (rest := []) C EmR mw_X12_thrown ml_RL_79 (CJ_at (m_X12_thrown x.2.1 (sh 101 g) (EmR.inj (CxI C)) τ' zR.2 (τ' 0 38) rfl) (zL_R σ τ' f)) oR_0 rfl (Nat.le_trans (Nat.le_of_ble_eq_true rfl) hf) (Nat.le_trans (Nat.le_of_ble_eq_true rfl) hl) rfl rfl (Nat.le_of_ble_eq_true rfl) dL_law_1592 (fun _ => ?_)
    rw [zL_inR]
    rw [h38]
    refine J_iload C 5 dL_law_1595 1 rfl ?_
    refine J_icmp_eq C (by rcases hq with e | e <;> (rw [e]; exact ⟨by decide, by decide⟩)) (by rcases hq with e | e <;> (rw [e]; exact ⟨by decide, by decide⟩)) (tgt := 1602) dL_law_1597 (by decide) (A := some ()) (B := none) (o := ()) (if_pos rfl) (fun _ _ => ?_) (fun _ n => absurd rfl n)
    refine J_iload C 5 dL_law_1602 1 rfl ?_
    refine J_if_ne C (by rcases hq with e | e <;> (rw [e]; exact ⟨by decide, by decide⟩)) (tgt := 1618) dL_law_1604 (by decide) (A := none) (B := some ()) (o := ()) (if_neg (by rcases hq with e | e <;> (rw [e]; decide))) (fun n _ => by cases n) (fun _ _ => ?_)
    refine J_goto C (tgt := 1719) dL_law_1618 (by decide) ?_
    refine J_sub [2, 3, 4, 5, 6] rfl ?_
    exact k _ hσ zR.2

theorem kl_RL_177 : Cond.constantLong RL 177 (4294967295 : Int64) ∈ okw := okw_in (List.mem_of_getElem? (i := 1748) (by decide +kernel)) (by decide +kernel)
theorem ml_RL_179 : Cond.methodLink RL 179 yX11_put ∈ okw := okw_in (List.mem_of_getElem? (i := 1175) (by decide +kernel)) (by decide +kernel)
theorem mw_X11_put : MV yX11_put cX11_put 6 (some .int) 3 := ⟨⟨okw_in (List.mem_of_getElem? (i := 1178) (by decide +kernel)) (by decide +kernel), okw_in (List.mem_of_getElem? (i := 67) (by decide +kernel)) (by decide +kernel), by decide, by decide, by decide +kernel⟩, okw_in (List.mem_of_getElem? (i := 1176) (by decide +kernel)) (by decide +kernel), okw_in (List.mem_of_getElem? (i := 1177) (by decide +kernel)) (by decide +kernel)⟩
theorem ml_RL_183 : Cond.methodLink RL 183 yX12_put ∈ okw := okw_in (List.mem_of_getElem? (i := 1729) (by decide +kernel)) (by decide +kernel)
theorem mw_X12_put : MV yX12_put cX12_put 5 (some .int) 3 := ⟨⟨okw_in (List.mem_of_getElem? (i := 1732) (by decide +kernel)) (by decide +kernel), okw_in (List.mem_of_getElem? (i := 79) (by decide +kernel)) (by decide +kernel), by decide, by decide, by decide +kernel⟩, okw_in (List.mem_of_getElem? (i := 1730) (by decide +kernel)) (by decide +kernel), okw_in (List.mem_of_getElem? (i := 1731) (by decide +kernel)) (by decide +kernel)⟩
set_option maxRecDepth 100000 in
theorem lw_put {x : Ct} {g : Gm} {nf nlc : Nat} (C : Cx x yL g 8 cL_law RL nf nlc) (hf : 3 ≤ nf) (hl : 70 ≤ nlc) {b L : Nat} {xs : Nat → Int32} (hX : XSc x yL g b L xs) (hL : L ≤ 3072) {i : Int} (hi : 0 ≤ i) (hi6 : i + 6 ≤ (L : Int)) {σ τ : Sg} {f : Int → Int} (hσ : wfS yC σ) (hτ : wfS yR τ) {v : Int} {σ' τ' : Sg} (e0 : fX11_put (xs (i + 1).toNat).toInt (xs (i + 2).toNat).toInt (lngW (xs (i + 3).toNat).toInt (xs (i + 4).toNat).toInt) σ = some (v, σ')) (e1 : fX12_put (xs (i + 1).toNat).toInt (xs (i + 2).toNat).toInt (lngW (xs (i + 3).toNat).toInt (xs (i + 4).toNat).toInt) τ = some (v, τ')) (k : wfS yC σ' → wfS yR τ' → J x yL g 8 1719 (lwLo g b i) [] (zL σ' τ' f)) : J x yL g 8 1473 (lwLo g b i) [] (zL σ τ f) := by
  refine J_aload_n C 1 dL_law_1473 rfl 2 rfl ?_
  refine J_aload_n C 0 dL_law_1474 rfl 1 rfl ?_
  refine J_iload C 4 dL_law_1475 0 rfl ?_
  refine J_iconst C dL_law_1477 ?_
  refine J_iaddS C ⟨by omega, by omega⟩ dL_law_1478 ?_
  refine J_sldI C hX (by omega) (by omega) (by omega) dL_law_1479 ?_
  refine J_aload_n C 0 dL_law_1480 rfl 1 rfl ?_
  refine J_iload C 4 dL_law_1481 0 rfl ?_
  refine J_iconst C dL_law_1483 ?_
  refine J_iaddS C ⟨by omega, by omega⟩ dL_law_1484 ?_
  refine J_sldI C hX (by omega) (by omega) (by omega) dL_law_1485 ?_
  refine J_aload_n C 0 dL_law_1486 rfl 1 rfl ?_
  refine J_iload C 4 dL_law_1487 0 rfl ?_
  refine J_iconst C dL_law_1489 ?_
  refine J_iaddS C ⟨by omega, by omega⟩ dL_law_1490 ?_
  refine J_sldI C hX (by omega) (by omega) (by omega) dL_law_1491 ?_
  refine J_i2l C (rg_toInt32 _) dL_law_1492 ?_
  refine J_bipush C dL_law_1493 (bp8 (by decide) (by decide)) ?_
  refine J_lshlV C rfl dL_law_1495 ?_
  refine J_aload_n C 0 dL_law_1496 rfl 1 rfl ?_
  refine J_iload C 4 dL_law_1497 0 rfl ?_
  refine J_iconst C dL_law_1499 ?_
  refine J_iaddS C ⟨by omega, by omega⟩ dL_law_1500 ?_
  refine J_sldI C hX (by omega) (by omega) (by omega) dL_law_1501 ?_
  refine J_i2l C (rg_toInt32 _) dL_law_1502 ?_
  refine J_ldc2V C kl_RL_177 dL_law_1503 ?_
  refine J_landV C dL_law_1506 ?_
  refine J_lorL C dL_law_1507 ?_
  refine J_callVE (rest := []) C EmC mw_X11_put ml_RL_179 (CJ_at (m_X11_put x.2.1 (sh 0 g) (EmC.inj (CxI C)) (xs (i + 1).toNat).toInt (rg_toInt32 _) (xs (i + 2).toNat).toInt (rg_toInt32 _) (lngW (xs (i + 3).toNat).toInt (xs (i + 4).toNat).toInt) σ hσ (v, σ') e0) (zL_C σ τ f)) oC_0 rfl (Nat.le_trans (Nat.le_of_ble_eq_true rfl) hf) (Nat.le_trans (Nat.le_of_ble_eq_true rfl) hl) (by rw [sh_0]; rfl) rfl (Nat.le_of_ble_eq_true rfl) dL_law_1508 (fun zC => ?_)
  rw [zL_inC]
  refine J_aload_n C 2 dL_law_1511 rfl 3 rfl ?_
  refine J_aload_n C 0 dL_law_1512 rfl 1 rfl ?_
  refine J_iload C 4 dL_law_1513 0 rfl ?_
  refine J_iconst C dL_law_1515 ?_
  refine J_iaddS C ⟨by omega, by omega⟩ dL_law_1516 ?_
  refine J_sldI C hX (by omega) (by omega) (by omega) dL_law_1517 ?_
  refine J_aload_n C 0 dL_law_1518 rfl 1 rfl ?_
  refine J_iload C 4 dL_law_1519 0 rfl ?_
  refine J_iconst C dL_law_1521 ?_
  refine J_iaddS C ⟨by omega, by omega⟩ dL_law_1522 ?_
  refine J_sldI C hX (by omega) (by omega) (by omega) dL_law_1523 ?_
  refine J_aload_n C 0 dL_law_1524 rfl 1 rfl ?_
  refine J_iload C 4 dL_law_1525 0 rfl ?_
  refine J_iconst C dL_law_1527 ?_
  refine J_iaddS C ⟨by omega, by omega⟩ dL_law_1528 ?_
  refine J_sldI C hX (by omega) (by omega) (by omega) dL_law_1529 ?_
  refine J_i2l C (rg_toInt32 _) dL_law_1530 ?_
  refine J_bipush C dL_law_1531 (bp8 (by decide) (by decide)) ?_
  refine J_lshlV C rfl dL_law_1533 ?_
  refine J_aload_n C 0 dL_law_1534 rfl 1 rfl ?_
  refine J_iload C 4 dL_law_1535 0 rfl ?_
  refine J_iconst C dL_law_1537 ?_
  refine J_iaddS C ⟨by omega, by omega⟩ dL_law_1538 ?_
  refine J_sldI C hX (by omega) (by omega) (by omega) dL_law_1539 ?_
  refine J_i2l C (rg_toInt32 _) dL_law_1540 ?_
  refine J_ldc2V C kl_RL_177 dL_law_1541 ?_
  refine J_landV C dL_law_1544 ?_
  refine J_lorL C dL_law_1545 ?_
  refine J_callVE (rest := [vi v]) C EmR mw_X12_put ml_RL_183 (CJ_at (m_X12_put x.2.1 (sh 101 g) (EmR.inj (CxI C)) (xs (i + 1).toNat).toInt (rg_toInt32 _) (xs (i + 2).toNat).toInt (rg_toInt32 _) (lngW (xs (i + 3).toNat).toInt (xs (i + 4).toNat).toInt) τ hτ (v, τ') e1) (zL_R σ' τ f)) oR_0 rfl (Nat.le_trans (Nat.le_of_ble_eq_true rfl) hf) (Nat.le_trans (Nat.le_of_ble_eq_true rfl) hl) rfl rfl (Nat.le_of_ble_eq_true rfl) dL_law_1546 (fun zR => ?_)
  rw [zL_inR]
  refine J_icmp_eq C zC.1 zR.1 (tgt := 1719) dL_law_1549 (by decide) (A := some ()) (B := none) (o := ()) (if_pos rfl) (fun _ _ => ?_) (fun _ n => absurd rfl n)
  exact k zC.2 zR.2
