def yL : Sy := (yC.1 ++ yR.1.map (fun d => fun g f => d (sh 101 g) f) ++ [cL 1], fun i => if i < 101 then yC.2 i else if i < 146 then yR.2 (i - 101) else true)
set_option maxRecDepth 100000 in
theorem EmC : Em yC yL 0 := by
  refine ⟨Nat.le_of_ble_eq_true rfl, fun i d h => ⟨d, ?_, fun g f => by rw [sh_0]⟩⟩
  show (yC.1 ++ yR.1.map _ ++ [cL 1])[0 + i]? = some d
  have hi : i < yC.1.length := (List.getElem?_eq_some_iff.mp h).1
  rw [Nat.zero_add, List.getElem?_append_left (by simp; omega), List.getElem?_append_left hi]
  exact h
set_option maxRecDepth 100000 in
theorem EmR : Em yR yL 101 := by
  refine ⟨Nat.le_of_ble_eq_true rfl, fun i d h => ⟨fun g f => d (sh 101 g) f, ?_, fun g f => rfl⟩⟩
  have hi : i < yR.1.length := (List.getElem?_eq_some_iff.mp h).1
  have hC : yC.1.length = 101 := rfl
  have h1 : (yC.1 ++ (yR.1.map (fun d => fun g f => d (sh 101 g) f) ++ [cL 1]))[101 + i]? = some (fun g f => d (sh 101 g) f) := by
    rw [List.getElem?_append_right (by omega), show 101 + i - yC.1.length = i from by omega, List.getElem?_append_left (by simp; omega), List.getElem?_map, h]
    rfl
  show (yC.1 ++ yR.1.map _ ++ [cL 1])[101 + i]? = _
  rw [List.append_assoc]
  exact h1
theorem aL_146 : aL yL 146 1 := ⟨rfl, by decide, rfl⟩
def zL (σ τ : Sg) (f : Int → Int) : Sg := fun i => if i < 101 then σ i else if i < 146 then τ (i - 101) else if i = 146 then f else fun _ => 0
theorem wd_ext {y : Sy} {g : Gm} {σ τ : Sg} (h : ∀ i, i < y.1.length → σ i = τ i) : wd y g σ = wd y g τ := by
  unfold wd
  apply List.map_congr_left
  intro i hi
  rw [h i (List.mem_range.mp hi)]
theorem zL_C (σ τ : Sg) (f : Int → Int) : ∀ i, i < yC.1.length → σ i = cutS 0 (zL σ τ f) i := by
  intro i hi
  have hC : yC.1.length = 101 := rfl
  unfold cutS zL
  rw [Nat.zero_add, if_pos (by omega)]
theorem zL_R (σ τ : Sg) (f : Int → Int) : ∀ i, i < yR.1.length → τ i = cutS 101 (zL σ τ f) i := by
  intro i hi
  have hC : yR.1.length = 45 := rfl
  unfold cutS zL
  rw [if_neg (by omega), if_pos (by omega), show 101 + i - 101 = i from by omega]
theorem zL_inC (σ τ σ' : Sg) (f : Int → Int) : intoS 0 yC.1.length (zL σ τ f) σ' = zL σ' τ f := by
  have hC : yC.1.length = 101 := rfl
  funext j
  unfold intoS zL
  rw [hC]
  by_cases c : j < 101
  · rw [if_pos ⟨by omega, by omega⟩, if_pos c]; rfl
  · rw [if_neg (by omega), if_neg c, if_neg c]
theorem zL_inR (σ τ τ' : Sg) (f : Int → Int) : intoS 101 yR.1.length (zL σ τ f) τ' = zL σ τ' f := by
  have hC : yR.1.length = 45 := rfl
  funext j
  unfold intoS zL
  rw [hC]
  by_cases c : j < 101
  · rw [if_neg (by omega), if_pos c, if_pos c]
  · by_cases c2 : j < 146
    · rw [if_pos ⟨by omega, by omega⟩, if_neg c, if_pos c2]
    · rw [if_neg (by omega), if_neg c, if_neg c, if_neg c2, if_neg c2]
theorem zL_wf {σ τ : Sg} {f : Int → Int} (h1 : wfS yC σ) (h2 : wfS yR τ) : wfS yL (zL σ τ f) := by
  intro i k hi
  unfold zL
  by_cases c : i < 101
  · rw [if_pos c]
    exact h1 i k (by rw [show yL.2 i = yC.2 i from by show (if i < 101 then _ else _) = _; rw [if_pos c]] at hi; exact hi)
  · rw [if_neg c]
    by_cases c2 : i < 146
    · rw [if_pos c2]
      exact h2 (i - 101) k (by rw [show yL.2 i = yR.2 (i - 101) from by show (if i < 101 then _ else if i < 146 then _ else _) = _; rw [if_neg c, if_pos c2]] at hi; exact hi)
    · exact absurd hi (by show (if i < 101 then _ else if i < 146 then _ else true) ≠ false; rw [if_neg c, if_neg c2]; decide)
theorem CJ_at {l : Launch} {y : Sy} {g : Gm} {n : MethodName} {cc : ByteArray} {maxL : Nat} {ret : Option FieldType} {fr lc : Nat} {avs : List Value} {σ ρ : Sg} {rv : Option Value} {σ' : Sg} {zz : Prop} (h : CJ l y g n cc maxL ret fr lc avs σ rv σ' zz) (e : ∀ i, i < y.1.length → σ i = ρ i) : CJ l y g n cc maxL ret fr lc avs ρ rv σ' zz := by
  unfold CJ PJ at *
  rw [← wd_ext e]
  exact h
theorem TJ_at {l : Launch} {y : Sy} {g : Gm} {n : MethodName} {cc : ByteArray} {maxL : Nat} {ret : Option FieldType} {fr lc : Nat} {avs : List Value} {σ ρ : Sg} {E0 : String} {σ' : Sg} {zz : Prop} (h : TJ l y g n cc maxL ret fr lc avs σ E0 σ' zz) (e : ∀ i, i < y.1.length → σ i = ρ i) : TJ l y g n cc maxL ret fr lc avs ρ E0 σ' zz := by
  unfold TJ PJ at *
  rw [← wd_ext e]
  exact h
theorem CH_at {l : Launch} {y : Sy} {g : Gm} {n : MethodName} {cc : ByteArray} {maxL : Nat} {ret : Option FieldType} {hh : List (Nat × Nat × Nat × Nat)} {fr lc : Nat} {avs : List Value} {σ ρ : Sg} {rv : Option Value} {σ' : Sg} {zz : Prop} (h : CH l y g n cc maxL ret hh fr lc avs σ rv σ' zz) (e : ∀ i, i < y.1.length → σ i = ρ i) : CH l y g n cc maxL ret hh fr lc avs ρ rv σ' zz := by
  unfold CH PJ at *
  rw [← wd_ext e]
  exact h

theorem put_zL (σ τ : Sg) (f : Int → Int) (q : Int) : put (zL σ τ f) 146 0 q = zL σ τ (fun k => if k = 0 then q else f k) := by
  funext j
  unfold put setA
  by_cases c : j = 146
  · subst c
    rw [if_pos rfl]
    rfl
  · rw [if_neg c]
    unfold zL
    by_cases c1 : j < 101
    · rw [if_pos c1, if_pos c1]
    · by_cases c2 : j < 146
      · rw [if_neg c1, if_neg c1, if_pos c2, if_pos c2]
      · rw [if_neg c1, if_neg c1, if_neg c2, if_neg c2, if_neg c, if_neg c]

theorem mwh_L_cue : MWH yL_cue cL_cue 5 (some .int) [((0 : Nat), (10 : Nat), (13 : Nat), (13 : Nat)), ((0 : Nat), (10 : Nat), (17 : Nat), (15 : Nat))] 4 ∧ Cond.static yL_cue ∈ okw := ⟨⟨okw_in (List.mem_of_getElem? (i := 1215) (by decide +kernel)) (by decide +kernel), okw_in (List.mem_of_getElem? (i := 66) (by decide +kernel)) (by decide +kernel), by decide, by decide, by decide +kernel⟩, okw_in (List.mem_of_getElem? (i := 1214) (by decide +kernel)) (by decide +kernel)⟩
theorem ml_RL_7 : Cond.methodLink RL 7 yX11_cue ∈ okw := okw_in (List.mem_of_getElem? (i := 1218) (by decide +kernel)) (by decide +kernel)
theorem mw_X11_cue : MV yX11_cue cX11_cue 3 (some .int) 2 := ⟨⟨okw_in (List.mem_of_getElem? (i := 1221) (by decide +kernel)) (by decide +kernel), okw_in (List.mem_of_getElem? (i := 67) (by decide +kernel)) (by decide +kernel), by decide, by decide, by decide +kernel⟩, okw_in (List.mem_of_getElem? (i := 1219) (by decide +kernel)) (by decide +kernel), okw_in (List.mem_of_getElem? (i := 1220) (by decide +kernel)) (by decide +kernel)⟩
theorem cl_RL_13 : Cond.classLink RL 13 "java/lang/IllegalArgumentException" ∈ okw := okw_in (List.mem_of_getElem? (i := 1216) (by decide +kernel)) (by decide +kernel)
theorem cl_RL_15 : Cond.classLink RL 15 "java/lang/IllegalStateException" ∈ okw := okw_in (List.mem_of_getElem? (i := 1217) (by decide +kernel)) (by decide +kernel)
theorem mwh_L_goes : MWH yL_goes cL_goes 5 (some .int) [((0 : Nat), (10 : Nat), (13 : Nat), (13 : Nat)), ((0 : Nat), (10 : Nat), (17 : Nat), (15 : Nat))] 4 ∧ Cond.static yL_goes ∈ okw := ⟨⟨okw_in (List.mem_of_getElem? (i := 1243) (by decide +kernel)) (by decide +kernel), okw_in (List.mem_of_getElem? (i := 66) (by decide +kernel)) (by decide +kernel), by decide, by decide, by decide +kernel⟩, okw_in (List.mem_of_getElem? (i := 1242) (by decide +kernel)) (by decide +kernel)⟩
theorem ml_RL_17 : Cond.methodLink RL 17 yX11_goes ∈ okw := okw_in (List.mem_of_getElem? (i := 1244) (by decide +kernel)) (by decide +kernel)
theorem mw_X11_goes : MV yX11_goes cX11_goes 5 (some .int) 2 := ⟨⟨okw_in (List.mem_of_getElem? (i := 1247) (by decide +kernel)) (by decide +kernel), okw_in (List.mem_of_getElem? (i := 67) (by decide +kernel)) (by decide +kernel), by decide, by decide, by decide +kernel⟩, okw_in (List.mem_of_getElem? (i := 1245) (by decide +kernel)) (by decide +kernel), okw_in (List.mem_of_getElem? (i := 1246) (by decide +kernel)) (by decide +kernel)⟩
theorem mwh_L_at : MWH yL_at cL_at 5 (some .int) [((0 : Nat), (9 : Nat), (12 : Nat), (13 : Nat)), ((0 : Nat), (9 : Nat), (16 : Nat), (15 : Nat))] 4 ∧ Cond.static yL_at ∈ okw := ⟨⟨okw_in (List.mem_of_getElem? (i := 1253) (by decide +kernel)) (by decide +kernel), okw_in (List.mem_of_getElem? (i := 66) (by decide +kernel)) (by decide +kernel), by decide, by decide, by decide +kernel⟩, okw_in (List.mem_of_getElem? (i := 1252) (by decide +kernel)) (by decide +kernel)⟩
theorem ml_RL_20 : Cond.methodLink RL 20 yX11_at ∈ okw := okw_in (List.mem_of_getElem? (i := 1254) (by decide +kernel)) (by decide +kernel)
theorem mw_X11_at : MV yX11_at cX11_at 4 (some .long) 2 := ⟨⟨okw_in (List.mem_of_getElem? (i := 1257) (by decide +kernel)) (by decide +kernel), okw_in (List.mem_of_getElem? (i := 67) (by decide +kernel)) (by decide +kernel), by decide, by decide, by decide +kernel⟩, okw_in (List.mem_of_getElem? (i := 1255) (by decide +kernel)) (by decide +kernel), okw_in (List.mem_of_getElem? (i := 1256) (by decide +kernel)) (by decide +kernel)⟩
theorem lawCatch1_cue {x : Ct} {y : Sy} {g : Gm} {nL nf nlc : Nat} {cc : ByteArray} {own : String} (C : Cx x y g nL cc own nf nlc) (HT : TBx x [((0 : Nat), (10 : Nat), (13 : Nat), (13 : Nat)), ((0 : Nat), (10 : Nat), (17 : Nat), (15 : Nat))]) : CatchAt x RL 5 (exName 1) 13 := by
  obtain ⟨p, l, e, R, s, m, args, below, meth, c, Q, kc, ks⟩ := x
  exact ⟨[], ⟨0, 10, 13, 13⟩, [⟨0, 10, 17, 15⟩], "java/lang/IllegalArgumentException", HT, fun w hw => absurd hw List.not_mem_nil, rfl, by decide, cl_RL_13, by decide +kernel, rfl⟩
theorem lawCatch2_cue {x : Ct} {y : Sy} {g : Gm} {nL nf nlc : Nat} {cc : ByteArray} {own : String} (C : Cx x y g nL cc own nf nlc) (HT : TBx x [((0 : Nat), (10 : Nat), (13 : Nat), (13 : Nat)), ((0 : Nat), (10 : Nat), (17 : Nat), (15 : Nat))]) : CatchAt x RL 5 (exName 2) 17 := by
  obtain ⟨p, l, e, R, s, m, args, below, meth, c, Q, kc, ks⟩ := x
  obtain ⟨hx, hb, hml, hown, hts, hK, hg, hNf, hNl, hLk, hSt, hKc, hKs⟩ := C
  refine ⟨[⟨0, 10, 13, 13⟩], ⟨0, 10, 17, 15⟩, [], "java/lang/IllegalStateException", HT, fun w hw => ?_, rfl, by decide, cl_RL_15, by decide +kernel, rfl⟩
  have hw := List.mem_singleton.mp hw
  subst hw
  exact Or.inr ⟨by decide, _, cl_RL_13, hSt.2.2.2.2.2.2⟩
set_option maxRecDepth 100000 in
theorem h_L_cue (l : Launch) (g : Gm) (hg : gInj yL g) (hlt : l.stackTraces = false) (x1 : Int) (h1 : rg x1) (x2 : Int) (h2 : rg x2) (σ τ : Sg) (f : Int → Int) (hσ : wfS yC σ) (hτ : wfS yR τ) (q : Int) (h : fX11_cue x1 x2 σ = some q) : CH l yL g yL_cue cL_cue 5 (some .int) [((0 : Nat), (10 : Nat), (13 : Nat), (13 : Nat)), ((0 : Nat), (10 : Nat), (17 : Nat), (15 : Nat))] 7 132 [.ref (gad g 0), vi x1, vi x2, .ref (gad g 146)] (zL σ τ f) (some (vi 0)) (zL σ τ (fun k => if k = 0 then q else f k)) True := by
  refine CH_of hg (by decide) rfl (Nat.le_of_ble_eq_true rfl) (lo := [(0, .ref (gad g 0)), (1, vi x1), (2, vi x2), (3, .ref (gad g 146))]) rfl (fun x C C2 E E2 HT hxl => ?_)
  refine J_aload_n C 3 dL_cue_0 rfl 3 rfl ?_
  refine J_iconst C dL_cue_1 ?_
  refine J_aload_n C 0 dL_cue_2 rfl 0 rfl ?_
  refine J_iload_n C 1 dL_cue_3 rfl 1 rfl ?_
  refine J_iload_n C 2 dL_cue_4 rfl 2 rfl ?_
  refine J_callVE (rest := [vi 0, .ref (gad g 146)]) C EmC mw_X11_cue ml_RL_7 (CJ_at (m_X11_cue x.2.1 (sh 0 g) (EmC.inj hg) x1 h1 x2 h2 σ hσ q h) (zL_C σ τ f)) oC_0 rfl (Nat.le_of_ble_eq_true rfl) (Nat.le_of_ble_eq_true rfl) (by rw [sh_0]; rfl) rfl (Nat.le_of_ble_eq_true rfl) dL_cue_5 (fun hz => ?_)
  rw [zL_inC]
  refine J_i2l C hz dL_cue_8 ?_
  refine J_last C aL_146 (zL_wf (σ := σ) hσ hτ) dL_cue_9 (K := fun z => some z) (o := zL σ τ (fun k => if k = 0 then q else f k)) (by rw [← put_zL]; rfl) (fun z hz3 e9 => ?_)
  have e9 := sE e9
  subst e9
  refine J_goto C (tgt := 21) dL_cue_10 (by decide) ?_
  refine J_iconst C dL_cue_21 ?_
  exact J_iret C E trivial dL_cue_22
set_option maxRecDepth 100000 in
theorem h_L_cueT (l : Launch) (g : Gm) (hg : gInj yL g) (hlt : l.stackTraces = false) (x1 : Int) (h1 : rg x1) (x2 : Int) (h2 : rg x2) (σ τ : Sg) (f : Int → Int) (hσ : wfS yC σ) (hτ : wfS yR τ) (q : Int) (h : fX11_cueT x1 x2 σ = some q) (hq : q = 1 ∨ q = 2) : CH l yL g yL_cue cL_cue 5 (some .int) [((0 : Nat), (10 : Nat), (13 : Nat), (13 : Nat)), ((0 : Nat), (10 : Nat), (17 : Nat), (15 : Nat))] 7 132 [.ref (gad g 0), vi x1, vi x2, .ref (gad g 146)] (zL σ τ f) (some (vi q)) (zL σ τ f) True := by
  refine CH_of hg (by decide) rfl (Nat.le_of_ble_eq_true rfl) (lo := [(0, .ref (gad g 0)), (1, vi x1), (2, vi x2), (3, .ref (gad g 146))]) rfl (fun x C C2 E E2 HT hxl => ?_)
  refine J_aload_n C 3 dL_cue_0 rfl 3 rfl ?_
  refine J_iconst C dL_cue_1 ?_
  refine J_aload_n C 0 dL_cue_2 rfl 0 rfl ?_
  refine J_iload_n C 1 dL_cue_3 rfl 1 rfl ?_
  refine J_iload_n C 2 dL_cue_4 rfl 2 rfl ?_
  rcases hq with hq | hq
  · refine J_catchV (rest := [vi 0, .ref (gad g 146)]) C C2 EmC mw_X11_cue ml_RL_7 (TJ_at (t_X11_cueT x.2.1 (sh 0 g) (EmC.inj hg) (by rw [hxl]; exact hlt) x1 h1 x2 h2 σ hσ q h) (zL_C σ τ f)) oC_0 rfl (Nat.le_of_ble_eq_true rfl) (Nat.le_of_ble_eq_true rfl) (by rw [sh_0]; rfl) rfl (Nat.le_of_ble_eq_true rfl) dL_cue_5 (by rw [hq]; exact lawCatch1_cue C HT) (fun hz a8 => ?_)
    rw [zL_inC]
    have C := C2
    have E := E2
    refine J_astore (lo2 := [(4, .ref a8), (0, .ref (gad g 0)), (1, vi x1), (2, vi x2), (3, .ref (gad g 146))]) C 4 dL_cue_13 (by decide) rfl ?_
    refine J_iconst C dL_cue_15 ?_
    rw [hq] at E
    exact J_iret C E trivial dL_cue_16
  · refine J_catchV (rest := [vi 0, .ref (gad g 146)]) C C2 EmC mw_X11_cue ml_RL_7 (TJ_at (t_X11_cueT x.2.1 (sh 0 g) (EmC.inj hg) (by rw [hxl]; exact hlt) x1 h1 x2 h2 σ hσ q h) (zL_C σ τ f)) oC_0 rfl (Nat.le_of_ble_eq_true rfl) (Nat.le_of_ble_eq_true rfl) (by rw [sh_0]; rfl) rfl (Nat.le_of_ble_eq_true rfl) dL_cue_5 (by rw [hq]; exact lawCatch2_cue C HT) (fun hz a8 => ?_)
    rw [zL_inC]
    have C := C2
    have E := E2
    refine J_astore (lo2 := [(4, .ref a8), (0, .ref (gad g 0)), (1, vi x1), (2, vi x2), (3, .ref (gad g 146))]) C 4 dL_cue_17 (by decide) rfl ?_
    refine J_iconst C dL_cue_19 ?_
    rw [hq] at E
    exact J_iret C E trivial dL_cue_20
theorem lawCatch1_goes {x : Ct} {y : Sy} {g : Gm} {nL nf nlc : Nat} {cc : ByteArray} {own : String} (C : Cx x y g nL cc own nf nlc) (HT : TBx x [((0 : Nat), (10 : Nat), (13 : Nat), (13 : Nat)), ((0 : Nat), (10 : Nat), (17 : Nat), (15 : Nat))]) : CatchAt x RL 5 (exName 1) 13 := by
  obtain ⟨p, l, e, R, s, m, args, below, meth, c, Q, kc, ks⟩ := x
  exact ⟨[], ⟨0, 10, 13, 13⟩, [⟨0, 10, 17, 15⟩], "java/lang/IllegalArgumentException", HT, fun w hw => absurd hw List.not_mem_nil, rfl, by decide, cl_RL_13, by decide +kernel, rfl⟩
theorem lawCatch2_goes {x : Ct} {y : Sy} {g : Gm} {nL nf nlc : Nat} {cc : ByteArray} {own : String} (C : Cx x y g nL cc own nf nlc) (HT : TBx x [((0 : Nat), (10 : Nat), (13 : Nat), (13 : Nat)), ((0 : Nat), (10 : Nat), (17 : Nat), (15 : Nat))]) : CatchAt x RL 5 (exName 2) 17 := by
  obtain ⟨p, l, e, R, s, m, args, below, meth, c, Q, kc, ks⟩ := x
  obtain ⟨hx, hb, hml, hown, hts, hK, hg, hNf, hNl, hLk, hSt, hKc, hKs⟩ := C
  refine ⟨[⟨0, 10, 13, 13⟩], ⟨0, 10, 17, 15⟩, [], "java/lang/IllegalStateException", HT, fun w hw => ?_, rfl, by decide, cl_RL_15, by decide +kernel, rfl⟩
  have hw := List.mem_singleton.mp hw
  subst hw
  exact Or.inr ⟨by decide, _, cl_RL_13, hSt.2.2.2.2.2.2⟩
set_option maxRecDepth 100000 in
theorem h_L_goes (l : Launch) (g : Gm) (hg : gInj yL g) (hlt : l.stackTraces = false) (x1 : Int) (h1 : rg x1) (x2 : Int) (h2 : rg x2) (σ τ : Sg) (f : Int → Int) (hσ : wfS yC σ) (hτ : wfS yR τ) (q : Int × Sg) (h : fX11_goes x1 x2 σ = some q) : CH l yL g yL_goes cL_goes 5 (some .int) [((0 : Nat), (10 : Nat), (13 : Nat), (13 : Nat)), ((0 : Nat), (10 : Nat), (17 : Nat), (15 : Nat))] 8 198 [.ref (gad g 0), vi x1, vi x2, .ref (gad g 146)] (zL σ τ f) (some (vi 0)) (zL q.2 τ (fun k => if k = 0 then q.1 else f k)) True := by
  refine CH_of hg (by decide) rfl (Nat.le_of_ble_eq_true rfl) (lo := [(0, .ref (gad g 0)), (1, vi x1), (2, vi x2), (3, .ref (gad g 146))]) rfl (fun x C C2 E E2 HT hxl => ?_)
  refine J_aload_n C 3 dL_goes_0 rfl 3 rfl ?_
  refine J_iconst C dL_goes_1 ?_
  refine J_aload_n C 0 dL_goes_2 rfl 0 rfl ?_
  refine J_iload_n C 1 dL_goes_3 rfl 1 rfl ?_
  refine J_iload_n C 2 dL_goes_4 rfl 2 rfl ?_
  refine J_callVE (rest := [vi 0, .ref (gad g 146)]) C EmC mw_X11_goes ml_RL_17 (CJ_at (m_X11_goes x.2.1 (sh 0 g) (EmC.inj hg) x1 h1 x2 h2 σ hσ q h) (zL_C σ τ f)) oC_0 rfl (Nat.le_of_ble_eq_true rfl) (Nat.le_of_ble_eq_true rfl) (by rw [sh_0]; rfl) rfl (Nat.le_of_ble_eq_true rfl) dL_goes_5 (fun hz => ?_)
  rw [zL_inC]
  refine J_i2l C hz.1 dL_goes_8 ?_
  refine J_last C aL_146 (zL_wf (σ := q.2) hz.2 hτ) dL_goes_9 (K := fun z => some z) (o := zL q.2 τ (fun k => if k = 0 then q.1 else f k)) (by rw [← put_zL]; rfl) (fun z hz3 e9 => ?_)
  have e9 := sE e9
  subst e9
  refine J_goto C (tgt := 21) dL_goes_10 (by decide) ?_
  refine J_iconst C dL_goes_21 ?_
  exact J_iret C E trivial dL_goes_22
set_option maxRecDepth 100000 in
theorem h_L_goesT (l : Launch) (g : Gm) (hg : gInj yL g) (hlt : l.stackTraces = false) (x1 : Int) (h1 : rg x1) (x2 : Int) (h2 : rg x2) (σ τ : Sg) (f : Int → Int) (hσ : wfS yC σ) (hτ : wfS yR τ) (q : Int × Sg) (h : fX11_goesT x1 x2 σ = some q) (hq : q.1 = 1 ∨ q.1 = 2) : CH l yL g yL_goes cL_goes 5 (some .int) [((0 : Nat), (10 : Nat), (13 : Nat), (13 : Nat)), ((0 : Nat), (10 : Nat), (17 : Nat), (15 : Nat))] 8 198 [.ref (gad g 0), vi x1, vi x2, .ref (gad g 146)] (zL σ τ f) (some (vi q.1)) (zL q.2 τ f) True := by
  refine CH_of hg (by decide) rfl (Nat.le_of_ble_eq_true rfl) (lo := [(0, .ref (gad g 0)), (1, vi x1), (2, vi x2), (3, .ref (gad g 146))]) rfl (fun x C C2 E E2 HT hxl => ?_)
  refine J_aload_n C 3 dL_goes_0 rfl 3 rfl ?_
  refine J_iconst C dL_goes_1 ?_
  refine J_aload_n C 0 dL_goes_2 rfl 0 rfl ?_
  refine J_iload_n C 1 dL_goes_3 rfl 1 rfl ?_
  refine J_iload_n C 2 dL_goes_4 rfl 2 rfl ?_
  rcases hq with hq | hq
  · refine J_catchV (rest := [vi 0, .ref (gad g 146)]) C C2 EmC mw_X11_goes ml_RL_17 (TJ_at (t_X11_goesT x.2.1 (sh 0 g) (EmC.inj hg) (by rw [hxl]; exact hlt) x1 h1 x2 h2 σ hσ q h) (zL_C σ τ f)) oC_0 rfl (Nat.le_of_ble_eq_true rfl) (Nat.le_of_ble_eq_true rfl) (by rw [sh_0]; rfl) rfl (Nat.le_of_ble_eq_true rfl) dL_goes_5 (by rw [hq]; exact lawCatch1_goes C HT) (fun hz a8 => ?_)
    rw [zL_inC]
    have C := C2
    have E := E2
    refine J_astore (lo2 := [(4, .ref a8), (0, .ref (gad g 0)), (1, vi x1), (2, vi x2), (3, .ref (gad g 146))]) C 4 dL_goes_13 (by decide) rfl ?_
    refine J_iconst C dL_goes_15 ?_
    rw [hq] at E
    exact J_iret C E trivial dL_goes_16
  · refine J_catchV (rest := [vi 0, .ref (gad g 146)]) C C2 EmC mw_X11_goes ml_RL_17 (TJ_at (t_X11_goesT x.2.1 (sh 0 g) (EmC.inj hg) (by rw [hxl]; exact hlt) x1 h1 x2 h2 σ hσ q h) (zL_C σ τ f)) oC_0 rfl (Nat.le_of_ble_eq_true rfl) (Nat.le_of_ble_eq_true rfl) (by rw [sh_0]; rfl) rfl (Nat.le_of_ble_eq_true rfl) dL_goes_5 (by rw [hq]; exact lawCatch2_goes C HT) (fun hz a8 => ?_)
    rw [zL_inC]
    have C := C2
    have E := E2
    refine J_astore (lo2 := [(4, .ref a8), (0, .ref (gad g 0)), (1, vi x1), (2, vi x2), (3, .ref (gad g 146))]) C 4 dL_goes_17 (by decide) rfl ?_
    refine J_iconst C dL_goes_19 ?_
    rw [hq] at E
    exact J_iret C E trivial dL_goes_20
theorem lawCatch1_at {x : Ct} {y : Sy} {g : Gm} {nL nf nlc : Nat} {cc : ByteArray} {own : String} (C : Cx x y g nL cc own nf nlc) (HT : TBx x [((0 : Nat), (9 : Nat), (12 : Nat), (13 : Nat)), ((0 : Nat), (9 : Nat), (16 : Nat), (15 : Nat))]) : CatchAt x RL 5 (exName 1) 12 := by
  obtain ⟨p, l, e, R, s, m, args, below, meth, c, Q, kc, ks⟩ := x
  exact ⟨[], ⟨0, 9, 12, 13⟩, [⟨0, 9, 16, 15⟩], "java/lang/IllegalArgumentException", HT, fun w hw => absurd hw List.not_mem_nil, rfl, by decide, cl_RL_13, by decide +kernel, rfl⟩
theorem lawCatch2_at {x : Ct} {y : Sy} {g : Gm} {nL nf nlc : Nat} {cc : ByteArray} {own : String} (C : Cx x y g nL cc own nf nlc) (HT : TBx x [((0 : Nat), (9 : Nat), (12 : Nat), (13 : Nat)), ((0 : Nat), (9 : Nat), (16 : Nat), (15 : Nat))]) : CatchAt x RL 5 (exName 2) 16 := by
  obtain ⟨p, l, e, R, s, m, args, below, meth, c, Q, kc, ks⟩ := x
  obtain ⟨hx, hb, hml, hown, hts, hK, hg, hNf, hNl, hLk, hSt, hKc, hKs⟩ := C
  refine ⟨[⟨0, 9, 12, 13⟩], ⟨0, 9, 16, 15⟩, [], "java/lang/IllegalStateException", HT, fun w hw => ?_, rfl, by decide, cl_RL_15, by decide +kernel, rfl⟩
  have hw := List.mem_singleton.mp hw
  subst hw
  exact Or.inr ⟨by decide, _, cl_RL_13, hSt.2.2.2.2.2.2⟩
set_option maxRecDepth 100000 in
theorem h_L_at (l : Launch) (g : Gm) (hg : gInj yL g) (hlt : l.stackTraces = false) (x1 : Int) (h1 : rg x1) (x2 : Int) (h2 : rg x2) (σ τ : Sg) (f : Int → Int) (hσ : wfS yC σ) (hτ : wfS yR τ) (q : Int) (h : fX11_at x1 x2 σ = some q) : CH l yL g yL_at cL_at 5 (some .int) [((0 : Nat), (9 : Nat), (12 : Nat), (13 : Nat)), ((0 : Nat), (9 : Nat), (16 : Nat), (15 : Nat))] 7 133 [.ref (gad g 0), vi x1, vi x2, .ref (gad g 146)] (zL σ τ f) (some (vi 0)) (zL σ τ (fun k => if k = 0 then q else f k)) True := by
  refine CH_of hg (by decide) rfl (Nat.le_of_ble_eq_true rfl) (lo := [(0, .ref (gad g 0)), (1, vi x1), (2, vi x2), (3, .ref (gad g 146))]) rfl (fun x C C2 E E2 HT hxl => ?_)
  refine J_aload_n C 3 dL_at_0 rfl 3 rfl ?_
  refine J_iconst C dL_at_1 ?_
  refine J_aload_n C 0 dL_at_2 rfl 0 rfl ?_
  refine J_iload_n C 1 dL_at_3 rfl 1 rfl ?_
  refine J_iload_n C 2 dL_at_4 rfl 2 rfl ?_
  refine J_callVE (rest := [vi 0, .ref (gad g 146)]) C EmC mw_X11_at ml_RL_20 (CJ_at (m_X11_at x.2.1 (sh 0 g) (EmC.inj hg) x1 h1 x2 h2 σ hσ q h) (zL_C σ τ f)) oC_0 rfl (Nat.le_of_ble_eq_true rfl) (Nat.le_of_ble_eq_true rfl) (by rw [sh_0]; rfl) rfl (Nat.le_of_ble_eq_true rfl) dL_at_5 (fun hz => ?_)
  rw [zL_inC]
  refine J_last C aL_146 (zL_wf (σ := σ) hσ hτ) dL_at_8 (K := fun z => some z) (o := zL σ τ (fun k => if k = 0 then q else f k)) (by rw [← put_zL]; rfl) (fun z hz3 e9 => ?_)
  have e9 := sE e9
  subst e9
  refine J_goto C (tgt := 20) dL_at_9 (by decide) ?_
  refine J_iconst C dL_at_20 ?_
  exact J_iret C E trivial dL_at_21
set_option maxRecDepth 100000 in
theorem h_L_atT (l : Launch) (g : Gm) (hg : gInj yL g) (hlt : l.stackTraces = false) (x1 : Int) (h1 : rg x1) (x2 : Int) (h2 : rg x2) (σ τ : Sg) (f : Int → Int) (hσ : wfS yC σ) (hτ : wfS yR τ) (q : Int) (h : fX11_atT x1 x2 σ = some q) (hq : q = 1 ∨ q = 2) : CH l yL g yL_at cL_at 5 (some .int) [((0 : Nat), (9 : Nat), (12 : Nat), (13 : Nat)), ((0 : Nat), (9 : Nat), (16 : Nat), (15 : Nat))] 7 133 [.ref (gad g 0), vi x1, vi x2, .ref (gad g 146)] (zL σ τ f) (some (vi q)) (zL σ τ f) True := by
  refine CH_of hg (by decide) rfl (Nat.le_of_ble_eq_true rfl) (lo := [(0, .ref (gad g 0)), (1, vi x1), (2, vi x2), (3, .ref (gad g 146))]) rfl (fun x C C2 E E2 HT hxl => ?_)
  refine J_aload_n C 3 dL_at_0 rfl 3 rfl ?_
  refine J_iconst C dL_at_1 ?_
  refine J_aload_n C 0 dL_at_2 rfl 0 rfl ?_
  refine J_iload_n C 1 dL_at_3 rfl 1 rfl ?_
  refine J_iload_n C 2 dL_at_4 rfl 2 rfl ?_
  rcases hq with hq | hq
  · refine J_catchV (rest := [vi 0, .ref (gad g 146)]) C C2 EmC mw_X11_at ml_RL_20 (TJ_at (t_X11_atT x.2.1 (sh 0 g) (EmC.inj hg) (by rw [hxl]; exact hlt) x1 h1 x2 h2 σ hσ q h) (zL_C σ τ f)) oC_0 rfl (Nat.le_of_ble_eq_true rfl) (Nat.le_of_ble_eq_true rfl) (by rw [sh_0]; rfl) rfl (Nat.le_of_ble_eq_true rfl) dL_at_5 (by rw [hq]; exact lawCatch1_at C HT) (fun hz a8 => ?_)
    rw [zL_inC]
    have C := C2
    have E := E2
    refine J_astore (lo2 := [(4, .ref a8), (0, .ref (gad g 0)), (1, vi x1), (2, vi x2), (3, .ref (gad g 146))]) C 4 dL_at_12 (by decide) rfl ?_
    refine J_iconst C dL_at_14 ?_
    rw [hq] at E
    exact J_iret C E trivial dL_at_15
  · refine J_catchV (rest := [vi 0, .ref (gad g 146)]) C C2 EmC mw_X11_at ml_RL_20 (TJ_at (t_X11_atT x.2.1 (sh 0 g) (EmC.inj hg) (by rw [hxl]; exact hlt) x1 h1 x2 h2 σ hσ q h) (zL_C σ τ f)) oC_0 rfl (Nat.le_of_ble_eq_true rfl) (Nat.le_of_ble_eq_true rfl) (by rw [sh_0]; rfl) rfl (Nat.le_of_ble_eq_true rfl) dL_at_5 (by rw [hq]; exact lawCatch2_at C HT) (fun hz a8 => ?_)
    rw [zL_inC]
    have C := C2
    have E := E2
    refine J_astore (lo2 := [(4, .ref a8), (0, .ref (gad g 0)), (1, vi x1), (2, vi x2), (3, .ref (gad g 146))]) C 4 dL_at_16 (by decide) rfl ?_
    refine J_iconst C dL_at_18 ?_
    rw [hq] at E
    exact J_iret C E trivial dL_at_19

section JL
variable {x : Ct} {y : Sy} {g : Gm} {nL nf nlc : Nat} {cc : ByteArray} {own : String} {pc : Nat} {lo : List (Nat × Value)} {st : List Value} {σ : Sg}
/-- the script: L ints at the cell b, outside the world -/
def XSc (x : Ct) (y : Sy) (g : Gm) (b L : Nat) (xs : Nat → Int32) : Prop := match x with
  | (p, l, e, R, s, m, args, below, meth, c, Q, kc, ks) => va_X b L xs s s.heap ∧ b < s.heap.size ∧ ¬ aw y g b
theorem XSc.bump {b L : Nat} {xs : Nat → Int32} (h : XSc x y g b L xs) (u v : Nat) : XSc (bump x u v) y g b L xs := by
  obtain ⟨p, l, e, R, s, m, args, below, meth, c, Q, kc, ks⟩ := x
  exact h
theorem J_sld (C : Cx x y g nL cc own nf nlc) {b L : Nat} {xs : Nat → Int32} (hX : XSc x y g b L xs) {i : Int} (h0 : 0 ≤ i) (h1 : i < (L : Int)) (hn : L ≤ 2147483648) (d : decode cc pc = .ok (.iaload, 1)) (k : J x y g nL (pc + 1) lo (.int (xs i.toNat) :: st) σ) : J x y g nL pc lo (vi i :: .ref b :: st) σ := by
  obtain ⟨p, l, e, R, s, m, args, below, meth, c, Q, kc, ks⟩ := x
  obtain ⟨hx, hb, hml, hown, hts, hK, hg, hNf, hNl, hLk, hSt, hKc, hKs⟩ := C
  obtain ⟨x1, x2, x3⟩ := hX
  intro H locs ls hP hS hl
  refine va_sld hx hb x1 x2 x3 hS (ofI_in hn h0 h1) d ?_
  rw [ofI_cl hn h0 h1]
  exact k H locs ls hP hS hl
theorem J_slen (C : Cx x y g nL cc own nf nlc) {b L : Nat} {xs : Nat → Int32} (hX : XSc x y g b L xs) (d : decode cc pc = .ok (.arraylength, 1)) (k : J x y g nL (pc + 1) lo (.int (Int32.ofNat L) :: st) σ) : J x y g nL pc lo (.ref b :: st) σ := by
  obtain ⟨p, l, e, R, s, m, args, below, meth, c, Q, kc, ks⟩ := x
  obtain ⟨hx, hb, hml, hown, hts, hK, hg, hNf, hNl, hLk, hSt, hKc, hKs⟩ := C
  obtain ⟨x1, x2, x3⟩ := hX
  intro H locs ls hP hS hl
  exact va_slen hx hb x1 x2 x3 hS d (k H locs ls hP hS hl)
theorem vi_toInt (a : Int32) : (.int a : Value) = vi a.toInt := by unfold vi; rw [Int32.ofInt_toInt]
theorem rg_toInt32 (a : Int32) : rg a.toInt := ⟨by have := Int32.le_toInt a; omega, by have := Int32.toInt_lt a; omega⟩
theorem J_sldI (C : Cx x y g nL cc own nf nlc) {b L : Nat} {xs : Nat → Int32} (hX : XSc x y g b L xs) {i : Int} (h0 : 0 ≤ i) (h1 : i < (L : Int)) (hn : L ≤ 2147483648) (d : decode cc pc = .ok (.iaload, 1)) (k : J x y g nL (pc + 1) lo (vi (xs i.toNat).toInt :: st) σ) : J x y g nL pc lo (vi i :: .ref b :: st) σ :=
  J_sld C hX h0 h1 hn d (by rw [vi_toInt]; exact k)
theorem J_slenI (C : Cx x y g nL cc own nf nlc) {b L : Nat} {xs : Nat → Int32} (hX : XSc x y g b L xs) (d : decode cc pc = .ok (.arraylength, 1)) (k : J x y g nL (pc + 1) lo (vi (L : Int) :: st) σ) : J x y g nL pc lo (.ref b :: st) σ :=
  J_slen C hX d k
end JL

