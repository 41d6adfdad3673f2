set_option maxRecDepth 100000 in
set_option maxHeartbeats 4000000 in
theorem wX12_begin_L50 {x : Ct} {g : Gm} (C : Cx x yR g 2 cX12_begin RX12 0 0) : ∀ (n : Nat) (x1 : Int) (h1 : rg x1) (σ : Sg) (hσ : wfS yR σ) (q : Sg) (h : fX12_begin_L50 n x1 σ = some q) (k : wfS yR q → J x yR g 2 69 [(0, .ref (gad g 0))] [] q), J x yR g 2 50 [(0, .ref (gad g 0)), (1, vi x1)] [] σ := by
  intro n
  induction n with
  | zero =>
    intro x1 h1 σ hσ q h k
    exact absurd h (by intro z; cases z)
  | succ n ih =>
    intro x1 h1 σ hσ q h k
    rw [fX12_begin_L50] at h
    refine J_iload_n C 1 dX12_begin_50 rfl 1 rfl ?_
    refine J_bipush C dX12_begin_51 (bp8 (by decide) (by decide)) ?_
    refine J_icmp_ge C h1 rl_6 (tgt := 69) dX12_begin_53 (by decide) h (fun h c21 => ?_) (fun h c21 => ?_)
    · refine J_aload_n C 0 dX12_begin_56 rfl 0 rfl ?_
      refine J_getR C fl_RX12_37 oR_0 rfl dX12_begin_57 ?_
      refine J_iload_n C 1 dX12_begin_60 rfl 1 rfl ?_
      refine J_iconst C dX12_begin_61 ?_
      refine J_iast C aR_10 hσ rl_0 dX12_begin_62 h (fun σ17 hσ18 h => ?_)
      refine J_iinc C 1 1 dX12_begin_63 rfl (by decide) h (fun v19 hv20 h => ?_)
      refine J_goto C (tgt := 50) dX12_begin_66 (by decide) ?_
      exact J_sub [1, 0] rfl (ih v19 hv20 σ17 hσ18 q h k)
    · have e9 := sE h
      subst e9
      exact J_sub [0] rfl (k hσ)
set_option maxRecDepth 100000 in
set_option maxHeartbeats 4000000 in
theorem wX12_begin_L71 {x : Ct} {g : Gm} (C : Cx x yR g 2 cX12_begin RX12 0 0) : ∀ (n : Nat) (x1 : Int) (h1 : rg x1) (σ : Sg) (hσ : wfS yR σ) (q : Sg) (h : fX12_begin_L71 n x1 σ = some q) (k : wfS yR q → J x yR g 2 97 [(0, .ref (gad g 0))] [] q), J x yR g 2 71 [(0, .ref (gad g 0)), (1, vi x1)] [] σ := by
  intro n
  induction n with
  | zero =>
    intro x1 h1 σ hσ q h k
    exact absurd h (by intro z; cases z)
  | succ n ih =>
    intro x1 h1 σ hσ q h k
    rw [fX12_begin_L71] at h
    refine J_iload_n C 1 dX12_begin_71 rfl 1 rfl ?_
    refine J_bipush C dX12_begin_72 (bp8 (by decide) (by decide)) ?_
    refine J_icmp_ge C h1 rl_20 (tgt := 97) dX12_begin_74 (by decide) h (fun h c30 => ?_) (fun h c30 => ?_)
    · refine J_aload_n C 0 dX12_begin_77 rfl 0 rfl ?_
      refine J_getR C fl_RX12_40 oR_0 rfl dX12_begin_78 ?_
      refine J_iload_n C 1 dX12_begin_81 rfl 1 rfl ?_
      refine J_iconst C dX12_begin_82 ?_
      refine J_iast C aR_11 hσ rl_0 dX12_begin_83 h (fun σ24 hσ25 h => ?_)
      refine J_aload_n C 0 dX12_begin_84 rfl 0 rfl ?_
      refine J_getR C fl_RX12_43 oR_0 rfl dX12_begin_85 ?_
      refine J_iload_n C 1 dX12_begin_88 rfl 1 rfl ?_
      refine J_iconst C dX12_begin_89 ?_
      refine J_iast C aR_12 hσ25 rl_0 dX12_begin_90 h (fun σ26 hσ27 h => ?_)
      refine J_iinc C 1 1 dX12_begin_91 rfl (by decide) h (fun v28 hv29 h => ?_)
      refine J_goto C (tgt := 71) dX12_begin_94 (by decide) ?_
      exact J_sub [1, 0] rfl (ih v28 hv29 σ26 hσ27 q h k)
    · have e9 := sE h
      subst e9
      exact J_sub [0] rfl (k hσ)
set_option maxRecDepth 100000 in
set_option maxHeartbeats 4000000 in
theorem m_X12_begin (l : Launch) (g : Gm) (hg : gInj yR g)  (σ : Sg) (hσ : wfS yR σ) (q : Int × Sg) (h : fX12_begin  σ = some q) : CJ l yR g yX12_begin cX12_begin 2 (some .int) 0 0 [.ref (gad g 0)] σ (some (vi q.1)) q.2 ((rg q.1) ∧ wfS yR q.2) := by
  refine CJ_of hg (by decide) rfl (Nat.le_of_ble_eq_true rfl) (lo := [(0, .ref (gad g 0))]) rfl (fun x C E => ?_)
  unfold fX12_begin at h
  refine J_aload_n C 0 dX12_begin_0 rfl 0 rfl ?_
  refine J_iconst C dX12_begin_1 ?_
  refine J_putZ C fl_RX12_155 fp_RX12_54 oR_0 rfl rfl lR_0 hσ (Or.inl rfl) dX12_begin_2 h (fun σ1 hσ2 h => ?_)
  refine J_iconst C dX12_begin_5 ?_
  refine J_istore_n (lo2 := [(1, vi 0), (0, .ref (gad g 0))]) C 1 dX12_begin_6 rfl (by decide) rfl ?_
  obtain ⟨q8, cq8, h⟩ := bdS h
  refine J_sub [1, 0] rfl (wX12_begin_L7 C fu 0 rl_0 σ1 hσ2 q8 cq8 (fun hσ9 => ?_))
  refine J_iconst C dX12_begin_27 ?_
  refine J_istore_n (lo2 := [(1, vi 0), (0, .ref (gad g 0))]) C 1 dX12_begin_28 rfl (by decide) rfl ?_
  obtain ⟨q15, cq15, h⟩ := bdS h
  refine J_sub [1, 0] rfl (wX12_begin_L29 C fu 0 rl_0 q8 hσ9 q15 cq15 (fun hσ16 => ?_))
  refine J_iconst C dX12_begin_48 ?_
  refine J_istore_n (lo2 := [(1, vi 0), (0, .ref (gad g 0))]) C 1 dX12_begin_49 rfl (by decide) rfl ?_
  obtain ⟨q22, cq22, h⟩ := bdS h
  refine J_sub [1, 0] rfl (wX12_begin_L50 C fu 0 rl_0 q15 hσ16 q22 cq22 (fun hσ23 => ?_))
  refine J_iconst C dX12_begin_69 ?_
  refine J_istore_n (lo2 := [(1, vi 0), (0, .ref (gad g 0))]) C 1 dX12_begin_70 rfl (by decide) rfl ?_
  obtain ⟨q31, cq31, h⟩ := bdS h
  refine J_sub [1, 0] rfl (wX12_begin_L71 C fu 0 rl_0 q22 hσ23 q31 cq31 (fun hσ32 => ?_))
  refine J_aload_n C 0 dX12_begin_97 rfl 0 rfl ?_
  refine J_iconst C dX12_begin_98 ?_
  refine J_putI C fl_RX12_159 fp_RX12_32 oR_0 rfl rfl lR_0 hσ32 rl_0 dX12_begin_99 h (fun σ33 hσ34 h => ?_)
  refine J_aload_n C 0 dX12_begin_102 rfl 0 rfl ?_
  refine J_iconst C dX12_begin_103 ?_
  refine J_putI C fl_RX12_162 fp_RX12_33 oR_0 rfl rfl lR_0 hσ34 rl_0 dX12_begin_104 h (fun σ35 hσ36 h => ?_)
  refine J_aload_n C 0 dX12_begin_107 rfl 0 rfl ?_
  refine J_iconst C dX12_begin_108 ?_
  refine J_putI C fl_RX12_165 fp_RX12_34 oR_0 rfl rfl lR_0 hσ36 rl_0 dX12_begin_109 h (fun σ37 hσ38 h => ?_)
  refine J_aload_n C 0 dX12_begin_112 rfl 0 rfl ?_
  refine J_iconst C dX12_begin_113 ?_
  refine J_putI C fl_RX12_168 fp_RX12_35 oR_0 rfl rfl lR_0 hσ38 rl_m1 dX12_begin_114 h (fun σ39 hσ40 h => ?_)
  refine J_aload_n C 0 dX12_begin_117 rfl 0 rfl ?_
  refine J_iconst C dX12_begin_118 ?_
  refine J_putI C fl_RX12_171 fp_RX12_36 oR_0 rfl rfl lR_0 hσ40 rl_0 dX12_begin_119 h (fun σ41 hσ42 h => ?_)
  refine J_aload_n C 0 dX12_begin_122 rfl 0 rfl ?_
  refine J_iconst C dX12_begin_123 ?_
  refine J_putI C fl_RX12_152 fp_RX12_37 oR_0 rfl rfl lR_0 hσ42 rl_0 dX12_begin_124 h (fun σ43 hσ44 h => ?_)
  refine J_aload_n C 0 dX12_begin_127 rfl 0 rfl ?_
  refine J_iconst C dX12_begin_128 ?_
  refine J_putI C fl_RX12_174 fp_RX12_31 oR_0 rfl rfl lR_0 hσ44 rl_2 dX12_begin_129 h (fun σ45 hσ46 h => ?_)
  refine J_iconst C dX12_begin_132 ?_
  have e9 := sE h
  subst e9
  exact J_iret C E ⟨rl_0, hσ46⟩ dX12_begin_133
set_option maxRecDepth 100000 in
set_option maxHeartbeats 4000000 in
theorem m_X12_cell (l : Launch) (g : Gm) (hg : gInj yR g) (x1 : Int) (h1 : rg x1) (x2 : Int) (h2 : rg x2) (x3 : Int) (h3 : rg x3) (σ : Sg) (hσ : wfS yR σ) (q : Int × Sg) (h : fX12_cell x1 x2 x3 σ = some q) : CJ l yR g yX12_cell cX12_cell 5 (some .int) 1 22 [.ref (gad g 0), vi x1, vi x2, vi x3] σ (some (vi q.1)) q.2 ((rg q.1) ∧ wfS yR q.2) := by
  refine CJ_of hg (by decide) rfl (Nat.le_of_ble_eq_true rfl) (lo := [(0, .ref (gad g 0)), (1, vi x1), (2, vi x2), (3, vi x3)]) rfl (fun x C E => ?_)
  unfold fX12_cell at h
  refine J_aload_n C 0 dX12_cell_0 rfl 0 rfl ?_
  refine J_iconst C dX12_cell_1 ?_
  refine J_putZ C fl_RX12_155 fp_RX12_54 oR_0 rfl rfl lR_0 hσ (Or.inl rfl) dX12_cell_2 h (fun σ1 hσ2 h => ?_)
  refine J_iload_n C 1 dX12_cell_5 rfl 1 rfl ?_
  refine J_iconst C dX12_cell_6 ?_
  refine J_bipush C dX12_cell_7 (bp8 (by decide) (by decide)) ?_
  obtain ⟨q3, cq3, h⟩ := bdS h
  refine J_callS C mw_X12_isIn ml_RX12_177 (m_X12_isIn x.2.1 g (CxI C) x1 h1 0 rl_0 31 rl_31 σ1 hσ2 q3 cq3) (Nat.le_of_ble_eq_true rfl) (Nat.le_of_ble_eq_true rfl) rfl rfl (Nat.le_of_ble_eq_true rfl) dX12_cell_9 (fun hz4 => ?_)
  refine J_if_eq C (rg01 hz4) (tgt := 34) dX12_cell_12 (by decide) h (fun h c23 => ?_) (fun h c23 => ?_)
  · refine J_iconst C dX12_cell_34 ?_
    have e9 := sE h
    subst e9
    exact J_iret C E ⟨rl_m1, hσ2⟩ dX12_cell_35
  · refine J_iload_n C 2 dX12_cell_15 rfl 2 rfl ?_
    refine J_iconst C dX12_cell_16 ?_
    refine J_bipush C dX12_cell_17 (bp8 (by decide) (by decide)) ?_
    obtain ⟨q5, cq5, h⟩ := bdS h
    refine J_callS C mw_X12_isIn ml_RX12_177 (m_X12_isIn x.2.1 g (CxI C) x2 h2 0 rl_0 31 rl_31 σ1 hσ2 q5 cq5) (Nat.le_of_ble_eq_true rfl) (Nat.le_of_ble_eq_true rfl) rfl rfl (Nat.le_of_ble_eq_true rfl) dX12_cell_19 (fun hz6 => ?_)
    refine J_if_eq C (rg01 hz6) (tgt := 34) dX12_cell_22 (by decide) h (fun h c22 => ?_) (fun h c22 => ?_)
    · refine J_iconst C dX12_cell_34 ?_
      have e9 := sE h
      subst e9
      exact J_iret C E ⟨rl_m1, hσ2⟩ dX12_cell_35
    · refine J_iload_n C 3 dX12_cell_25 rfl 3 rfl ?_
      refine J_iconst C dX12_cell_26 ?_
      refine J_iconst C dX12_cell_27 ?_
      obtain ⟨q7, cq7, h⟩ := bdS h
      refine J_callS C mw_X12_isIn ml_RX12_177 (m_X12_isIn x.2.1 g (CxI C) x3 h3 0 rl_0 2 rl_2 σ1 hσ2 q7 cq7) (Nat.le_of_ble_eq_true rfl) (Nat.le_of_ble_eq_true rfl) rfl rfl (Nat.le_of_ble_eq_true rfl) dX12_cell_28 (fun hz8 => ?_)
      refine J_if_ne C (rg01 hz8) (tgt := 36) dX12_cell_31 (by decide) h (fun h c21 => ?_) (fun h c21 => ?_)
      · refine J_iconst C dX12_cell_34 ?_
        have e9 := sE h
        subst e9
        exact J_iret C E ⟨rl_m1, hσ2⟩ dX12_cell_35
      · refine J_aload_n C 0 dX12_cell_36 rfl 0 rfl ?_
        refine J_getR C fl_RX12_9 oR_0 rfl dX12_cell_37 ?_
        refine J_bipush C dX12_cell_40 (bp8 (by decide) (by decide)) ?_
        refine J_iload_n C 2 dX12_cell_42 rfl 2 rfl ?_
        refine J_imul C dX12_cell_43 h (fun v9 hv10 h => ?_)
        refine J_iload_n C 1 dX12_cell_44 rfl 1 rfl ?_
        refine J_iadd C dX12_cell_45 h (fun v11 hv12 h => ?_)
        refine J_iald C aR_1 hσ2 dX12_cell_46 h (fun v13 hv14 h => ?_)
        refine J_istore (lo2 := [(4, vi v13), (0, .ref (gad g 0)), (1, vi x1), (2, vi x2), (3, vi x3)]) C 4 dX12_cell_47 (by decide) rfl ?_
        refine J_aload_n C 0 dX12_cell_49 rfl 1 rfl ?_
        refine J_getR C fl_RX12_9 oR_0 rfl dX12_cell_50 ?_
        refine J_bipush C dX12_cell_53 (bp8 (by decide) (by decide)) ?_
        refine J_iload_n C 2 dX12_cell_55 rfl 3 rfl ?_
        refine J_imul C dX12_cell_56 h (fun v15 hv16 h => ?_)
        refine J_iload_n C 1 dX12_cell_57 rfl 2 rfl ?_
        refine J_iadd C dX12_cell_58 h (fun v17 hv18 h => ?_)
        refine J_iload_n C 3 dX12_cell_59 rfl 4 rfl ?_
        refine J_iast C aR_1 hσ2 h3 dX12_cell_60 h (fun σ19 hσ20 h => ?_)
        refine J_iload C 4 dX12_cell_61 0 rfl ?_
        have e9 := sE h
        subst e9
        exact J_iret C E ⟨hv14, hσ20⟩ dX12_cell_63
set_option maxRecDepth 100000 in
set_option maxHeartbeats 4000000 in
theorem m_X12_isKind (l : Launch) (g : Gm) (hg : gInj yR g) (x1 : Int) (h1 : rg x1) (σ : Sg) (hσ : wfS yR σ) (q : Int) (h : fX12_isKind x1 σ = some q) : CJ l yR g yX12_isKind cX12_isKind 2 (some .boolean) 1 22 [.ref (gad g 0), vi x1] σ (some (vi q)) σ (q = 0 ∨ q = 1) := by
  refine CJ_of hg (by decide) rfl (Nat.le_of_ble_eq_true rfl) (lo := [(0, .ref (gad g 0)), (1, vi x1)]) rfl (fun x C E => ?_)
  unfold fX12_isKind at h
  refine J_iload_n C 1 dX12_isKind_0 rfl 1 rfl ?_
  refine J_iconst C dX12_isKind_1 ?_
  refine J_bipush C dX12_isKind_2 (bp8 (by decide) (by decide)) ?_
  obtain ⟨q1, cq1, h⟩ := bdS h
  refine J_callS C mw_X12_isIn ml_RX12_177 (m_X12_isIn x.2.1 g (CxI C) x1 h1 0 rl_0 11 rl_11 σ hσ q1 cq1) (Nat.le_of_ble_eq_true rfl) (Nat.le_of_ble_eq_true rfl) rfl rfl (Nat.le_of_ble_eq_true rfl) dX12_isKind_4 (fun hz2 => ?_)
  refine J_if_eq C (rg01 hz2) (tgt := 23) dX12_isKind_7 (by decide) h (fun h c6 => ?_) (fun h c6 => ?_)
  · refine J_iconst C dX12_isKind_23 ?_
    have e9 := sE h
    subst e9
    exact J_zret C (Or.inl rfl) E (Or.inl rfl) dX12_isKind_24
  · refine J_aload_n C 0 dX12_isKind_10 rfl 0 rfl ?_
    refine J_getR C fl_RX12_13 oR_0 rfl dX12_isKind_11 ?_
    refine J_iload_n C 1 dX12_isKind_14 rfl 1 rfl ?_
    refine J_iald C aR_2 hσ dX12_isKind_15 h (fun v3 hv4 h => ?_)
    refine J_if_le C hv4 (tgt := 23) dX12_isKind_16 (by decide) h (fun h c5 => ?_) (fun h c5 => ?_)
    · refine J_iconst C dX12_isKind_23 ?_
      have e9 := sE h
      subst e9
      exact J_zret C (Or.inl rfl) E (Or.inl rfl) dX12_isKind_24
    · refine J_iconst C dX12_isKind_19 ?_
      refine J_goto C (tgt := 24) dX12_isKind_20 (by decide) ?_
      have e9 := sE h
      subst e9
      exact J_zret C (Or.inr rfl) E (Or.inr rfl) dX12_isKind_24
set_option maxRecDepth 100000 in
set_option maxHeartbeats 4000000 in
theorem m_X12_isBarge (l : Launch) (g : Gm) (hg : gInj yR g) (x1 : Int) (h1 : rg x1) (σ : Sg) (hσ : wfS yR σ) (q : Int) (h : fX12_isBarge x1 σ = some q) : CJ l yR g yX12_isBarge cX12_isBarge 2 (some .boolean) 1 22 [.ref (gad g 0), vi x1] σ (some (vi q)) σ (q = 0 ∨ q = 1) := by
  refine CJ_of hg (by decide) rfl (Nat.le_of_ble_eq_true rfl) (lo := [(0, .ref (gad g 0)), (1, vi x1)]) rfl (fun x C E => ?_)
  unfold fX12_isBarge at h
  refine J_iload_n C 1 dX12_isBarge_0 rfl 1 rfl ?_
  refine J_iconst C dX12_isBarge_1 ?_
  refine J_iconst C dX12_isBarge_2 ?_
  obtain ⟨q1, cq1, h⟩ := bdS h
  refine J_callS C mw_X12_isIn ml_RX12_177 (m_X12_isIn x.2.1 g (CxI C) x1 h1 0 rl_0 5 rl_5 σ hσ q1 cq1) (Nat.le_of_ble_eq_true rfl) (Nat.le_of_ble_eq_true rfl) rfl rfl (Nat.le_of_ble_eq_true rfl) dX12_isBarge_3 (fun hz2 => ?_)
  refine J_if_eq C (rg01 hz2) (tgt := 22) dX12_isBarge_6 (by decide) h (fun h c6 => ?_) (fun h c6 => ?_)
  · refine J_iconst C dX12_isBarge_22 ?_
    have e9 := sE h
    subst e9
    exact J_zret C (Or.inl rfl) E (Or.inl rfl) dX12_isBarge_23
  · refine J_aload_n C 0 dX12_isBarge_9 rfl 0 rfl ?_
    refine J_getR C fl_RX12_37 oR_0 rfl dX12_isBarge_10 ?_
    refine J_iload_n C 1 dX12_isBarge_13 rfl 1 rfl ?_
    refine J_iald C aR_10 hσ dX12_isBarge_14 h (fun v3 hv4 h => ?_)
    refine J_if_le C hv4 (tgt := 22) dX12_isBarge_15 (by decide) h (fun h c5 => ?_) (fun h c5 => ?_)
    · refine J_iconst C dX12_isBarge_22 ?_
      have e9 := sE h
      subst e9
      exact J_zret C (Or.inl rfl) E (Or.inl rfl) dX12_isBarge_23
    · refine J_iconst C dX12_isBarge_18 ?_
      refine J_goto C (tgt := 23) dX12_isBarge_19 (by decide) ?_
      have e9 := sE h
      subst e9
      exact J_zret C (Or.inr rfl) E (Or.inr rfl) dX12_isBarge_23
set_option maxRecDepth 100000 in
set_option maxHeartbeats 4000000 in
theorem m_X12_isCue (l : Launch) (g : Gm) (hg : gInj yR g) (x1 : Int) (h1 : rg x1) (σ : Sg) (hσ : wfS yR σ) (q : Int) (h : fX12_isCue x1 σ = some q) : CJ l yR g yX12_isCue cX12_isCue 2 (some .boolean) 1 22 [.ref (gad g 0), vi x1] σ (some (vi q)) σ (q = 0 ∨ q = 1) := by
  refine CJ_of hg (by decide) rfl (Nat.le_of_ble_eq_true rfl) (lo := [(0, .ref (gad g 0)), (1, vi x1)]) rfl (fun x C E => ?_)
  unfold fX12_isCue at h
  refine J_iload_n C 1 dX12_isCue_0 rfl 1 rfl ?_
  refine J_iconst C dX12_isCue_1 ?_
  refine J_aload_n C 0 dX12_isCue_2 rfl 0 rfl ?_
  refine J_getI C fl_RX12_159 oR_0 rfl dX12_isCue_3 ?_
  refine J_iconst C dX12_isCue_6 ?_
  refine J_isub C dX12_isCue_7 h (fun v1 hv2 h => ?_)
  obtain ⟨q3, cq3, h⟩ := bdS h
  refine J_callS C mw_X12_isIn ml_RX12_177 (m_X12_isIn x.2.1 g (CxI C) x1 h1 0 rl_0 v1 hv2 σ hσ q3 cq3) (Nat.le_of_ble_eq_true rfl) (Nat.le_of_ble_eq_true rfl) rfl rfl (Nat.le_of_ble_eq_true rfl) dX12_isCue_8 (fun hz4 => ?_)
  have e9 := sE h
  subst e9
  exact J_zret C hz4 E hz4 dX12_isCue_11
set_option maxRecDepth 100000 in
set_option maxHeartbeats 4000000 in
theorem wX12_kind_L108 {x : Ct} {g : Gm} (C : Cx x yR g 7 cX12_kind RX12 1 22) : ∀ (n : Nat) (x1 : Int) (h1 : rg x1) (x2 : Int) (h2 : rg x2) (x3 : Int) (h3 : rg x3) (x4 : Int) (h4 : rg x4) (x5 : Int) (h5 : rg x5) (x6 : Int) (h6 : rg x6) (σ : Sg) (hσ : wfS yR σ) (q : (Unit) ⊕ (Unit)) (h : fX12_kind_L108 n x1 x2 x3 x4 x5 x6 σ = some q) (k0 : ∀ a : Unit, q = .inl a → J x yR g 7 139 [] [] σ) (k1 : ∀ a : Unit, q = .inr a → J x yR g 7 148 [(0, .ref (gad g 0)), (1, vi x1), (2, vi x2), (3, vi x3), (4, vi x4), (5, vi x5)] [] σ), J x yR g 7 108 [(0, .ref (gad g 0)), (1, vi x1), (2, vi x2), (3, vi x3), (4, vi x4), (5, vi x5), (6, vi x6)] [] σ := by
  intro n
  induction n with
  | zero =>
    intro x1 h1 x2 h2 x3 h3 x4 h4 x5 h5 x6 h6 σ hσ q h k0 k1
    exact absurd h (by intro z; cases z)
  | succ n ih =>
    intro x1 h1 x2 h2 x3 h3 x4 h4 x5 h5 x6 h6 σ hσ q h k0 k1
    rw [fX12_kind_L108] at h
    have pc27 : ∀ (x6 : Int) (h6 : rg x6), fX12_kind_L108P142 (fX12_kind_L108 n) x1 x2 x3 x4 x5 x6 σ = some q → J x yR g 7 142 [(0, .ref (gad g 0)), (1, vi x1), (2, vi x2), (3, vi x3), (4, vi x4), (5, vi x5), (6, vi x6)] [] σ := by
      intro x6 h6 h
      unfold fX12_kind_L108P142 at h
      refine J_iinc C 6 6 dX12_kind_142 rfl (by decide) h (fun v28 hv29 h => ?_)
      refine J_goto C (tgt := 108) dX12_kind_145 (by decide) ?_
      exact J_sub [1, 2, 3, 4, 5, 6, 0] rfl (ih x1 h1 x2 h2 x3 h3 x4 h4 x5 h5 v28 hv29 σ hσ q h k0 k1)
    refine J_iload C 6 dX12_kind_108 6 rfl ?_
    refine J_aload_n C 0 dX12_kind_110 rfl 0 rfl ?_
    refine J_getI C fl_RX12_159 oR_0 rfl dX12_kind_111 ?_
    refine J_icmp_ge C h6 (hσ 0 32 lR_0) (tgt := 148) dX12_kind_114 (by decide) h (fun h c36 => ?_) (fun h c36 => ?_)
    · refine J_aload_n C 0 dX12_kind_117 rfl 0 rfl ?_
      refine J_getR C fl_RX12_49 oR_0 rfl dX12_kind_118 ?_
      refine J_iload C 6 dX12_kind_121 6 rfl ?_
      refine J_iald C aR_14 hσ dX12_kind_123 h (fun v25 hv26 h => ?_)
      refine J_iload_n C 1 dX12_kind_124 rfl 1 rfl ?_
      refine J_icmp_ne C hv26 h1 (tgt := 142) dX12_kind_125 (by decide) h (fun h c35 => ?_) (fun h c35 => ?_)
      · refine J_aload_n C 0 dX12_kind_128 rfl 0 rfl ?_
        refine J_getR C fl_RX12_46 oR_0 rfl dX12_kind_129 ?_
        refine J_iload C 6 dX12_kind_132 6 rfl ?_
        refine J_iald C aR_13 hσ dX12_kind_134 h (fun v32 hv33 h => ?_)
        refine J_iload_n C 2 dX12_kind_135 rfl 2 rfl ?_
        refine J_icmp_ge C hv33 h2 (tgt := 142) dX12_kind_136 (by decide) h (fun h c34 => ?_) (fun h c34 => ?_)
        · have e9 := sE h
          exact J_sub [] rfl (k0 () e9.symm)
        · exact J_sub [0, 1, 2, 3, 4, 5, 6] rfl (pc27 x6 h6 h)
      · exact J_sub [0, 1, 2, 3, 4, 5, 6] rfl (pc27 x6 h6 h)
    · have e9 := sE h
      exact J_sub [0, 1, 2, 3, 4, 5] rfl (k1 () e9.symm)
set_option maxRecDepth 100000 in
set_option maxHeartbeats 4000000 in
theorem m_X12_kind (l : Launch) (g : Gm) (hg : gInj yR g) (x1 : Int) (h1 : rg x1) (x2 : Int) (h2 : rg x2) (x3 : Int) (h3 : rg x3) (x4 : Int) (h4 : rg x4) (x5 : Int) (h5 : rg x5) (σ : Sg) (hσ : wfS yR σ) (q : Int × Sg) (h : fX12_kind x1 x2 x3 x4 x5 σ = some q) : CJ l yR g yX12_kind cX12_kind 7 (some .int) 1 22 [.ref (gad g 0), vi x1, vi x2, vi x3, vi x4, vi x5] σ (some (vi q.1)) q.2 ((rg q.1) ∧ wfS yR q.2) := by
  refine CJ_of hg (by decide) rfl (Nat.le_of_ble_eq_true rfl) (lo := [(0, .ref (gad g 0)), (1, vi x1), (2, vi x2), (3, vi x3), (4, vi x4), (5, vi x5)]) rfl (fun x C E => ?_)
  unfold fX12_kind at h
  refine J_aload_n C 0 dX12_kind_0 rfl 0 rfl ?_
  refine J_iconst C dX12_kind_1 ?_
  refine J_putZ C fl_RX12_155 fp_RX12_54 oR_0 rfl rfl lR_0 hσ (Or.inl rfl) dX12_kind_2 h (fun σ1 hσ2 h => ?_)
  refine J_iload_n C 1 dX12_kind_5 rfl 1 rfl ?_
  refine J_iconst C dX12_kind_6 ?_
  refine J_bipush C dX12_kind_7 (bp8 (by decide) (by decide)) ?_
  obtain ⟨q3, cq3, h⟩ := bdS h
  refine J_callS C mw_X12_isIn ml_RX12_177 (m_X12_isIn x.2.1 g (CxI C) x1 h1 0 rl_0 11 rl_11 σ1 hσ2 q3 cq3) (Nat.le_of_ble_eq_true rfl) (Nat.le_of_ble_eq_true rfl) rfl rfl (Nat.le_of_ble_eq_true rfl) dX12_kind_9 (fun hz4 => ?_)
  refine J_if_eq C (rg01 hz4) (tgt := 48) dX12_kind_12 (by decide) h (fun h c67 => ?_) (fun h c67 => ?_)
  · refine J_iconst C dX12_kind_48 ?_
    have e9 := sE h
    subst e9
    exact J_iret C E ⟨rl_m1, hσ2⟩ dX12_kind_49
  · refine J_iload_n C 2 dX12_kind_15 rfl 2 rfl ?_
    refine J_iconst C dX12_kind_16 ?_
    refine J_bipush C dX12_kind_17 (bp8 (by decide) (by decide)) ?_
    obtain ⟨q5, cq5, h⟩ := bdS h
    refine J_callS C mw_X12_isIn ml_RX12_177 (m_X12_isIn x.2.1 g (CxI C) x2 h2 1 rl_1 60 rl_60 σ1 hσ2 q5 cq5) (Nat.le_of_ble_eq_true rfl) (Nat.le_of_ble_eq_true rfl) rfl rfl (Nat.le_of_ble_eq_true rfl) dX12_kind_19 (fun hz6 => ?_)
    refine J_if_eq C (rg01 hz6) (tgt := 48) dX12_kind_22 (by decide) h (fun h c66 => ?_) (fun h c66 => ?_)
    · refine J_iconst C dX12_kind_48 ?_
      have e9 := sE h
      subst e9
      exact J_iret C E ⟨rl_m1, hσ2⟩ dX12_kind_49
    · refine J_iload_n C 3 dX12_kind_25 rfl 3 rfl ?_
      refine J_bipush C dX12_kind_26 (bp8 (by decide) (by decide)) ?_
      refine J_sipush C dX12_kind_28 (bp16 (by decide) (by decide)) ?_
      obtain ⟨q7, cq7, h⟩ := bdS h
      refine J_callS C mw_X12_isIn ml_RX12_177 (m_X12_isIn x.2.1 g (CxI C) x3 h3 10 rl_10 300 rl_300 σ1 hσ2 q7 cq7) (Nat.le_of_ble_eq_true rfl) (Nat.le_of_ble_eq_true rfl) rfl rfl (Nat.le_of_ble_eq_true rfl) dX12_kind_31 (fun hz8 => ?_)
      refine J_if_eq C (rg01 hz8) (tgt := 48) dX12_kind_34 (by decide) h (fun h c65 => ?_) (fun h c65 => ?_)
      · refine J_iconst C dX12_kind_48 ?_
        have e9 := sE h
        subst e9
        exact J_iret C E ⟨rl_m1, hσ2⟩ dX12_kind_49
      · refine J_iload C 4 dX12_kind_37 4 rfl ?_
        refine J_iconst C dX12_kind_39 ?_
        refine J_bipush C dX12_kind_40 (bp8 (by decide) (by decide)) ?_
        obtain ⟨q9, cq9, h⟩ := bdS h
        refine J_callS C mw_X12_isIn ml_RX12_177 (m_X12_isIn x.2.1 g (CxI C) x4 h4 0 rl_0 60 rl_60 σ1 hσ2 q9 cq9) (Nat.le_of_ble_eq_true rfl) (Nat.le_of_ble_eq_true rfl) rfl rfl (Nat.le_of_ble_eq_true rfl) dX12_kind_42 (fun hz10 => ?_)
        refine J_if_ne C (rg01 hz10) (tgt := 50) dX12_kind_45 (by decide) h (fun h c64 => ?_) (fun h c64 => ?_)
        · refine J_iconst C dX12_kind_48 ?_
          have e9 := sE h
          subst e9
          exact J_iret C E ⟨rl_m1, hσ2⟩ dX12_kind_49
        · refine J_iload C 5 dX12_kind_50 5 rfl ?_
          refine J_iconst C dX12_kind_52 ?_
          refine J_ldc C (n := 99999) kc_RX12_181 (by decide +kernel) dX12_kind_53 ?_
          obtain ⟨q11, cq11, h⟩ := bdS h
          refine J_callS C mw_X12_isIn ml_RX12_177 (m_X12_isIn x.2.1 g (CxI C) x5 h5 0 rl_0 99999 rl_99999 σ1 hσ2 q11 cq11) (Nat.le_of_ble_eq_true rfl) (Nat.le_of_ble_eq_true rfl) rfl rfl (Nat.le_of_ble_eq_true rfl) dX12_kind_55 (fun hz12 => ?_)
          refine J_if_eq C (rg01 hz12) (tgt := 103) dX12_kind_58 (by decide) h (fun h c63 => ?_) (fun h c63 => ?_)
          · refine J_iconst C dX12_kind_103 ?_
            have e9 := sE h
            subst e9
            exact J_iret C E ⟨rl_m1, hσ2⟩ dX12_kind_104
          · refine J_iload C 5 dX12_kind_61 5 rfl ?_
            refine J_sipush C dX12_kind_63 (bp16 (by decide) (by decide)) ?_
            refine J_idiv C h5 rl_1000 dX12_kind_66 h (fun v13 hv14 h => ?_)
            refine J_iconst C dX12_kind_67 ?_
            refine J_bipush C dX12_kind_68 (bp8 (by decide) (by decide)) ?_
            obtain ⟨q15, cq15, h⟩ := bdS h
            refine J_callS C mw_X12_isIn ml_RX12_177 (m_X12_isIn x.2.1 g (CxI C) v13 hv14 1 rl_1 99 rl_99 σ1 hσ2 q15 cq15) (Nat.le_of_ble_eq_true rfl) (Nat.le_of_ble_eq_true rfl) rfl rfl (Nat.le_of_ble_eq_true rfl) dX12_kind_70 (fun hz16 => ?_)
            refine J_if_eq C (rg01 hz16) (tgt := 103) dX12_kind_73 (by decide) h (fun h c62 => ?_) (fun h c62 => ?_)
            · refine J_iconst C dX12_kind_103 ?_
              have e9 := sE h
              subst e9
              exact J_iret C E ⟨rl_m1, hσ2⟩ dX12_kind_104
            · refine J_iload C 5 dX12_kind_76 5 rfl ?_
              refine J_sipush C dX12_kind_78 (bp16 (by decide) (by decide)) ?_
              refine J_irem C h5 rl_1000 dX12_kind_81 h (fun v17 hv18 h => ?_)
              refine J_bipush C dX12_kind_82 (bp8 (by decide) (by decide)) ?_
              refine J_idiv C hv18 rl_10 dX12_kind_84 h (fun v19 hv20 h => ?_)
              refine J_iconst C dX12_kind_85 ?_
              refine J_bipush C dX12_kind_86 (bp8 (by decide) (by decide)) ?_
              obtain ⟨q21, cq21, h⟩ := bdS h
              refine J_callS C mw_X12_isIn ml_RX12_177 (m_X12_isIn x.2.1 g (CxI C) v19 hv20 1 rl_1 9 rl_9 σ1 hσ2 q21 cq21) (Nat.le_of_ble_eq_true rfl) (Nat.le_of_ble_eq_true rfl) rfl rfl (Nat.le_of_ble_eq_true rfl) dX12_kind_88 (fun hz22 => ?_)
              refine J_if_eq C (rg01 hz22) (tgt := 103) dX12_kind_91 (by decide) h (fun h c61 => ?_) (fun h c61 => ?_)
              · refine J_iconst C dX12_kind_103 ?_
                have e9 := sE h
                subst e9
                exact J_iret C E ⟨rl_m1, hσ2⟩ dX12_kind_104
              · refine J_iload C 5 dX12_kind_94 5 rfl ?_
                refine J_bipush C dX12_kind_96 (bp8 (by decide) (by decide)) ?_
                refine J_irem C h5 rl_10 dX12_kind_98 h (fun v23 hv24 h => ?_)
                refine J_iconst C dX12_kind_99 ?_
                refine J_icmp_le C hv24 rl_5 (tgt := 105) dX12_kind_100 (by decide) h (fun h c60 => ?_) (fun h c60 => ?_)
                · refine J_iconst C dX12_kind_105 ?_
                  refine J_istore (lo2 := [(6, vi 0), (0, .ref (gad g 0)), (1, vi x1), (2, vi x2), (3, vi x3), (4, vi x4), (5, vi x5)]) C 6 dX12_kind_106 (by decide) rfl ?_
                  obtain ⟨q37, cq37, h⟩ := bdS h
                  refine J_sub [1, 2, 3, 4, 5, 6, 0] rfl (wX12_kind_L108 C fu x1 h1 x2 h2 x3 h3 x4 h4 x5 h5 0 rl_0 σ1 hσ2 q37 cq37 (fun a38 ea38 => ?_) (fun a39 ea39 => ?_))
                  · subst ea38
                    have h := elL h
                    refine J_bipush C dX12_kind_139 (bp8 (by decide) (by decide)) ?_
                    have e9 := sE h
                    subst e9
                    exact J_iret C E ⟨rl_m5, hσ2⟩ dX12_kind_141
                  · subst ea39
                    have h := elR h
                    refine J_aload_n C 0 dX12_kind_148 rfl 0 rfl ?_
                    refine J_getR C fl_RX12_13 oR_0 rfl dX12_kind_149 ?_
                    refine J_iload_n C 1 dX12_kind_152 rfl 1 rfl ?_
                    refine J_iload_n C 2 dX12_kind_153 rfl 2 rfl ?_
                    refine J_iast C aR_2 hσ2 h2 dX12_kind_154 h (fun σ40 hσ41 h => ?_)
                    refine J_aload_n C 0 dX12_kind_155 rfl 0 rfl ?_
                    refine J_getR C fl_RX12_16 oR_0 rfl dX12_kind_156 ?_
                    refine J_iload_n C 1 dX12_kind_159 rfl 1 rfl ?_
                    refine J_iload_n C 3 dX12_kind_160 rfl 3 rfl ?_
                    refine J_iast C aR_3 hσ41 h3 dX12_kind_161 h (fun σ42 hσ43 h => ?_)
                    refine J_aload_n C 0 dX12_kind_162 rfl 0 rfl ?_
                    refine J_getR C fl_RX12_19 oR_0 rfl dX12_kind_163 ?_
                    refine J_iload_n C 1 dX12_kind_166 rfl 1 rfl ?_
                    refine J_iload C 4 dX12_kind_167 4 rfl ?_
                    refine J_iast C aR_4 hσ43 h4 dX12_kind_169 h (fun σ44 hσ45 h => ?_)
                    refine J_aload_n C 0 dX12_kind_170 rfl 0 rfl ?_
                    refine J_getR C fl_RX12_22 oR_0 rfl dX12_kind_171 ?_
                    refine J_iload_n C 1 dX12_kind_174 rfl 1 rfl ?_
                    refine J_iload C 5 dX12_kind_175 5 rfl ?_
                    refine J_sipush C dX12_kind_177 (bp16 (by decide) (by decide)) ?_
                    refine J_idiv C h5 rl_1000 dX12_kind_180 h (fun v46 hv47 h => ?_)
                    refine J_iast C aR_5 hσ45 hv47 dX12_kind_181 h (fun σ48 hσ49 h => ?_)
                    refine J_aload_n C 0 dX12_kind_182 rfl 0 rfl ?_
                    refine J_getR C fl_RX12_25 oR_0 rfl dX12_kind_183 ?_
                    refine J_iload_n C 1 dX12_kind_186 rfl 1 rfl ?_
                    refine J_iload C 5 dX12_kind_187 5 rfl ?_
                    refine J_sipush C dX12_kind_189 (bp16 (by decide) (by decide)) ?_
                    refine J_irem C h5 rl_1000 dX12_kind_192 h (fun v50 hv51 h => ?_)
                    refine J_bipush C dX12_kind_193 (bp8 (by decide) (by decide)) ?_
                    refine J_idiv C hv51 rl_10 dX12_kind_195 h (fun v52 hv53 h => ?_)
                    refine J_iast C aR_6 hσ49 hv53 dX12_kind_196 h (fun σ54 hσ55 h => ?_)
                    refine J_aload_n C 0 dX12_kind_197 rfl 0 rfl ?_
                    refine J_getR C fl_RX12_28 oR_0 rfl dX12_kind_198 ?_
                    refine J_iload_n C 1 dX12_kind_201 rfl 1 rfl ?_
                    refine J_iload C 5 dX12_kind_202 5 rfl ?_
                    refine J_bipush C dX12_kind_204 (bp8 (by decide) (by decide)) ?_
                    refine J_irem C h5 rl_10 dX12_kind_206 h (fun v56 hv57 h => ?_)
                    refine J_iast C aR_7 hσ55 hv57 dX12_kind_207 h (fun σ58 hσ59 h => ?_)
                    refine J_iload_n C 1 dX12_kind_208 rfl 1 rfl ?_
                    have e9 := sE h
                    subst e9
                    exact J_iret C E ⟨h1, hσ59⟩ dX12_kind_209
                · refine J_iconst C dX12_kind_103 ?_
                  have e9 := sE h
                  subst e9
                  exact J_iret C E ⟨rl_m1, hσ2⟩ dX12_kind_104
set_option maxRecDepth 100000 in
set_option maxHeartbeats 4000000 in
theorem m_X12_barge (l : Launch) (g : Gm) (hg : gInj yR g) (x1 : Int) (h1 : rg x1) (x2 : Int) (h2 : rg x2) (x3 : Int) (h3 : rg x3) (x4 : Int) (h4 : rg x4) (σ : Sg) (hσ : wfS yR σ) (q : Int × Sg) (h : fX12_barge x1 x2 x3 x4 σ = some q) : CJ l yR g yX12_barge cX12_barge 5 (some .int) 1 22 [.ref (gad g 0), vi x1, vi x2, vi x3, vi x4] σ (some (vi q.1)) q.2 ((rg q.1) ∧ wfS yR q.2) := by
  refine CJ_of hg (by decide) rfl (Nat.le_of_ble_eq_true rfl) (lo := [(0, .ref (gad g 0)), (1, vi x1), (2, vi x2), (3, vi x3), (4, vi x4)]) rfl (fun x C E => ?_)
  unfold fX12_barge at h
  refine J_aload_n C 0 dX12_barge_0 rfl 0 rfl ?_
  refine J_iconst C dX12_barge_1 ?_
  refine J_putZ C fl_RX12_155 fp_RX12_54 oR_0 rfl rfl lR_0 hσ (Or.inl rfl) dX12_barge_2 h (fun σ1 hσ2 h => ?_)
  refine J_iload_n C 1 dX12_barge_5 rfl 1 rfl ?_
  refine J_iconst C dX12_barge_6 ?_
  refine J_iconst C dX12_barge_7 ?_
  obtain ⟨q3, cq3, h⟩ := bdS h
  refine J_callS C mw_X12_isIn ml_RX12_177 (m_X12_isIn x.2.1 g (CxI C) x1 h1 0 rl_0 5 rl_5 σ1 hσ2 q3 cq3) (Nat.le_of_ble_eq_true rfl) (Nat.le_of_ble_eq_true rfl) rfl rfl (Nat.le_of_ble_eq_true rfl) dX12_barge_8 (fun hz4 => ?_)
  refine J_if_eq C (rg01 hz4) (tgt := 45) dX12_barge_11 (by decide) h (fun h c28 => ?_) (fun h c28 => ?_)
  · refine J_iconst C dX12_barge_45 ?_
    have e9 := sE h
    subst e9
    exact J_iret C E ⟨rl_m1, hσ2⟩ dX12_barge_46
  · refine J_iload_n C 2 dX12_barge_14 rfl 2 rfl ?_
    refine J_iconst C dX12_barge_15 ?_
    refine J_bipush C dX12_barge_16 (bp8 (by decide) (by decide)) ?_
    obtain ⟨q5, cq5, h⟩ := bdS h
    refine J_callS C mw_X12_isIn ml_RX12_177 (m_X12_isIn x.2.1 g (CxI C) x2 h2 0 rl_0 31 rl_31 σ1 hσ2 q5 cq5) (Nat.le_of_ble_eq_true rfl) (Nat.le_of_ble_eq_true rfl) rfl rfl (Nat.le_of_ble_eq_true rfl) dX12_barge_18 (fun hz6 => ?_)
    refine J_if_eq C (rg01 hz6) (tgt := 45) dX12_barge_21 (by decide) h (fun h c27 => ?_) (fun h c27 => ?_)
    · refine J_iconst C dX12_barge_45 ?_
      have e9 := sE h
      subst e9
      exact J_iret C E ⟨rl_m1, hσ2⟩ dX12_barge_46
    · refine J_iload_n C 3 dX12_barge_24 rfl 3 rfl ?_
      refine J_iconst C dX12_barge_25 ?_
      refine J_bipush C dX12_barge_26 (bp8 (by decide) (by decide)) ?_
      obtain ⟨q7, cq7, h⟩ := bdS h
      refine J_callS C mw_X12_isIn ml_RX12_177 (m_X12_isIn x.2.1 g (CxI C) x3 h3 0 rl_0 31 rl_31 σ1 hσ2 q7 cq7) (Nat.le_of_ble_eq_true rfl) (Nat.le_of_ble_eq_true rfl) rfl rfl (Nat.le_of_ble_eq_true rfl) dX12_barge_28 (fun hz8 => ?_)
      refine J_if_eq C (rg01 hz8) (tgt := 45) dX12_barge_31 (by decide) h (fun h c26 => ?_) (fun h c26 => ?_)
      · refine J_iconst C dX12_barge_45 ?_
        have e9 := sE h
        subst e9
        exact J_iret C E ⟨rl_m1, hσ2⟩ dX12_barge_46
      · refine J_iload C 4 dX12_barge_34 4 rfl ?_
        refine J_iconst C dX12_barge_36 ?_
        refine J_bipush C dX12_barge_37 (bp8 (by decide) (by decide)) ?_
        obtain ⟨q9, cq9, h⟩ := bdS h
        refine J_callS C mw_X12_isIn ml_RX12_177 (m_X12_isIn x.2.1 g (CxI C) x4 h4 1 rl_1 40 rl_40 σ1 hσ2 q9 cq9) (Nat.le_of_ble_eq_true rfl) (Nat.le_of_ble_eq_true rfl) rfl rfl (Nat.le_of_ble_eq_true rfl) dX12_barge_39 (fun hz10 => ?_)
        refine J_if_ne C (rg01 hz10) (tgt := 47) dX12_barge_42 (by decide) h (fun h c25 => ?_) (fun h c25 => ?_)
        · refine J_iconst C dX12_barge_45 ?_
          have e9 := sE h
          subst e9
          exact J_iret C E ⟨rl_m1, hσ2⟩ dX12_barge_46
        · refine J_aload_n C 0 dX12_barge_47 rfl 0 rfl ?_
          refine J_getR C fl_RX12_31 oR_0 rfl dX12_barge_48 ?_
          refine J_iload_n C 1 dX12_barge_51 rfl 1 rfl ?_
          refine J_sipush C dX12_barge_52 (bp16 (by decide) (by decide)) ?_
          refine J_iload_n C 2 dX12_barge_55 rfl 2 rfl ?_
          refine J_imul C dX12_barge_56 h (fun v11 hv12 h => ?_)
          refine J_bipush C dX12_barge_57 (bp8 (by decide) (by decide)) ?_
          refine J_iadd C dX12_barge_59 h (fun v13 hv14 h => ?_)
          refine J_iast C aR_8 hσ2 hv14 dX12_barge_60 h (fun σ15 hσ16 h => ?_)
          refine J_aload_n C 0 dX12_barge_61 rfl 0 rfl ?_
          refine J_getR C fl_RX12_34 oR_0 rfl dX12_barge_62 ?_
          refine J_iload_n C 1 dX12_barge_65 rfl 1 rfl ?_
          refine J_sipush C dX12_barge_66 (bp16 (by decide) (by decide)) ?_
          refine J_iload_n C 3 dX12_barge_69 rfl 3 rfl ?_
          refine J_imul C dX12_barge_70 h (fun v17 hv18 h => ?_)
          refine J_bipush C dX12_barge_71 (bp8 (by decide) (by decide)) ?_
          refine J_iadd C dX12_barge_73 h (fun v19 hv20 h => ?_)
          refine J_iast C aR_9 hσ16 hv20 dX12_barge_74 h (fun σ21 hσ22 h => ?_)
          refine J_aload_n C 0 dX12_barge_75 rfl 0 rfl ?_
          refine J_getR C fl_RX12_37 oR_0 rfl dX12_barge_76 ?_
          refine J_iload_n C 1 dX12_barge_79 rfl 1 rfl ?_
          refine J_iload C 4 dX12_barge_80 4 rfl ?_
          refine J_iast C aR_10 hσ22 h4 dX12_barge_82 h (fun σ23 hσ24 h => ?_)
          refine J_iload_n C 1 dX12_barge_83 rfl 1 rfl ?_
          have e9 := sE h
          subst e9
          exact J_iret C E ⟨h1, hσ24⟩ dX12_barge_84
set_option maxRecDepth 100000 in
set_option maxHeartbeats 4000000 in
theorem m_X12_wind (l : Launch) (g : Gm) (hg : gInj yR g) (x1 : Int) (h1 : rg x1) (x2 : Int) (h2 : rg x2) (x3 : Int) (h3 : rg x3) (x4 : Int) (h4 : rg x4) (σ : Sg) (hσ : wfS yR σ) (q : Int × Sg) (h : fX12_wind x1 x2 x3 x4 σ = some q) : CJ l yR g yX12_wind cX12_wind 5 (some .int) 1 22 [.ref (gad g 0), vi x1, vi x2, vi x3, vi x4] σ (some (vi q.1)) q.2 ((rg q.1) ∧ wfS yR q.2) := by
  refine CJ_of hg (by decide) rfl (Nat.le_of_ble_eq_true rfl) (lo := [(0, .ref (gad g 0)), (1, vi x1), (2, vi x2), (3, vi x3), (4, vi x4)]) rfl (fun x C E => ?_)
  unfold fX12_wind at h
  refine J_aload_n C 0 dX12_wind_0 rfl 0 rfl ?_
  refine J_iconst C dX12_wind_1 ?_
  refine J_putZ C fl_RX12_155 fp_RX12_54 oR_0 rfl rfl lR_0 hσ (Or.inl rfl) dX12_wind_2 h (fun σ1 hσ2 h => ?_)
  refine J_iload_n C 1 dX12_wind_5 rfl 1 rfl ?_
  refine J_iconst C dX12_wind_6 ?_
  refine J_iconst C dX12_wind_7 ?_
  obtain ⟨q3, cq3, h⟩ := bdS h
  refine J_callS C mw_X12_isIn ml_RX12_177 (m_X12_isIn x.2.1 g (CxI C) x1 h1 0 rl_0 3 rl_3 σ1 hσ2 q3 cq3) (Nat.le_of_ble_eq_true rfl) (Nat.le_of_ble_eq_true rfl) rfl rfl (Nat.le_of_ble_eq_true rfl) dX12_wind_8 (fun hz4 => ?_)
  refine J_if_eq C (rg01 hz4) (tgt := 46) dX12_wind_11 (by decide) h (fun h c26 => ?_) (fun h c26 => ?_)
  · refine J_iconst C dX12_wind_46 ?_
    have e9 := sE h
    subst e9
    exact J_iret C E ⟨rl_m1, hσ2⟩ dX12_wind_47
  · refine J_iload_n C 2 dX12_wind_14 rfl 2 rfl ?_
    refine J_iconst C dX12_wind_15 ?_
    refine J_iconst C dX12_wind_16 ?_
    obtain ⟨q5, cq5, h⟩ := bdS h
    refine J_callS C mw_X12_isIn ml_RX12_177 (m_X12_isIn x.2.1 g (CxI C) x2 h2 0 rl_0 4 rl_4 σ1 hσ2 q5 cq5) (Nat.le_of_ble_eq_true rfl) (Nat.le_of_ble_eq_true rfl) rfl rfl (Nat.le_of_ble_eq_true rfl) dX12_wind_17 (fun hz6 => ?_)
    refine J_if_eq C (rg01 hz6) (tgt := 46) dX12_wind_20 (by decide) h (fun h c25 => ?_) (fun h c25 => ?_)
    · refine J_iconst C dX12_wind_46 ?_
      have e9 := sE h
      subst e9
      exact J_iret C E ⟨rl_m1, hσ2⟩ dX12_wind_47
    · refine J_iload_n C 3 dX12_wind_23 rfl 3 rfl ?_
      refine J_bipush C dX12_wind_24 (bp8 (by decide) (by decide)) ?_
      refine J_bipush C dX12_wind_26 (bp8 (by decide) (by decide)) ?_
      obtain ⟨q7, cq7, h⟩ := bdS h
      refine J_callS C mw_X12_isIn ml_RX12_177 (m_X12_isIn x.2.1 g (CxI C) x3 h3 (-50) rl_m50 50 rl_50 σ1 hσ2 q7 cq7) (Nat.le_of_ble_eq_true rfl) (Nat.le_of_ble_eq_true rfl) rfl rfl (Nat.le_of_ble_eq_true rfl) dX12_wind_28 (fun hz8 => ?_)
      refine J_if_eq C (rg01 hz8) (tgt := 46) dX12_wind_31 (by decide) h (fun h c24 => ?_) (fun h c24 => ?_)
      · refine J_iconst C dX12_wind_46 ?_
        have e9 := sE h
        subst e9
        exact J_iret C E ⟨rl_m1, hσ2⟩ dX12_wind_47
      · refine J_iload C 4 dX12_wind_34 4 rfl ?_
        refine J_bipush C dX12_wind_36 (bp8 (by decide) (by decide)) ?_
        refine J_bipush C dX12_wind_38 (bp8 (by decide) (by decide)) ?_
        obtain ⟨q9, cq9, h⟩ := bdS h
        refine J_callS C mw_X12_isIn ml_RX12_177 (m_X12_isIn x.2.1 g (CxI C) x4 h4 (-50) rl_m50 50 rl_50 σ1 hσ2 q9 cq9) (Nat.le_of_ble_eq_true rfl) (Nat.le_of_ble_eq_true rfl) rfl rfl (Nat.le_of_ble_eq_true rfl) dX12_wind_40 (fun hz10 => ?_)
        refine J_if_ne C (rg01 hz10) (tgt := 48) dX12_wind_43 (by decide) h (fun h c23 => ?_) (fun h c23 => ?_)
        · refine J_iconst C dX12_wind_46 ?_
          have e9 := sE h
          subst e9
          exact J_iret C E ⟨rl_m1, hσ2⟩ dX12_wind_47
        · refine J_aload_n C 0 dX12_wind_48 rfl 0 rfl ?_
          refine J_getR C fl_RX12_40 oR_0 rfl dX12_wind_49 ?_
          refine J_iconst C dX12_wind_52 ?_
          refine J_iload_n C 1 dX12_wind_53 rfl 1 rfl ?_
          refine J_imul C dX12_wind_54 h (fun v11 hv12 h => ?_)
          refine J_iload_n C 2 dX12_wind_55 rfl 2 rfl ?_
          refine J_iadd C dX12_wind_56 h (fun v13 hv14 h => ?_)
          refine J_iload_n C 3 dX12_wind_57 rfl 3 rfl ?_
          refine J_iast C aR_11 hσ2 h3 dX12_wind_58 h (fun σ15 hσ16 h => ?_)
          refine J_aload_n C 0 dX12_wind_59 rfl 0 rfl ?_
          refine J_getR C fl_RX12_43 oR_0 rfl dX12_wind_60 ?_
          refine J_iconst C dX12_wind_63 ?_
          refine J_iload_n C 1 dX12_wind_64 rfl 1 rfl ?_
          refine J_imul C dX12_wind_65 h (fun v17 hv18 h => ?_)
          refine J_iload_n C 2 dX12_wind_66 rfl 2 rfl ?_
          refine J_iadd C dX12_wind_67 h (fun v19 hv20 h => ?_)
          refine J_iload C 4 dX12_wind_68 4 rfl ?_
          refine J_iast C aR_12 hσ16 h4 dX12_wind_70 h (fun σ21 hσ22 h => ?_)
          refine J_iconst C dX12_wind_71 ?_
          have e9 := sE h
          subst e9
          exact J_iret C E ⟨rl_0, hσ22⟩ dX12_wind_72
set_option maxRecDepth 100000 in
set_option maxHeartbeats 4000000 in
theorem m_X12_apart (l : Launch) (g : Gm) (hg : gInj yR g) (x1 : Int) (h1 : rg x1) (σ : Sg) (hσ : wfS yR σ) (q : Int × Sg) (h : fX12_apart x1 σ = some q) : CJ l yR g yX12_apart cX12_apart 3 (some .int) 1 22 [.ref (gad g 0), vi x1] σ (some (vi q.1)) q.2 ((rg q.1) ∧ wfS yR q.2) := by
  refine CJ_of hg (by decide) rfl (Nat.le_of_ble_eq_true rfl) (lo := [(0, .ref (gad g 0)), (1, vi x1)]) rfl (fun x C E => ?_)
  unfold fX12_apart at h
  refine J_iload_n C 1 dX12_apart_0 rfl 1 rfl ?_
  refine J_iconst C dX12_apart_1 ?_
  refine J_bipush C dX12_apart_2 (bp8 (by decide) (by decide)) ?_
  obtain ⟨q1, cq1, h⟩ := bdS h
  refine J_callS C mw_X12_isIn ml_RX12_177 (m_X12_isIn x.2.1 g (CxI C) x1 h1 0 rl_0 20 rl_20 σ hσ q1 cq1) (Nat.le_of_ble_eq_true rfl) (Nat.le_of_ble_eq_true rfl) rfl rfl (Nat.le_of_ble_eq_true rfl) dX12_apart_4 (fun hz2 => ?_)
  refine J_if_ne C (rg01 hz2) (tgt := 12) dX12_apart_7 (by decide) h (fun h c5 => ?_) (fun h c5 => ?_)
  · refine J_iconst C dX12_apart_10 ?_
    have e9 := sE h
    subst e9
    exact J_iret C E ⟨rl_m1, hσ⟩ dX12_apart_11
  · refine J_aload_n C 0 dX12_apart_12 rfl 0 rfl ?_
    refine J_getI C fl_RX12_174 oR_0 rfl dX12_apart_13 ?_
    refine J_istore_n (lo2 := [(2, vi (σ 0 31)), (0, .ref (gad g 0)), (1, vi x1)]) C 2 dX12_apart_16 rfl (by decide) rfl ?_
    refine J_aload_n C 0 dX12_apart_17 rfl 1 rfl ?_
    refine J_iload_n C 1 dX12_apart_18 rfl 2 rfl ?_
    refine J_putI C fl_RX12_174 fp_RX12_31 oR_0 rfl rfl lR_0 hσ h1 dX12_apart_19 h (fun σ3 hσ4 h => ?_)
    refine J_iload_n C 2 dX12_apart_22 rfl 0 rfl ?_
    have e9 := sE h
    subst e9
    exact J_iret C E ⟨(hσ 0 31 lR_0), hσ4⟩ dX12_apart_23
set_option maxRecDepth 100000 in
set_option maxHeartbeats 4000000 in
theorem m_X12_amount (l : Launch) (g : Gm) (hg : gInj yR g) (x0 : Int) (h0 : rg x0) (σ : Sg) (hσ : wfS yR σ) (q : Int) (h : fX12_amount x0 σ = some q) : CJ l yR g yX12_amount cX12_amount 1 (some .int) 0 0 [vi x0] σ (some (vi q)) σ (rg q) := by
  refine CJ_of hg (by decide) rfl (Nat.le_of_ble_eq_true rfl) (lo := [(0, vi x0)]) rfl (fun x C E => ?_)
  unfold fX12_amount at h
  refine J_iload_n C 0 dX12_amount_0 rfl 0 rfl ?_
  refine J_if_ge C h0 (tgt := 9) dX12_amount_1 (by decide) h (fun h c3 => ?_) (fun h c3 => ?_)
  · refine J_iload_n C 0 dX12_amount_4 rfl 0 rfl ?_
    refine J_ineg C dX12_amount_5 h (fun v1 hv2 h => ?_)
    refine J_goto C (tgt := 10) dX12_amount_6 (by decide) ?_
    have e9 := sE h
    subst e9
    exact J_iret C E hv2 dX12_amount_10
  · refine J_iload_n C 0 dX12_amount_9 rfl 0 rfl ?_
    have e9 := sE h
    subst e9
    exact J_iret C E h0 dX12_amount_10
set_option maxRecDepth 100000 in
set_option maxHeartbeats 4000000 in
theorem wX12_mayHold_L2 {x : Ct} {g : Gm} (C : Cx x yR g 5 cX12_mayHold RX12 1 20) : ∀ (n : Nat) (x1 : Int) (h1 : rg x1) (x2 : Int) (h2 : rg x2) (x3 : Int) (h3 : rg x3) (σ : Sg) (hσ : wfS yR σ) (q : (Unit) ⊕ (Unit)) (h : fX12_mayHold_L2 n x1 x2 x3 σ = some q) (k0 : ∀ a : Unit, q = .inl a → J x yR g 5 95 [] [] σ) (k1 : ∀ a : Unit, q = .inr a → J x yR g 5 103 [] [] σ), J x yR g 5 2 [(0, .ref (gad g 0)), (1, vi x1), (2, vi x2), (3, vi x3)] [] σ := by
  intro n
  induction n with
  | zero =>
    intro x1 h1 x2 h2 x3 h3 σ hσ q h k0 k1
    exact absurd h (by intro z; cases z)
  | succ n ih =>
    intro x1 h1 x2 h2 x3 h3 σ hσ q h k0 k1
    rw [fX12_mayHold_L2] at h
    have pc21 : ∀ (x3 : Int) (h3 : rg x3), fX12_mayHold_L2P97 (fX12_mayHold_L2 n) x1 x2 x3 σ = some q → J x yR g 5 97 [(0, .ref (gad g 0)), (1, vi x1), (2, vi x2), (3, vi x3)] [] σ := by
      intro x3 h3 h
      unfold fX12_mayHold_L2P97 at h
      refine J_iinc C 3 3 dX12_mayHold_97 rfl (by decide) h (fun v22 hv23 h => ?_)
      refine J_goto C (tgt := 2) dX12_mayHold_100 (by decide) ?_
      exact J_sub [1, 2, 3, 0] rfl (ih x1 h1 x2 h2 v22 hv23 σ hσ q h k0 k1)
    have pc18 : ∀ (x3 : Int) (h3 : rg x3) (y0 : Int) (g0 : rg y0), fX12_mayHold_L2P78 (fX12_mayHold_L2 n) x1 x2 x3 y0 σ = some q → J x yR g 5 78 [(0, .ref (gad g 0)), (1, vi x1), (2, vi x2), (3, vi x3)] [vi y0] σ := by
      intro x3 h3 y0 g0 h
      unfold fX12_mayHold_L2P78 at h
      refine J_istore (lo2 := [(4, vi y0), (0, .ref (gad g 0)), (1, vi x1), (2, vi x2), (3, vi x3)]) C 4 dX12_mayHold_78 (by decide) rfl ?_
      refine J_aload_n C 0 dX12_mayHold_80 rfl 1 rfl ?_
      refine J_getR C fl_RX12_9 oR_0 rfl dX12_mayHold_81 ?_
      refine J_iload_n C 3 dX12_mayHold_84 rfl 4 rfl ?_
      refine J_iald C aR_1 hσ dX12_mayHold_85 h (fun v19 hv20 h => ?_)
      refine J_iconst C dX12_mayHold_86 ?_
      refine J_icmp_ne C hv20 rl_2 (tgt := 97) dX12_mayHold_87 (by decide) h (fun h c27 => ?_) (fun h c27 => ?_)
      · refine J_iload C 4 dX12_mayHold_90 0 rfl ?_
        refine J_if_eq C g0 (tgt := 97) dX12_mayHold_92 (by decide) h (fun h c26 => ?_) (fun h c26 => ?_)
        · exact J_sub [1, 2, 3, 4] rfl (pc21 x3 h3 h)
        · have e9 := sE h
          exact J_sub [] rfl (k0 () e9.symm)
      · exact J_sub [1, 2, 3, 4] rfl (pc21 x3 h3 h)
    have pc17 : ∀ (x3 : Int) (h3 : rg x3), fX12_mayHold_L2P77 (fX12_mayHold_L2 n) x1 x2 x3 σ = some q → J x yR g 5 77 [(0, .ref (gad g 0)), (1, vi x1), (2, vi x2), (3, vi x3)] [] σ := by
      intro x3 h3 h
      unfold fX12_mayHold_L2P77 at h
      refine J_iconst C dX12_mayHold_77 ?_
      exact J_sub [0, 1, 2, 3] rfl (pc18 x3 h3 0 rl_0 h)
    refine J_iload_n C 3 dX12_mayHold_2 rfl 3 rfl ?_
    refine J_sipush C dX12_mayHold_3 (bp16 (by decide) (by decide)) ?_
    refine J_icmp_ge C h3 rl_1024 (tgt := 103) dX12_mayHold_6 (by decide) h (fun h c50 => ?_) (fun h c50 => ?_)
    · refine J_sipush C dX12_mayHold_9 (bp16 (by decide) (by decide)) ?_
      refine J_iload_n C 3 dX12_mayHold_12 rfl 3 rfl ?_
      refine J_bipush C dX12_mayHold_13 (bp8 (by decide) (by decide)) ?_
      refine J_irem C h3 rl_32 dX12_mayHold_15 h (fun v1 hv2 h => ?_)
      refine J_imul C dX12_mayHold_16 h (fun v3 hv4 h => ?_)
      refine J_bipush C dX12_mayHold_17 (bp8 (by decide) (by decide)) ?_
      refine J_iadd C dX12_mayHold_19 h (fun v5 hv6 h => ?_)
      refine J_aload_n C 0 dX12_mayHold_20 rfl 0 rfl ?_
      refine J_getR C fl_RX12_31 oR_0 rfl dX12_mayHold_21 ?_
      refine J_iload_n C 1 dX12_mayHold_24 rfl 1 rfl ?_
      refine J_iald C aR_8 hσ dX12_mayHold_25 h (fun v7 hv8 h => ?_)
      refine J_isub C dX12_mayHold_26 h (fun v9 hv10 h => ?_)
      obtain ⟨q11, cq11, h⟩ := bdS h
      refine J_callS C mw_X12_amount ml_RX12_182 (m_X12_amount x.2.1 g (CxI C) v9 hv10 σ hσ q11 cq11) (Nat.le_of_ble_eq_true rfl) (Nat.le_of_ble_eq_true rfl) rfl rfl (Nat.le_of_ble_eq_true rfl) dX12_mayHold_27 (fun hz12 => ?_)
      refine J_iconst C dX12_mayHold_30 ?_
      refine J_aload_n C 0 dX12_mayHold_31 rfl 0 rfl ?_
      refine J_getR C fl_RX12_16 oR_0 rfl dX12_mayHold_32 ?_
      refine J_iload_n C 2 dX12_mayHold_35 rfl 2 rfl ?_
      refine J_iald C aR_3 hσ dX12_mayHold_36 h (fun v13 hv14 h => ?_)
      refine J_imul C dX12_mayHold_37 h (fun v15 hv16 h => ?_)
      refine J_icmp_gt C hz12 hv16 (tgt := 77) dX12_mayHold_38 (by decide) h (fun h c49 => ?_) (fun h c49 => ?_)
      · refine J_sipush C dX12_mayHold_41 (bp16 (by decide) (by decide)) ?_
        refine J_iload_n C 3 dX12_mayHold_44 rfl 3 rfl ?_
        refine J_bipush C dX12_mayHold_45 (bp8 (by decide) (by decide)) ?_
        refine J_idiv C h3 rl_32 dX12_mayHold_47 h (fun v32 hv33 h => ?_)
        refine J_imul C dX12_mayHold_48 h (fun v34 hv35 h => ?_)
        refine J_bipush C dX12_mayHold_49 (bp8 (by decide) (by decide)) ?_
        refine J_iadd C dX12_mayHold_51 h (fun v36 hv37 h => ?_)
        refine J_aload_n C 0 dX12_mayHold_52 rfl 0 rfl ?_
        refine J_getR C fl_RX12_34 oR_0 rfl dX12_mayHold_53 ?_
        refine J_iload_n C 1 dX12_mayHold_56 rfl 1 rfl ?_
        refine J_iald C aR_9 hσ dX12_mayHold_57 h (fun v38 hv39 h => ?_)
        refine J_isub C dX12_mayHold_58 h (fun v40 hv41 h => ?_)
        obtain ⟨q42, cq42, h⟩ := bdS h
        refine J_callS C mw_X12_amount ml_RX12_182 (m_X12_amount x.2.1 g (CxI C) v40 hv41 σ hσ q42 cq42) (Nat.le_of_ble_eq_true rfl) (Nat.le_of_ble_eq_true rfl) rfl rfl (Nat.le_of_ble_eq_true rfl) dX12_mayHold_59 (fun hz43 => ?_)
        refine J_iconst C dX12_mayHold_62 ?_
        refine J_aload_n C 0 dX12_mayHold_63 rfl 0 rfl ?_
        refine J_getR C fl_RX12_16 oR_0 rfl dX12_mayHold_64 ?_
        refine J_iload_n C 2 dX12_mayHold_67 rfl 2 rfl ?_
        refine J_iald C aR_3 hσ dX12_mayHold_68 h (fun v44 hv45 h => ?_)
        refine J_imul C dX12_mayHold_69 h (fun v46 hv47 h => ?_)
        refine J_icmp_gt C hz43 hv47 (tgt := 77) dX12_mayHold_70 (by decide) h (fun h c48 => ?_) (fun h c48 => ?_)
        · refine J_iconst C dX12_mayHold_73 ?_
          refine J_goto C (tgt := 78) dX12_mayHold_74 (by decide) ?_
          exact J_sub [0, 1, 2, 3] rfl (pc18 x3 h3 1 rl_1 h)
        · exact J_sub [0, 1, 2, 3] rfl (pc17 x3 h3 h)
      · exact J_sub [0, 1, 2, 3] rfl (pc17 x3 h3 h)
    · have e9 := sE h
      exact J_sub [] rfl (k1 () e9.symm)
set_option maxRecDepth 100000 in
set_option maxHeartbeats 4000000 in
theorem m_X12_mayHold (l : Launch) (g : Gm) (hg : gInj yR g) (x1 : Int) (h1 : rg x1) (x2 : Int) (h2 : rg x2) (σ : Sg) (hσ : wfS yR σ) (q : Int) (h : fX12_mayHold x1 x2 σ = some q) : CJ l yR g yX12_mayHold cX12_mayHold 5 (some .boolean) 1 20 [.ref (gad g 0), vi x1, vi x2] σ (some (vi q)) σ (q = 0 ∨ q = 1) := by
  refine CJ_of hg (by decide) rfl (Nat.le_of_ble_eq_true rfl) (lo := [(0, .ref (gad g 0)), (1, vi x1), (2, vi x2)]) rfl (fun x C E => ?_)
  unfold fX12_mayHold at h
  refine J_iconst C dX12_mayHold_0 ?_
  refine J_istore_n (lo2 := [(3, vi 0), (0, .ref (gad g 0)), (1, vi x1), (2, vi x2)]) C 3 dX12_mayHold_1 rfl (by decide) rfl ?_
  obtain ⟨q51, cq51, h⟩ := bdS h
  refine J_sub [1, 2, 3, 0] rfl (wX12_mayHold_L2 C fu x1 h1 x2 h2 0 rl_0 σ hσ q51 cq51 (fun a52 ea52 => ?_) (fun a53 ea53 => ?_))
  · subst ea52
    have h := elL h
    refine J_iconst C dX12_mayHold_95 ?_
    have e9 := sE h
    subst e9
    exact J_zret C (Or.inl rfl) E (Or.inl rfl) dX12_mayHold_96
  · subst ea53
    have h := elR h
    refine J_iconst C dX12_mayHold_103 ?_
    have e9 := sE h
    subst e9
    exact J_zret C (Or.inr rfl) E (Or.inr rfl) dX12_mayHold_104
set_option maxRecDepth 100000 in
set_option maxHeartbeats 4000000 in
theorem m_X12_may (l : Launch) (g : Gm) (hg : gInj yR g) (x1 : Int) (h1 : rg x1) (x2 : Int) (h2 : rg x2) (σ : Sg) (hσ : wfS yR σ) (q : Int) (h : fX12_may x1 x2 σ = some q) : CJ l yR g yX12_may cX12_may 3 (some .int) 2 44 [.ref (gad g 0), vi x1, vi x2] σ (some (vi q)) σ (rg q) := by
  refine CJ_of hg (by decide) rfl (Nat.le_of_ble_eq_true rfl) (lo := [(0, .ref (gad g 0)), (1, vi x1), (2, vi x2)]) rfl (fun x C E => ?_)
  unfold fX12_may at h
  refine J_aload_n C 0 dX12_may_0 rfl 0 rfl ?_
  refine J_iload_n C 1 dX12_may_1 rfl 1 rfl ?_
  obtain ⟨q1, cq1, h⟩ := bdS h
  refine J_callV C mw_X12_isBarge ml_RX12_186 (m_X12_isBarge x.2.1 g (CxI C) x1 h1 σ hσ q1 cq1) oR_0 rfl (Nat.le_of_ble_eq_true rfl) (Nat.le_of_ble_eq_true rfl) rfl rfl (Nat.le_of_ble_eq_true rfl) dX12_may_2 (fun hz2 => ?_)
  refine J_if_eq C (rg01 hz2) (tgt := 16) dX12_may_5 (by decide) h (fun h c9 => ?_) (fun h c9 => ?_)
  · refine J_iconst C dX12_may_16 ?_
    have e9 := sE h
    subst e9
    exact J_iret C E rl_m1 dX12_may_17
  · refine J_aload_n C 0 dX12_may_8 rfl 0 rfl ?_
    refine J_iload_n C 2 dX12_may_9 rfl 2 rfl ?_
    obtain ⟨q3, cq3, h⟩ := bdS h
    refine J_callV C mw_X12_isKind ml_RX12_190 (m_X12_isKind x.2.1 g (CxI C) x2 h2 σ hσ q3 cq3) oR_0 rfl (Nat.le_of_ble_eq_true rfl) (Nat.le_of_ble_eq_true rfl) rfl rfl (Nat.le_of_ble_eq_true rfl) dX12_may_10 (fun hz4 => ?_)
    refine J_if_ne C (rg01 hz4) (tgt := 18) dX12_may_13 (by decide) h (fun h c8 => ?_) (fun h c8 => ?_)
    · refine J_iconst C dX12_may_16 ?_
      have e9 := sE h
      subst e9
      exact J_iret C E rl_m1 dX12_may_17
    · refine J_aload_n C 0 dX12_may_18 rfl 0 rfl ?_
      refine J_iload_n C 1 dX12_may_19 rfl 1 rfl ?_
      refine J_iload_n C 2 dX12_may_20 rfl 2 rfl ?_
      obtain ⟨q5, cq5, h⟩ := bdS h
      refine J_callV C mw_X12_mayHold ml_RX12_193 (m_X12_mayHold x.2.1 g (CxI C) x1 h1 x2 h2 σ hσ q5 cq5) oR_0 rfl (Nat.le_of_ble_eq_true rfl) (Nat.le_of_ble_eq_true rfl) rfl rfl (Nat.le_of_ble_eq_true rfl) dX12_may_21 (fun hz6 => ?_)
      refine J_if_eq C (rg01 hz6) (tgt := 31) dX12_may_24 (by decide) h (fun h c7 => ?_) (fun h c7 => ?_)
      · refine J_iconst C dX12_may_31 ?_
        have e9 := sE h
        subst e9
        exact J_iret C E rl_0 dX12_may_32
      · refine J_iconst C dX12_may_27 ?_
        refine J_goto C (tgt := 32) dX12_may_28 (by decide) ?_
        have e9 := sE h
        subst e9
        exact J_iret C E rl_1 dX12_may_32
set_option maxRecDepth 100000 in
set_option maxHeartbeats 4000000 in
theorem wX12_lands_L115 {x : Ct} {g : Gm} (C : Cx x yR g 12 cX12_lands RX12 0 0) : ∀ (n : Nat) (x1 : Int) (h1 : rg x1) (x4 : Int) (h4 : rg x4) (x7 : Int) (h7 : rg x7) (x8 : Int) (h8 : rg x8) (x9 : Int) (h9 : rg x9) (x10 : Int) (h10 : rg x10) (σ : Sg) (hσ : wfS yR σ) (q : (Int × Int) ⊕ (Unit)) (h : fX12_lands_L115 n x1 x4 x7 x8 x9 x10 σ = some q) (k0 : ∀ a : Int × Int, q = .inl a → rg a.1 → rg a.2 → J x yR g 12 185 [(7, vi a.1), (8, vi a.2)] [] σ) (k1 : ∀ a : Unit, q = .inr a → J x yR g 12 239 [] [] σ), J x yR g 12 115 [(0, .ref (gad g 0)), (1, vi x1), (4, vi x4), (7, vi x7), (8, vi x8), (9, vi x9), (10, vi x10)] [] σ := by
  intro n
  induction n with
  | zero =>
    intro x1 h1 x4 h4 x7 h7 x8 h8 x9 h9 x10 h10 σ hσ q h k0 k1
    exact absurd h (by intro z; cases z)
  | succ n ih =>
    intro x1 h1 x4 h4 x7 h7 x8 h8 x9 h9 x10 h10 σ hσ q h k0 k1
    rw [fX12_lands_L115] at h
    have pc27 : ∀ (x7 : Int) (h7 : rg x7) (x8 : Int) (h8 : rg x8) (x9 : Int) (h9 : rg x9) (x10 : Int) (h10 : rg x10) (y0 : Int) (g0 : rg y0) (y1 : Int) (g1 : rg y1), fX12_lands_L115P150 (fX12_lands_L115 n) x1 x4 x7 x8 x9 x10 y0 y1 σ = some q → J x yR g 12 150 [(0, .ref (gad g 0)), (1, vi x1), (4, vi x4), (7, vi x7), (8, vi x8), (9, vi x9), (10, vi x10)] [vi y0, vi y1] σ := by
      intro x7 h7 x8 h8 x9 h9 x10 h10 y0 g0 y1 g1 h
      unfold fX12_lands_L115P150 at h
      refine J_iadd C dX12_lands_150 h (fun v28 hv29 h => ?_)
      refine J_istore (lo2 := [(11, vi v28), (0, .ref (gad g 0)), (1, vi x1), (4, vi x4), (7, vi x7), (8, vi x8), (9, vi x9), (10, vi x10)]) C 11 dX12_lands_151 (by decide) rfl ?_
      refine J_iload C 7 dX12_lands_153 4 rfl ?_
      refine J_aload_n C 0 dX12_lands_155 rfl 1 rfl ?_
      refine J_getR C fl_RX12_40 oR_0 rfl dX12_lands_156 ?_
      refine J_iload C 11 dX12_lands_159 0 rfl ?_
      refine J_iald C aR_11 hσ dX12_lands_161 h (fun v30 hv31 h => ?_)
      refine J_iadd C dX12_lands_162 h (fun v32 hv33 h => ?_)
      refine J_istore (lo2 := [(7, vi v32), (11, vi v28), (0, .ref (gad g 0)), (1, vi x1), (4, vi x4), (8, vi x8), (9, vi x9), (10, vi x10)]) C 7 dX12_lands_163 (by decide) rfl ?_
      refine J_iload C 8 dX12_lands_165 5 rfl ?_
      refine J_aload_n C 0 dX12_lands_167 rfl 2 rfl ?_
      refine J_getR C fl_RX12_43 oR_0 rfl dX12_lands_168 ?_
      refine J_iload C 11 dX12_lands_171 1 rfl ?_
      refine J_iald C aR_12 hσ dX12_lands_173 h (fun v34 hv35 h => ?_)
      refine J_iadd C dX12_lands_174 h (fun v36 hv37 h => ?_)
      refine J_istore (lo2 := [(8, vi v36), (7, vi v32), (11, vi v28), (0, .ref (gad g 0)), (1, vi x1), (4, vi x4), (9, vi x9), (10, vi x10)]) C 8 dX12_lands_175 (by decide) rfl ?_
      refine J_iinc C 9 6 dX12_lands_177 rfl (by decide) h (fun v38 hv39 h => ?_)
      refine J_iload C 9 dX12_lands_180 0 rfl ?_
      refine J_if_gt C hv39 (tgt := 233) dX12_lands_182 (by decide) h (fun h c42 => ?_) (fun h c42 => ?_)
      · have e9 := sE h
        exact J_sub [2, 1] rfl (k0 (v32, v36) e9.symm hv33 hv37)
      · refine J_iinc C 10 7 dX12_lands_233 rfl (by decide) h (fun v40 hv41 h => ?_)
        refine J_goto C (tgt := 115) dX12_lands_236 (by decide) ?_
        exact J_sub [5, 6, 7, 3, 2, 1, 0] rfl (ih x1 h1 x4 h4 v32 hv33 v36 hv37 v38 hv39 v40 hv41 σ hσ q h k0 k1)
    refine J_iload C 10 dX12_lands_115 6 rfl ?_
    refine J_aload_n C 0 dX12_lands_117 rfl 0 rfl ?_
    refine J_getR C fl_RX12_22 oR_0 rfl dX12_lands_118 ?_
    refine J_iload_n C 1 dX12_lands_121 rfl 1 rfl ?_
    refine J_iald C aR_5 hσ dX12_lands_122 h (fun v21 hv22 h => ?_)
    refine J_icmp_ge C h10 hv22 (tgt := 239) dX12_lands_123 (by decide) h (fun h c61 => ?_) (fun h c61 => ?_)
    · refine J_iconst C dX12_lands_126 ?_
      refine J_iload C 4 dX12_lands_127 2 rfl ?_
      refine J_imul C dX12_lands_129 h (fun v23 hv24 h => ?_)
      refine J_iload C 9 dX12_lands_130 5 rfl ?_
      refine J_sipush C dX12_lands_132 (bp16 (by decide) (by decide)) ?_
      refine J_idiv C h9 rl_500 dX12_lands_135 h (fun v25 hv26 h => ?_)
      refine J_iconst C dX12_lands_136 ?_
      refine J_icmp_ge C hv26 rl_4 (tgt := 149) dX12_lands_137 (by decide) h (fun h c60 => ?_) (fun h c60 => ?_)
      · refine J_iload C 9 dX12_lands_140 5 rfl ?_
        refine J_sipush C dX12_lands_142 (bp16 (by decide) (by decide)) ?_
        refine J_idiv C h9 rl_500 dX12_lands_145 h (fun v58 hv59 h => ?_)
        refine J_goto C (tgt := 150) dX12_lands_146 (by decide) ?_
        exact J_sub [0, 1, 2, 3, 4, 5, 6] rfl (pc27 x7 h7 x8 h8 x9 h9 x10 h10 v58 hv59 v23 hv24 h)
      · refine J_iconst C dX12_lands_149 ?_
        exact J_sub [0, 1, 2, 3, 4, 5, 6] rfl (pc27 x7 h7 x8 h8 x9 h9 x10 h10 4 rl_4 v23 hv24 h)
    · have e9 := sE h
      exact J_sub [] rfl (k1 () e9.symm)
set_option maxRecDepth 100000 in
set_option maxHeartbeats 4000000 in
theorem m_X12_lands (l : Launch) (g : Gm) (hg : gInj yR g) (x1 : Int) (h1 : rg x1) (x2 : Int) (h2 : rg x2) (x3 : Int) (h3 : rg x3) (x4 : Int) (h4 : rg x4) (x5 : Int) (h5 : rg x5) (x6 : Int) (h6 : rg x6) (σ : Sg) (hσ : wfS yR σ) (q : Int) (h : fX12_lands x1 x2 x3 x4 x5 x6 σ = some q) : CJ l yR g yX12_lands cX12_lands 12 (some .int) 0 0 [.ref (gad g 0), vi x1, vi x2, vi x3, vi x4, vi x5, vi x6] σ (some (vi q)) σ (rg q) := by
  refine CJ_of hg (by decide) rfl (Nat.le_of_ble_eq_true rfl) (lo := [(0, .ref (gad g 0)), (1, vi x1), (2, vi x2), (3, vi x3), (4, vi x4), (5, vi x5), (6, vi x6)]) rfl (fun x C E => ?_)
  unfold fX12_lands at h
  have pc66 : fX12_lands_P211  σ = some q → J x yR g 12 211 [] [] σ := by
    intro h
    unfold fX12_lands_P211 at h
    refine J_bipush C dX12_lands_211 (bp8 (by decide) (by decide)) ?_
    refine J_goto C (tgt := 232) dX12_lands_213 (by decide) ?_
    have e9 := sE h
    subst e9
    exact J_iret C E rl_m3 dX12_lands_232
  have pc14 : ∀ (x7 : Int) (h7 : rg x7) (y0 : Int) (g0 : rg y0) (y1 : Int) (g1 : rg y1), fX12_lands_P98 x1 x4 x6 x7 y0 y1 σ = some q → J x yR g 12 98 [(0, .ref (gad g 0)), (1, vi x1), (4, vi x4), (6, vi x6), (7, vi x7)] [vi y0, vi y1] σ := by
    intro x7 h7 y0 g0 y1 g1 h
    unfold fX12_lands_P98 at h
    refine J_iadd C dX12_lands_98 h (fun v15 hv16 h => ?_)
    refine J_istore (lo2 := [(8, vi v15), (0, .ref (gad g 0)), (1, vi x1), (4, vi x4), (6, vi x6), (7, vi x7)]) C 8 dX12_lands_99 (by decide) rfl ?_
    refine J_iload C 6 dX12_lands_101 4 rfl ?_
    refine J_aload_n C 0 dX12_lands_103 rfl 1 rfl ?_
    refine J_getR C fl_RX12_16 oR_0 rfl dX12_lands_104 ?_
    refine J_iload_n C 1 dX12_lands_107 rfl 2 rfl ?_
    refine J_iald C aR_3 hσ dX12_lands_108 h (fun v17 hv18 h => ?_)
    refine J_imul C dX12_lands_109 h (fun v19 hv20 h => ?_)
    refine J_istore (lo2 := [(9, vi v19), (8, vi v15), (0, .ref (gad g 0)), (1, vi x1), (4, vi x4), (6, vi x6), (7, vi x7)]) C 9 dX12_lands_110 (by decide) rfl ?_
    refine J_iconst C dX12_lands_112 ?_
    refine J_istore (lo2 := [(10, vi 0), (9, vi v19), (8, vi v15), (0, .ref (gad g 0)), (1, vi x1), (4, vi x4), (6, vi x6), (7, vi x7)]) C 10 dX12_lands_113 (by decide) rfl ?_
    obtain ⟨q62, cq62, h⟩ := bdS h
    refine J_sub [3, 4, 5, 7, 2, 1, 0] rfl (wX12_lands_L115 C fu x1 h1 x4 h4 x7 h7 v15 hv16 v19 hv20 0 rl_0 σ hσ q62 cq62 (fun a63 ea63 hr64 hr65 => ?_) (fun a79 ea79 => ?_))
    · subst ea63
      have h := elL h
      refine J_iload C 7 dX12_lands_185 0 rfl ?_
      refine J_if_lt C hr64 (tgt := 211) dX12_lands_187 (by decide) h (fun h c78 => ?_) (fun h c78 => ?_)
      · exact J_sub [] rfl (pc66  h)
      · refine J_iload C 8 dX12_lands_190 1 rfl ?_
        refine J_if_lt C hr65 (tgt := 211) dX12_lands_192 (by decide) h (fun h c77 => ?_) (fun h c77 => ?_)
        · exact J_sub [] rfl (pc66  h)
        · refine J_iload C 7 dX12_lands_195 0 rfl ?_
          refine J_sipush C dX12_lands_197 (bp16 (by decide) (by decide)) ?_
          refine J_icmp_ge C hr64 rl_6400 (tgt := 211) dX12_lands_200 (by decide) h (fun h c76 => ?_) (fun h c76 => ?_)
          · refine J_iload C 8 dX12_lands_203 1 rfl ?_
            refine J_sipush C dX12_lands_205 (bp16 (by decide) (by decide)) ?_
            refine J_icmp_lt C hr65 rl_6400 (tgt := 216) dX12_lands_208 (by decide) h (fun h c75 => ?_) (fun h c75 => ?_)
            · refine J_iload C 8 dX12_lands_216 1 rfl ?_
              refine J_sipush C dX12_lands_218 (bp16 (by decide) (by decide)) ?_
              refine J_idiv C hr65 rl_200 dX12_lands_221 h (fun v67 hv68 h => ?_)
              refine J_bipush C dX12_lands_222 (bp8 (by decide) (by decide)) ?_
              refine J_imul C dX12_lands_224 h (fun v69 hv70 h => ?_)
              refine J_iload C 7 dX12_lands_225 0 rfl ?_
              refine J_sipush C dX12_lands_227 (bp16 (by decide) (by decide)) ?_
              refine J_idiv C hr64 rl_200 dX12_lands_230 h (fun v71 hv72 h => ?_)
              refine J_iadd C dX12_lands_231 h (fun v73 hv74 h => ?_)
              have e9 := sE h
              subst e9
              exact J_iret C E hv74 dX12_lands_232
            · exact J_sub [] rfl (pc66  h)
          · exact J_sub [] rfl (pc66  h)
    · subst ea79
      have h := elR h
      refine J_bipush C dX12_lands_239 (bp8 (by decide) (by decide)) ?_
      have e9 := sE h
      subst e9
      exact J_iret C E rl_m2 dX12_lands_241
  have pc9 : ∀ (y0 : Int) (g0 : rg y0) (y1 : Int) (g1 : rg y1), fX12_lands_P52 x1 x2 x4 x5 x6 y0 y1 σ = some q → J x yR g 12 52 [(0, .ref (gad g 0)), (1, vi x1), (2, vi x2), (4, vi x4), (5, vi x5), (6, vi x6)] [vi y0, vi y1] σ := by
    intro y0 g0 y1 g1 h
    unfold fX12_lands_P52 at h
    refine J_iadd C dX12_lands_52 h (fun v10 hv11 h => ?_)
    refine J_istore (lo2 := [(7, vi v10), (0, .ref (gad g 0)), (1, vi x1), (2, vi x2), (4, vi x4), (5, vi x5), (6, vi x6)]) C 7 dX12_lands_53 (by decide) rfl ?_
    refine J_aload_n C 0 dX12_lands_55 rfl 1 rfl ?_
    refine J_getR C fl_RX12_34 oR_0 rfl dX12_lands_56 ?_
    refine J_iload_n C 2 dX12_lands_59 rfl 3 rfl ?_
    refine J_iald C aR_9 hσ dX12_lands_60 h (fun v12 hv13 h => ?_)
    refine J_iload C 5 dX12_lands_61 5 rfl ?_
    refine J_iconst C dX12_lands_63 ?_
    refine J_icmp_ne C h5 rl_3 (tgt := 79) dX12_lands_64 (by decide) h (fun h c112 => ?_) (fun h c112 => ?_)
    · refine J_bipush C dX12_lands_67 (bp8 (by decide) (by decide)) ?_
      refine J_aload_n C 0 dX12_lands_69 rfl 1 rfl ?_
      refine J_getR C fl_RX12_19 oR_0 rfl dX12_lands_70 ?_
      refine J_iload_n C 1 dX12_lands_73 rfl 2 rfl ?_
      refine J_iald C aR_4 hσ dX12_lands_74 h (fun v108 hv109 h => ?_)
      refine J_imul C dX12_lands_75 h (fun v110 hv111 h => ?_)
      refine J_goto C (tgt := 98) dX12_lands_76 (by decide) ?_
      exact J_sub [1, 2, 4, 6, 0] rfl (pc14 v10 hv11 v110 hv111 v12 hv13 h)
    · refine J_iload C 5 dX12_lands_79 5 rfl ?_
      refine J_iconst C dX12_lands_81 ?_
      refine J_icmp_ne C h5 rl_4 (tgt := 97) dX12_lands_82 (by decide) h (fun h c107 => ?_) (fun h c107 => ?_)
      · refine J_bipush C dX12_lands_85 (bp8 (by decide) (by decide)) ?_
        refine J_aload_n C 0 dX12_lands_87 rfl 1 rfl ?_
        refine J_getR C fl_RX12_19 oR_0 rfl dX12_lands_88 ?_
        refine J_iload_n C 1 dX12_lands_91 rfl 2 rfl ?_
        refine J_iald C aR_4 hσ dX12_lands_92 h (fun v103 hv104 h => ?_)
        refine J_imul C dX12_lands_93 h (fun v105 hv106 h => ?_)
        refine J_goto C (tgt := 98) dX12_lands_94 (by decide) ?_
        exact J_sub [1, 2, 4, 6, 0] rfl (pc14 v10 hv11 v105 hv106 v12 hv13 h)
      · refine J_iconst C dX12_lands_97 ?_
        exact J_sub [1, 2, 4, 6, 0] rfl (pc14 v10 hv11 0 rl_0 v12 hv13 h)
  refine J_aload_n C 0 dX12_lands_0 rfl 0 rfl ?_
  refine J_getR C fl_RX12_31 oR_0 rfl dX12_lands_1 ?_
  refine J_iload_n C 2 dX12_lands_4 rfl 2 rfl ?_
  refine J_iald C aR_8 hσ dX12_lands_5 h (fun v1 hv2 h => ?_)
  refine J_iload_n C 3 dX12_lands_6 rfl 3 rfl ?_
  refine J_aload_n C 0 dX12_lands_7 rfl 0 rfl ?_
  refine J_getR C fl_RX12_16 oR_0 rfl dX12_lands_8 ?_
  refine J_iload_n C 1 dX12_lands_11 rfl 1 rfl ?_
  refine J_iald C aR_3 hσ dX12_lands_12 h (fun v3 hv4 h => ?_)
  refine J_imul C dX12_lands_13 h (fun v5 hv6 h => ?_)
  refine J_iadd C dX12_lands_14 h (fun v7 hv8 h => ?_)
  refine J_iload C 5 dX12_lands_15 5 rfl ?_
  refine J_iconst C dX12_lands_17 ?_
  refine J_icmp_ne C h5 rl_1 (tgt := 33) dX12_lands_18 (by decide) h (fun h c136 => ?_) (fun h c136 => ?_)
  · refine J_bipush C dX12_lands_21 (bp8 (by decide) (by decide)) ?_
    refine J_aload_n C 0 dX12_lands_23 rfl 0 rfl ?_
    refine J_getR C fl_RX12_19 oR_0 rfl dX12_lands_24 ?_
    refine J_iload_n C 1 dX12_lands_27 rfl 1 rfl ?_
    refine J_iald C aR_4 hσ dX12_lands_28 h (fun v132 hv133 h => ?_)
    refine J_imul C dX12_lands_29 h (fun v134 hv135 h => ?_)
    refine J_goto C (tgt := 52) dX12_lands_30 (by decide) ?_
    exact J_sub [0, 1, 2, 4, 5, 6] rfl (pc9 v134 hv135 v7 hv8 h)
  · refine J_iload C 5 dX12_lands_33 5 rfl ?_
    refine J_iconst C dX12_lands_35 ?_
    refine J_icmp_ne C h5 rl_2 (tgt := 51) dX12_lands_36 (by decide) h (fun h c131 => ?_) (fun h c131 => ?_)
    · refine J_bipush C dX12_lands_39 (bp8 (by decide) (by decide)) ?_
      refine J_aload_n C 0 dX12_lands_41 rfl 0 rfl ?_
      refine J_getR C fl_RX12_19 oR_0 rfl dX12_lands_42 ?_
      refine J_iload_n C 1 dX12_lands_45 rfl 1 rfl ?_
      refine J_iald C aR_4 hσ dX12_lands_46 h (fun v127 hv128 h => ?_)
      refine J_imul C dX12_lands_47 h (fun v129 hv130 h => ?_)
      refine J_goto C (tgt := 52) dX12_lands_48 (by decide) ?_
      exact J_sub [0, 1, 2, 4, 5, 6] rfl (pc9 v129 hv130 v7 hv8 h)
    · refine J_iconst C dX12_lands_51 ?_
      exact J_sub [0, 1, 2, 4, 5, 6] rfl (pc9 0 rl_0 v7 hv8 h)
set_option maxRecDepth 100000 in
set_option maxHeartbeats 4000000 in
theorem wX12_isSafe_L3 {x : Ct} {g : Gm} (C : Cx x yR g 8 cX12_isSafe RX12 1 31) : ∀ (n : Nat) (x1 : Int) (h1 : rg x1) (x2 : Int) (h2 : rg x2) (x3 : Int) (h3 : rg x3) (x4 : Int) (h4 : rg x4) (x5 : Int) (h5 : rg x5) (σ : Sg) (hσ : wfS yR σ) (q : (Unit) ⊕ (Unit)) (h : fX12_isSafe_L3 n x1 x2 x3 x4 x5 σ = some q) (k0 : ∀ a : Unit, q = .inl a → J x yR g 8 76 [] [] σ) (k1 : ∀ a : Unit, q = .inr a → J x yR g 8 84 [] [] σ), J x yR g 8 3 [(0, .ref (gad g 0)), (1, vi x1), (2, vi x2), (3, vi x3), (4, vi x4), (5, vi x5)] [] σ := by
  intro n
  induction n with
  | zero =>
    intro x1 h1 x2 h2 x3 h3 x4 h4 x5 h5 σ hσ q h k0 k1
    exact absurd h (by intro z; cases z)
  | succ n ih =>
    intro x1 h1 x2 h2 x3 h3 x4 h4 x5 h5 σ hσ q h k0 k1
    rw [fX12_isSafe_L3] at h
    have pc6 : ∀ (x5 : Int) (h5 : rg x5), fX12_isSafe_L3P78 (fX12_isSafe_L3 n) x1 x2 x3 x4 x5 σ = some q → J x yR g 8 78 [(0, .ref (gad g 0)), (1, vi x1), (2, vi x2), (3, vi x3), (4, vi x4), (5, vi x5)] [] σ := by
      intro x5 h5 h
      unfold fX12_isSafe_L3P78 at h
      refine J_iinc C 5 5 dX12_isSafe_78 rfl (by decide) h (fun v7 hv8 h => ?_)
      refine J_goto C (tgt := 3) dX12_isSafe_81 (by decide) ?_
      exact J_sub [1, 2, 3, 4, 5, 0] rfl (ih x1 h1 x2 h2 x3 h3 x4 h4 v7 hv8 σ hσ q h k0 k1)
    have pc5 : ∀ (x5 : Int) (h5 : rg x5) (x7 : Int) (h7 : rg x7), fX12_isSafe_L3P60 (fX12_isSafe_L3 n) x1 x2 x3 x4 x5 x7 σ = some q → J x yR g 8 60 [(0, .ref (gad g 0)), (1, vi x1), (2, vi x2), (3, vi x3), (4, vi x4), (5, vi x5), (7, vi x7)] [] σ := by
      intro x5 h5 x7 h7 h
      unfold fX12_isSafe_L3P60 at h
      refine J_iload C 7 dX12_isSafe_60 6 rfl ?_
      refine J_if_lt C h7 (tgt := 78) dX12_isSafe_62 (by decide) h (fun h c14 => ?_) (fun h c14 => ?_)
      · exact J_sub [0, 1, 2, 3, 4, 5] rfl (pc6 x5 h5 h)
      · refine J_aload_n C 0 dX12_isSafe_65 rfl 0 rfl ?_
        refine J_getR C fl_RX12_9 oR_0 rfl dX12_isSafe_66 ?_
        refine J_iload C 7 dX12_isSafe_69 6 rfl ?_
        refine J_iald C aR_1 hσ dX12_isSafe_71 h (fun v11 hv12 h => ?_)
        refine J_iconst C dX12_isSafe_72 ?_
        refine J_icmp_ne C hv12 rl_2 (tgt := 78) dX12_isSafe_73 (by decide) h (fun h c13 => ?_) (fun h c13 => ?_)
        · have e9 := sE h
          exact J_sub [] rfl (k0 () e9.symm)
        · exact J_sub [0, 1, 2, 3, 4, 5] rfl (pc6 x5 h5 h)
    refine J_iload C 5 dX12_isSafe_3 5 rfl ?_
    refine J_iconst C dX12_isSafe_5 ?_
    refine J_icmp_ge C h5 rl_5 (tgt := 84) dX12_isSafe_6 (by decide) h (fun h c24 => ?_) (fun h c24 => ?_)
    · refine J_aload_n C 0 dX12_isSafe_9 rfl 0 rfl ?_
      refine J_iload_n C 1 dX12_isSafe_10 rfl 1 rfl ?_
      refine J_iload_n C 2 dX12_isSafe_11 rfl 2 rfl ?_
      refine J_iload_n C 3 dX12_isSafe_12 rfl 3 rfl ?_
      refine J_iload C 4 dX12_isSafe_13 4 rfl ?_
      refine J_iload C 5 dX12_isSafe_15 5 rfl ?_
      refine J_bipush C dX12_isSafe_17 (bp8 (by decide) (by decide)) ?_
      obtain ⟨q1, cq1, h⟩ := bdS h
      refine J_callV C mw_X12_lands ml_RX12_197 (m_X12_lands x.2.1 g (CxI C) x1 h1 x2 h2 x3 h3 x4 h4 x5 h5 10 rl_10 σ hσ q1 cq1) oR_0 rfl (Nat.le_of_ble_eq_true rfl) (Nat.le_of_ble_eq_true rfl) rfl rfl (Nat.le_of_ble_eq_true rfl) dX12_isSafe_19 (fun hz2 => ?_)
      refine J_istore (lo2 := [(6, vi q1), (0, .ref (gad g 0)), (1, vi x1), (2, vi x2), (3, vi x3), (4, vi x4), (5, vi x5)]) C 6 dX12_isSafe_22 (by decide) rfl ?_
      refine J_aload_n C 0 dX12_isSafe_24 rfl 1 rfl ?_
      refine J_iload_n C 1 dX12_isSafe_25 rfl 2 rfl ?_
      refine J_iload_n C 2 dX12_isSafe_26 rfl 3 rfl ?_
      refine J_iload_n C 3 dX12_isSafe_27 rfl 4 rfl ?_
      refine J_iload C 4 dX12_isSafe_28 5 rfl ?_
      refine J_iload C 5 dX12_isSafe_30 6 rfl ?_
      refine J_iconst C dX12_isSafe_32 ?_
      obtain ⟨q3, cq3, h⟩ := bdS h
      refine J_callV C mw_X12_lands ml_RX12_197 (m_X12_lands x.2.1 g (CxI C) x1 h1 x2 h2 x3 h3 x4 h4 x5 h5 5 rl_5 σ hσ q3 cq3) oR_0 rfl (Nat.le_of_ble_eq_true rfl) (Nat.le_of_ble_eq_true rfl) rfl rfl (Nat.le_of_ble_eq_true rfl) dX12_isSafe_33 (fun hz4 => ?_)
      refine J_istore (lo2 := [(7, vi q3), (6, vi q1), (0, .ref (gad g 0)), (1, vi x1), (2, vi x2), (3, vi x3), (4, vi x4), (5, vi x5)]) C 7 dX12_isSafe_36 (by decide) rfl ?_
      refine J_iload C 6 dX12_isSafe_38 1 rfl ?_
      refine J_bipush C dX12_isSafe_40 (bp8 (by decide) (by decide)) ?_
      refine J_icmp_eq C hz2 rl_m3 (tgt := 76) dX12_isSafe_42 (by decide) h (fun h c23 => ?_) (fun h c23 => ?_)
      · have e9 := sE h
        exact J_sub [] rfl (k0 () e9.symm)
      · refine J_iload C 6 dX12_isSafe_45 1 rfl ?_
        refine J_if_lt C hz2 (tgt := 60) dX12_isSafe_47 (by decide) h (fun h c22 => ?_) (fun h c22 => ?_)
        · exact J_sub [2, 3, 4, 5, 6, 7, 0] rfl (pc5 x5 h5 q3 hz4 h)
        · refine J_aload_n C 0 dX12_isSafe_50 rfl 2 rfl ?_
          refine J_getR C fl_RX12_9 oR_0 rfl dX12_isSafe_51 ?_
          refine J_iload C 6 dX12_isSafe_54 1 rfl ?_
          refine J_iald C aR_1 hσ dX12_isSafe_56 h (fun v19 hv20 h => ?_)
          refine J_if_ne C hv20 (tgt := 76) dX12_isSafe_57 (by decide) h (fun h c21 => ?_) (fun h c21 => ?_)
          · exact J_sub [2, 3, 4, 5, 6, 7, 0] rfl (pc5 x5 h5 q3 hz4 h)
          · have e9 := sE h
            exact J_sub [] rfl (k0 () e9.symm)
    · have e9 := sE h
      exact J_sub [] rfl (k1 () e9.symm)
set_option maxRecDepth 100000 in
set_option maxHeartbeats 4000000 in
theorem m_X12_isSafe (l : Launch) (g : Gm) (hg : gInj yR g) (x1 : Int) (h1 : rg x1) (x2 : Int) (h2 : rg x2) (x3 : Int) (h3 : rg x3) (x4 : Int) (h4 : rg x4) (σ : Sg) (hσ : wfS yR σ) (q : Int) (h : fX12_isSafe x1 x2 x3 x4 σ = some q) : CJ l yR g yX12_isSafe cX12_isSafe 8 (some .boolean) 1 31 [.ref (gad g 0), vi x1, vi x2, vi x3, vi x4] σ (some (vi q)) σ (q = 0 ∨ q = 1) := by
  refine CJ_of hg (by decide) rfl (Nat.le_of_ble_eq_true rfl) (lo := [(0, .ref (gad g 0)), (1, vi x1), (2, vi x2), (3, vi x3), (4, vi x4)]) rfl (fun x C E => ?_)
  unfold fX12_isSafe at h
  refine J_iconst C dX12_isSafe_0 ?_
  refine J_istore (lo2 := [(5, vi 0), (0, .ref (gad g 0)), (1, vi x1), (2, vi x2), (3, vi x3), (4, vi x4)]) C 5 dX12_isSafe_1 (by decide) rfl ?_
  obtain ⟨q25, cq25, h⟩ := bdS h
  refine J_sub [1, 2, 3, 4, 5, 0] rfl (wX12_isSafe_L3 C fu x1 h1 x2 h2 x3 h3 x4 h4 0 rl_0 σ hσ q25 cq25 (fun a26 ea26 => ?_) (fun a27 ea27 => ?_))
  · subst ea26
    have h := elL h
    refine J_iconst C dX12_isSafe_76 ?_
    have e9 := sE h
    subst e9
    exact J_zret C (Or.inl rfl) E (Or.inl rfl) dX12_isSafe_77
  · subst ea27
    have h := elR h
    refine J_iconst C dX12_isSafe_84 ?_
    have e9 := sE h
    subst e9
    exact J_zret C (Or.inr rfl) E (Or.inr rfl) dX12_isSafe_85
set_option maxRecDepth 100000 in
set_option maxHeartbeats 4000000 in
theorem m_X12_isLight (l : Launch) (g : Gm) (hg : gInj yR g) (x1 : Int) (h1 : rg x1) (x2 : Int) (h2 : rg x2) (x3 : Int) (h3 : rg x3) (x4 : Int) (h4 : rg x4) (σ : Sg) (hσ : wfS yR σ) (q : Int) (h : fX12_isLight x1 x2 x3 x4 σ = some q) : CJ l yR g yX12_isLight cX12_isLight 5 (some .boolean) 2 43 [.ref (gad g 0), vi x1, vi x2, vi x3, vi x4] σ (some (vi q)) σ (q = 0 ∨ q = 1) := by
  refine CJ_of hg (by decide) rfl (Nat.le_of_ble_eq_true rfl) (lo := [(0, .ref (gad g 0)), (1, vi x1), (2, vi x2), (3, vi x3), (4, vi x4)]) rfl (fun x C E => ?_)
  unfold fX12_isLight at h
  refine J_aload_n C 0 dX12_isLight_0 rfl 0 rfl ?_
  refine J_iload_n C 1 dX12_isLight_1 rfl 1 rfl ?_
  obtain ⟨q1, cq1, h⟩ := bdS h
  refine J_callV C mw_X12_isKind ml_RX12_190 (m_X12_isKind x.2.1 g (CxI C) x1 h1 σ hσ q1 cq1) oR_0 rfl (Nat.le_of_ble_eq_true rfl) (Nat.le_of_ble_eq_true rfl) rfl rfl (Nat.le_of_ble_eq_true rfl) dX12_isLight_2 (fun hz2 => ?_)
  refine J_if_eq C (rg01 hz2) (tgt := 40) dX12_isLight_5 (by decide) h (fun h c12 => ?_) (fun h c12 => ?_)
  · refine J_iconst C dX12_isLight_40 ?_
    have e9 := sE h
    subst e9
    exact J_zret C (Or.inl rfl) E (Or.inl rfl) dX12_isLight_41
  · refine J_aload_n C 0 dX12_isLight_8 rfl 0 rfl ?_
    refine J_iload_n C 2 dX12_isLight_9 rfl 2 rfl ?_
    obtain ⟨q3, cq3, h⟩ := bdS h
    refine J_callV C mw_X12_isBarge ml_RX12_186 (m_X12_isBarge x.2.1 g (CxI C) x2 h2 σ hσ q3 cq3) oR_0 rfl (Nat.le_of_ble_eq_true rfl) (Nat.le_of_ble_eq_true rfl) rfl rfl (Nat.le_of_ble_eq_true rfl) dX12_isLight_10 (fun hz4 => ?_)
    refine J_if_eq C (rg01 hz4) (tgt := 40) dX12_isLight_13 (by decide) h (fun h c11 => ?_) (fun h c11 => ?_)
    · refine J_iconst C dX12_isLight_40 ?_
      have e9 := sE h
      subst e9
      exact J_zret C (Or.inl rfl) E (Or.inl rfl) dX12_isLight_41
    · refine J_iload_n C 3 dX12_isLight_16 rfl 3 rfl ?_
      refine J_bipush C dX12_isLight_17 (bp8 (by decide) (by decide)) ?_
      refine J_iconst C dX12_isLight_19 ?_
      obtain ⟨q5, cq5, h⟩ := bdS h
      refine J_callS C mw_X12_isIn ml_RX12_177 (m_X12_isIn x.2.1 g (CxI C) x3 h3 (-4) rl_m4 4 rl_4 σ hσ q5 cq5) (Nat.le_of_ble_eq_true rfl) (Nat.le_of_ble_eq_true rfl) rfl rfl (Nat.le_of_ble_eq_true rfl) dX12_isLight_20 (fun hz6 => ?_)
      refine J_if_eq C (rg01 hz6) (tgt := 40) dX12_isLight_23 (by decide) h (fun h c10 => ?_) (fun h c10 => ?_)
      · refine J_iconst C dX12_isLight_40 ?_
        have e9 := sE h
        subst e9
        exact J_zret C (Or.inl rfl) E (Or.inl rfl) dX12_isLight_41
      · refine J_iload C 4 dX12_isLight_26 4 rfl ?_
        refine J_iconst C dX12_isLight_28 ?_
        refine J_iconst C dX12_isLight_29 ?_
        obtain ⟨q7, cq7, h⟩ := bdS h
        refine J_callS C mw_X12_isIn ml_RX12_177 (m_X12_isIn x.2.1 g (CxI C) x4 h4 0 rl_0 3 rl_3 σ hσ q7 cq7) (Nat.le_of_ble_eq_true rfl) (Nat.le_of_ble_eq_true rfl) rfl rfl (Nat.le_of_ble_eq_true rfl) dX12_isLight_30 (fun hz8 => ?_)
        refine J_if_eq C (rg01 hz8) (tgt := 40) dX12_isLight_33 (by decide) h (fun h c9 => ?_) (fun h c9 => ?_)
        · refine J_iconst C dX12_isLight_40 ?_
          have e9 := sE h
          subst e9
          exact J_zret C (Or.inl rfl) E (Or.inl rfl) dX12_isLight_41
        · refine J_iconst C dX12_isLight_36 ?_
          refine J_goto C (tgt := 41) dX12_isLight_37 (by decide) ?_
          have e9 := sE h
          subst e9
          exact J_zret C (Or.inr rfl) E (Or.inr rfl) dX12_isLight_41
set_option maxRecDepth 100000 in
set_option maxHeartbeats 4000000 in
theorem m_X12_safe (l : Launch) (g : Gm) (hg : gInj yR g) (x1 : Int) (h1 : rg x1) (x2 : Int) (h2 : rg x2) (x3 : Int) (h3 : rg x3) (x4 : Int) (h4 : rg x4) (σ : Sg) (hσ : wfS yR σ) (q : Int) (h : fX12_safe x1 x2 x3 x4 σ = some q) : CJ l yR g yX12_safe cX12_safe 5 (some .int) 3 67 [.ref (gad g 0), vi x1, vi x2, vi x3, vi x4] σ (some (vi q)) σ (rg q) := by
  refine CJ_of hg (by decide) rfl (Nat.le_of_ble_eq_true rfl) (lo := [(0, .ref (gad g 0)), (1, vi x1), (2, vi x2), (3, vi x3), (4, vi x4)]) rfl (fun x C E => ?_)
  unfold fX12_safe at h
  refine J_aload_n C 0 dX12_safe_0 rfl 0 rfl ?_
  refine J_iload_n C 1 dX12_safe_1 rfl 1 rfl ?_
  refine J_iload_n C 2 dX12_safe_2 rfl 2 rfl ?_
  refine J_iload_n C 3 dX12_safe_3 rfl 3 rfl ?_
  refine J_iload C 4 dX12_safe_4 4 rfl ?_
  obtain ⟨q1, cq1, h⟩ := bdS h
  refine J_callV C mw_X12_isLight ml_RX12_201 (m_X12_isLight x.2.1 g (CxI C) x1 h1 x2 h2 x3 h3 x4 h4 σ hσ q1 cq1) oR_0 rfl (Nat.le_of_ble_eq_true rfl) (Nat.le_of_ble_eq_true rfl) rfl rfl (Nat.le_of_ble_eq_true rfl) dX12_safe_6 (fun hz2 => ?_)
  refine J_if_eq C (rg01 hz2) (tgt := 32) dX12_safe_9 (by decide) h (fun h c6 => ?_) (fun h c6 => ?_)
  · refine J_iconst C dX12_safe_32 ?_
    have e9 := sE h
    subst e9
    exact J_iret C E rl_m1 dX12_safe_33
  · refine J_aload_n C 0 dX12_safe_12 rfl 0 rfl ?_
    refine J_iload_n C 1 dX12_safe_13 rfl 1 rfl ?_
    refine J_iload_n C 2 dX12_safe_14 rfl 2 rfl ?_
    refine J_iload_n C 3 dX12_safe_15 rfl 3 rfl ?_
    refine J_iload C 4 dX12_safe_16 4 rfl ?_
    obtain ⟨q3, cq3, h⟩ := bdS h
    refine J_callV C mw_X12_isSafe ml_RX12_205 (m_X12_isSafe x.2.1 g (CxI C) x1 h1 x2 h2 x3 h3 x4 h4 σ hσ q3 cq3) oR_0 rfl (Nat.le_of_ble_eq_true rfl) (Nat.le_of_ble_eq_true rfl) rfl rfl (Nat.le_of_ble_eq_true rfl) dX12_safe_18 (fun hz4 => ?_)
    refine J_if_eq C (rg01 hz4) (tgt := 28) dX12_safe_21 (by decide) h (fun h c5 => ?_) (fun h c5 => ?_)
    · refine J_iconst C dX12_safe_28 ?_
      refine J_goto C (tgt := 33) dX12_safe_29 (by decide) ?_
      have e9 := sE h
      subst e9
      exact J_iret C E rl_0 dX12_safe_33
    · refine J_iconst C dX12_safe_24 ?_
      refine J_goto C (tgt := 33) dX12_safe_25 (by decide) ?_
      have e9 := sE h
      subst e9
      exact J_iret C E rl_1 dX12_safe_33
set_option maxRecDepth 100000 in
set_option maxHeartbeats 4000000 in
theorem m_X12_hot (l : Launch) (g : Gm) (hg : gInj yR g) (x1 : Int) (h1 : rg x1) (x2 : Int) (h2 : rg x2) (x3 : Int) (h3 : rg x3) (x4 : Int) (h4 : rg x4) (x5 : Int) (h5 : rg x5) (σ : Sg) (hσ : wfS yR σ) (q : Int) (h : fX12_hot x1 x2 x3 x4 x5 σ = some q) : CJ l yR g yX12_hot cX12_hot 6 (some .int) 3 67 [.ref (gad g 0), vi x1, vi x2, vi x3, vi x4, vi x5] σ (some (vi q)) σ (rg q) := by
  refine CJ_of hg (by decide) rfl (Nat.le_of_ble_eq_true rfl) (lo := [(0, .ref (gad g 0)), (1, vi x1), (2, vi x2), (3, vi x3), (4, vi x4), (5, vi x5)]) rfl (fun x C E => ?_)
  unfold fX12_hot at h
  refine J_aload_n C 0 dX12_hot_0 rfl 0 rfl ?_
  refine J_iload_n C 1 dX12_hot_1 rfl 1 rfl ?_
  refine J_iload_n C 2 dX12_hot_2 rfl 2 rfl ?_
  refine J_iload_n C 3 dX12_hot_3 rfl 3 rfl ?_
  refine J_iload C 4 dX12_hot_4 4 rfl ?_
  obtain ⟨q1, cq1, h⟩ := bdS h
  refine J_callV C mw_X12_isLight ml_RX12_201 (m_X12_isLight x.2.1 g (CxI C) x1 h1 x2 h2 x3 h3 x4 h4 σ hσ q1 cq1) oR_0 rfl (Nat.le_of_ble_eq_true rfl) (Nat.le_of_ble_eq_true rfl) rfl rfl (Nat.le_of_ble_eq_true rfl) dX12_hot_6 (fun hz2 => ?_)
  refine J_if_eq C (rg01 hz2) (tgt := 38) dX12_hot_9 (by decide) h (fun h c8 => ?_) (fun h c8 => ?_)
  · refine J_iconst C dX12_hot_38 ?_
    have e9 := sE h
    subst e9
    exact J_iret C E rl_m1 dX12_hot_39
  · refine J_iload C 5 dX12_hot_12 5 rfl ?_
    refine J_iconst C dX12_hot_14 ?_
    refine J_iconst C dX12_hot_15 ?_
    obtain ⟨q3, cq3, h⟩ := bdS h
    refine J_callS C mw_X12_isIn ml_RX12_177 (m_X12_isIn x.2.1 g (CxI C) x5 h5 0 rl_0 4 rl_4 σ hσ q3 cq3) (Nat.le_of_ble_eq_true rfl) (Nat.le_of_ble_eq_true rfl) rfl rfl (Nat.le_of_ble_eq_true rfl) dX12_hot_16 (fun hz4 => ?_)
    refine J_if_eq C (rg01 hz4) (tgt := 38) dX12_hot_19 (by decide) h (fun h c7 => ?_) (fun h c7 => ?_)
    · refine J_iconst C dX12_hot_38 ?_
      have e9 := sE h
      subst e9
      exact J_iret C E rl_m1 dX12_hot_39
    · refine J_aload_n C 0 dX12_hot_22 rfl 0 rfl ?_
      refine J_iload_n C 1 dX12_hot_23 rfl 1 rfl ?_
      refine J_iload_n C 2 dX12_hot_24 rfl 2 rfl ?_
      refine J_iload_n C 3 dX12_hot_25 rfl 3 rfl ?_
      refine J_iload C 4 dX12_hot_26 4 rfl ?_
      refine J_iload C 5 dX12_hot_28 5 rfl ?_
      refine J_bipush C dX12_hot_30 (bp8 (by decide) (by decide)) ?_
      obtain ⟨q5, cq5, h⟩ := bdS h
      refine J_callV C mw_X12_lands ml_RX12_197 (m_X12_lands x.2.1 g (CxI C) x1 h1 x2 h2 x3 h3 x4 h4 x5 h5 10 rl_10 σ hσ q5 cq5) oR_0 rfl (Nat.le_of_ble_eq_true rfl) (Nat.le_of_ble_eq_true rfl) rfl rfl (Nat.le_of_ble_eq_true rfl) dX12_hot_32 (fun hz6 => ?_)
      refine J_goto C (tgt := 39) dX12_hot_35 (by decide) ?_
      have e9 := sE h
      subst e9
      exact J_iret C E hz6 dX12_hot_39
set_option maxRecDepth 100000 in
set_option maxHeartbeats 4000000 in
theorem m_X12_word (l : Launch) (g : Gm) (hg : gInj yR g) (x1 : Int) (h1 : rg x1) (x2 : Int) (h2 : rg x2) (σ : Sg) (hσ : wfS yR σ) (q : Int) (h : fX12_word x1 x2 σ = some q) : CJ l yR g yX12_word cX12_word 3 (some .int) 0 0 [.ref (gad g 0), vi x1, vi x2] σ (some (vi q)) σ (rg q) := by
  refine CJ_of hg (by decide) rfl (Nat.le_of_ble_eq_true rfl) (lo := [(0, .ref (gad g 0)), (1, vi x1), (2, vi x2)]) rfl (fun x C E => ?_)
  unfold fX12_word at h
  refine J_aload_n C 0 dX12_word_0 rfl 0 rfl ?_
  refine J_getR C fl_RX12_100 oR_0 rfl dX12_word_1 ?_
  refine J_bipush C dX12_word_4 (bp8 (by decide) (by decide)) ?_
  refine J_iload_n C 1 dX12_word_6 rfl 1 rfl ?_
  refine J_imul C dX12_word_7 h (fun v1 hv2 h => ?_)
  refine J_iload_n C 2 dX12_word_8 rfl 2 rfl ?_
  refine J_iadd C dX12_word_9 h (fun v3 hv4 h => ?_)
  refine J_lald C aR_31 dX12_word_10 h (fun v5 h => ?_)
  refine J_l2i C dX12_word_11 ?_
  have e9 := sE h
  subst e9
  exact J_iret C E (rg_toInt _) dX12_word_12
set_option maxRecDepth 100000 in
set_option maxHeartbeats 4000000 in
theorem m_X12_makes (l : Launch) (g : Gm) (hg : gInj yR g) (x1 : Int) (h1 : rg x1) (x2 : Int) (h2 : rg x2) (x3 : Int) (h3 : rg x3) (x4 : Int) (h4 : rg x4) (σ : Sg) (hσ : wfS yR σ) (q : Int × Sg) (h : fX12_makes x1 x2 x3 x4 σ = some q) : CJ l yR g yX12_makes cX12_makes 5 (some .boolean) 0 0 [.ref (gad g 0), vi x1, vi x2, vi x3, vi x4] σ (some (vi q.1)) q.2 ((q.1 = 0 ∨ q.1 = 1) ∧ wfS yR q.2) := by
  refine CJ_of hg (by decide) rfl (Nat.le_of_ble_eq_true rfl) (lo := [(0, .ref (gad g 0)), (1, vi x1), (2, vi x2), (3, vi x3), (4, vi x4)]) rfl (fun x C E => ?_)
  unfold fX12_makes at h
  refine J_iload_n C 1 dX12_makes_0 rfl 1 rfl ?_
  refine J_aload_n C 0 dX12_makes_1 rfl 0 rfl ?_
  refine J_getR C fl_RX12_13 oR_0 rfl dX12_makes_2 ?_
  refine J_iload_n C 2 dX12_makes_5 rfl 2 rfl ?_
  refine J_iald C aR_2 hσ dX12_makes_6 h (fun v1 hv2 h => ?_)
  refine J_icmp_lt C h1 hv2 (tgt := 26) dX12_makes_7 (by decide) h (fun h c17 => ?_) (fun h c17 => ?_)
  · refine J_iconst C dX12_makes_26 ?_
    have e9 := sE h
    subst e9
    exact J_zret C (Or.inl rfl) E ⟨(Or.inl rfl), hσ⟩ dX12_makes_27
  · refine J_iload_n C 1 dX12_makes_10 rfl 1 rfl ?_
    refine J_sipush C dX12_makes_11 (bp16 (by decide) (by decide)) ?_
    refine J_icmp_gt C h1 rl_20000 (tgt := 26) dX12_makes_14 (by decide) h (fun h c16 => ?_) (fun h c16 => ?_)
    · refine J_aload_n C 0 dX12_makes_17 rfl 0 rfl ?_
      refine J_getI C fl_RX12_208 oR_0 rfl dX12_makes_18 ?_
      refine J_bipush C dX12_makes_21 (bp8 (by decide) (by decide)) ?_
      refine J_icmp_ne C (hσ 0 39 lR_0) rl_120 (tgt := 28) dX12_makes_23 (by decide) h (fun h c15 => ?_) (fun h c15 => ?_)
      · refine J_iconst C dX12_makes_26 ?_
        have e9 := sE h
        subst e9
        exact J_zret C (Or.inl rfl) E ⟨(Or.inl rfl), hσ⟩ dX12_makes_27
      · refine J_aload_n C 0 dX12_makes_28 rfl 0 rfl ?_
        refine J_getR C fl_RX12_61 oR_0 rfl dX12_makes_29 ?_
        refine J_aload_n C 0 dX12_makes_32 rfl 0 rfl ?_
        refine J_getI C fl_RX12_208 oR_0 rfl dX12_makes_33 ?_
        refine J_iload_n C 1 dX12_makes_36 rfl 1 rfl ?_
        refine J_iast C aR_18 hσ h1 dX12_makes_37 h (fun σ3 hσ4 h => ?_)
        refine J_aload_n C 0 dX12_makes_38 rfl 0 rfl ?_
        refine J_getR C fl_RX12_64 oR_0 rfl dX12_makes_39 ?_
        refine J_aload_n C 0 dX12_makes_42 rfl 0 rfl ?_
        refine J_getI C fl_RX12_208 oR_0 rfl dX12_makes_43 ?_
        refine J_iload_n C 2 dX12_makes_46 rfl 2 rfl ?_
        refine J_iast C aR_19 hσ4 h2 dX12_makes_47 h (fun σ5 hσ6 h => ?_)
        refine J_aload_n C 0 dX12_makes_48 rfl 0 rfl ?_
        refine J_getR C fl_RX12_67 oR_0 rfl dX12_makes_49 ?_
        refine J_aload_n C 0 dX12_makes_52 rfl 0 rfl ?_
        refine J_getI C fl_RX12_208 oR_0 rfl dX12_makes_53 ?_
        refine J_iload_n C 3 dX12_makes_56 rfl 3 rfl ?_
        refine J_iast C aR_20 hσ6 h3 dX12_makes_57 h (fun σ7 hσ8 h => ?_)
        refine J_aload_n C 0 dX12_makes_58 rfl 0 rfl ?_
        refine J_getR C fl_RX12_70 oR_0 rfl dX12_makes_59 ?_
        refine J_aload_n C 0 dX12_makes_62 rfl 0 rfl ?_
        refine J_getI C fl_RX12_208 oR_0 rfl dX12_makes_63 ?_
        refine J_iload C 4 dX12_makes_66 4 rfl ?_
        refine J_iast C aR_21 hσ8 h4 dX12_makes_68 h (fun σ9 hσ10 h => ?_)
        refine J_aload_n C 0 dX12_makes_69 rfl 0 rfl ?_
        refine J_dup C rfl dX12_makes_70 ?_
        refine J_getI C fl_RX12_208 oR_0 rfl dX12_makes_71 ?_
        refine J_iconst C dX12_makes_74 ?_
        refine J_iadd C dX12_makes_75 h (fun v11 hv12 h => ?_)
        refine J_putI C fl_RX12_208 fp_RX12_39 oR_0 rfl rfl lR_0 hσ10 hv12 dX12_makes_76 h (fun σ13 hσ14 h => ?_)
        refine J_iconst C dX12_makes_79 ?_
        have e9 := sE h
        subst e9
        exact J_zret C (Or.inr rfl) E ⟨(Or.inr rfl), hσ14⟩ dX12_makes_80
    · refine J_iconst C dX12_makes_26 ?_
      have e9 := sE h
      subst e9
      exact J_zret C (Or.inl rfl) E ⟨(Or.inl rfl), hσ⟩ dX12_makes_27
set_option maxRecDepth 100000 in
set_option maxHeartbeats 4000000 in
theorem m_X12_numbers (l : Launch) (g : Gm) (hg : gInj yR g) (x0 : Int) (h0 : rg x0) (σ : Sg) (hσ : wfS yR σ) (q : Int) (h : fX12_numbers x0 σ = some q) : CJ l yR g yX12_numbers cX12_numbers 1 (some .int) 0 0 [vi x0] σ (some (vi q)) σ (rg q) := by
  refine CJ_of hg (by decide) rfl (Nat.le_of_ble_eq_true rfl) (lo := [(0, vi x0)]) rfl (fun x C E => ?_)
  unfold fX12_numbers at h
  have pc1 : fX12_numbers_P10  σ = some q → J x yR g 1 10 [] [] σ := by
    intro h
    unfold fX12_numbers_P10 at h
    refine J_iconst C dX12_numbers_10 ?_
    refine J_goto C (tgt := 50) dX12_numbers_11 (by decide) ?_
    have e9 := sE h
    subst e9
    exact J_iret C E rl_3 dX12_numbers_50
  have pc2 : fX12_numbers_P24  σ = some q → J x yR g 1 24 [] [] σ := by
    intro h
    unfold fX12_numbers_P24 at h
    refine J_iconst C dX12_numbers_24 ?_
    refine J_goto C (tgt := 50) dX12_numbers_25 (by decide) ?_
    have e9 := sE h
    subst e9
    exact J_iret C E rl_4 dX12_numbers_50
  have pc3 : fX12_numbers_P45  σ = some q → J x yR g 1 45 [] [] σ := by
    intro h
    unfold fX12_numbers_P45 at h
    refine J_iconst C dX12_numbers_45 ?_
    refine J_goto C (tgt := 50) dX12_numbers_46 (by decide) ?_
    have e9 := sE h
    subst e9
    exact J_iret C E rl_1 dX12_numbers_50
  refine J_iload_n C 0 dX12_numbers_0 rfl 0 rfl ?_
  refine J_iconst C dX12_numbers_1 ?_
  refine J_icmp_eq C h0 rl_1 (tgt := 10) dX12_numbers_2 (by decide) h (fun h c10 => ?_) (fun h c10 => ?_)
  · exact J_sub [] rfl (pc1  h)
  · refine J_iload_n C 0 dX12_numbers_5 rfl 0 rfl ?_
    refine J_iconst C dX12_numbers_6 ?_
    refine J_icmp_ne C h0 rl_3 (tgt := 14) dX12_numbers_7 (by decide) h (fun h c9 => ?_) (fun h c9 => ?_)
    · exact J_sub [] rfl (pc1  h)
    · refine J_iload_n C 0 dX12_numbers_14 rfl 0 rfl ?_
      refine J_iconst C dX12_numbers_15 ?_
      refine J_icmp_eq C h0 rl_4 (tgt := 24) dX12_numbers_16 (by decide) h (fun h c8 => ?_) (fun h c8 => ?_)
      · exact J_sub [] rfl (pc2  h)
      · refine J_iload_n C 0 dX12_numbers_19 rfl 0 rfl ?_
        refine J_iconst C dX12_numbers_20 ?_
        refine J_icmp_ne C h0 rl_5 (tgt := 28) dX12_numbers_21 (by decide) h (fun h c7 => ?_) (fun h c7 => ?_)
        · exact J_sub [] rfl (pc2  h)
        · refine J_iload_n C 0 dX12_numbers_28 rfl 0 rfl ?_
          refine J_iconst C dX12_numbers_29 ?_
          refine J_icmp_eq C h0 rl_2 (tgt := 45) dX12_numbers_30 (by decide) h (fun h c6 => ?_) (fun h c6 => ?_)
          · exact J_sub [] rfl (pc3  h)
          · refine J_iload_n C 0 dX12_numbers_33 rfl 0 rfl ?_
            refine J_bipush C dX12_numbers_34 (bp8 (by decide) (by decide)) ?_
            refine J_icmp_eq C h0 rl_6 (tgt := 45) dX12_numbers_36 (by decide) h (fun h c5 => ?_) (fun h c5 => ?_)
            · exact J_sub [] rfl (pc3  h)
            · refine J_iload_n C 0 dX12_numbers_39 rfl 0 rfl ?_
              refine J_bipush C dX12_numbers_40 (bp8 (by decide) (by decide)) ?_
              refine J_icmp_ne C h0 rl_8 (tgt := 49) dX12_numbers_42 (by decide) h (fun h c4 => ?_) (fun h c4 => ?_)
              · exact J_sub [] rfl (pc3  h)
              · refine J_iconst C dX12_numbers_49 ?_
                have e9 := sE h
                subst e9
                exact J_iret C E rl_0 dX12_numbers_50
set_option maxRecDepth 100000 in
set_option maxHeartbeats 4000000 in
theorem wX12_cuesBy_L280 {x : Ct} {g : Gm} (C : Cx x yR g 11 cX12_cuesBy RX12 2 43) : ∀ (n : Nat) (x4 : Int) (h4 : rg x4) (x6 : Int) (h6 : rg x6) (x7 : Int) (h7 : rg x7) (x8 : Int) (h8 : rg x8) (x9 : Int) (h9 : rg x9) (x10 : Int) (h10 : rg x10) (σ : Sg) (hσ : wfS yR σ) (q : (Sg) ⊕ (Sg)) (h : fX12_cuesBy_L280 n x4 x6 x7 x8 x9 x10 σ = some q) (k0 : ∀ a : Sg, q = .inl a → wfS yR a → J x yR g 11 313 [] [] a) (k1 : ∀ a : Sg, q = .inr a → wfS yR a → J x yR g 11 332 [] [] a), J x yR g 11 280 [(0, .ref (gad g 0)), (4, vi x4), (6, vi x6), (7, vi x7), (8, vi x8), (9, vi x9), (10, vi x10)] [] σ := by
  intro n
  induction n with
  | zero =>
    intro x4 h4 x6 h6 x7 h7 x8 h8 x9 h9 x10 h10 σ hσ q h k0 k1
    exact absurd h (by intro z; cases z)
  | succ n ih =>
    intro x4 h4 x6 h6 x7 h7 x8 h8 x9 h9 x10 h10 σ hσ q h k0 k1
    rw [fX12_cuesBy_L280] at h
    refine J_iload C 10 dX12_cuesBy_280 6 rfl ?_
    refine J_iload C 6 dX12_cuesBy_282 2 rfl ?_
    refine J_iload C 8 dX12_cuesBy_284 4 rfl ?_
    refine J_iadd C dX12_cuesBy_286 h (fun v36 hv37 h => ?_)
    refine J_icmp_eq C h10 hv37 (tgt := 332) dX12_cuesBy_287 (by decide) h (fun h c48 => ?_) (fun h c48 => ?_)
    · have e9 := sE h
      exact J_sub [] rfl (k1 σ e9.symm hσ)
    · refine J_aload_n C 0 dX12_cuesBy_290 rfl 0 rfl ?_
      refine J_iload C 10 dX12_cuesBy_291 6 rfl ?_
      obtain ⟨q38, cq38, h⟩ := bdS h
      refine J_callV C mw_X12_isBarge ml_RX12_186 (m_X12_isBarge x.2.1 g (CxI C) x10 h10 σ hσ q38 cq38) oR_0 rfl (Nat.le_of_ble_eq_true rfl) (Nat.le_of_ble_eq_true rfl) rfl rfl (Nat.le_of_ble_eq_true rfl) dX12_cuesBy_293 (fun hz39 => ?_)
      refine J_if_eq C (rg01 hz39) (tgt := 313) dX12_cuesBy_296 (by decide) h (fun h c47 => ?_) (fun h c47 => ?_)
      · have e9 := sE h
        exact J_sub [] rfl (k0 σ e9.symm hσ)
      · refine J_aload_n C 0 dX12_cuesBy_299 rfl 0 rfl ?_
        refine J_iload C 9 dX12_cuesBy_300 5 rfl ?_
        refine J_iload C 4 dX12_cuesBy_302 1 rfl ?_
        refine J_iload C 10 dX12_cuesBy_304 6 rfl ?_
        refine J_iconst C dX12_cuesBy_306 ?_
        obtain ⟨q40, cq40, h⟩ := bdS h
        refine J_callV C mw_X12_makes ml_RX12_215 (m_X12_makes x.2.1 g (CxI C) x9 h9 x4 h4 x10 h10 0 rl_0 σ hσ q40 cq40) oR_0 rfl (Nat.le_of_ble_eq_true rfl) (Nat.le_of_ble_eq_true rfl) rfl rfl (Nat.le_of_ble_eq_true rfl) dX12_cuesBy_307 (fun hz41 => ?_)
        refine J_if_ne C (rg01 hz41.1) (tgt := 315) dX12_cuesBy_310 (by decide) h (fun h c46 => ?_) (fun h c46 => ?_)
        · have e9 := sE h
          exact J_sub [] rfl (k0 q40.2 e9.symm hz41.2)
        · refine J_iload C 9 dX12_cuesBy_315 5 rfl ?_
          refine J_iload C 7 dX12_cuesBy_317 3 rfl ?_
          refine J_iadd C dX12_cuesBy_319 h (fun v42 hv43 h => ?_)
          refine J_istore (lo2 := [(9, vi v42), (0, .ref (gad g 0)), (4, vi x4), (6, vi x6), (7, vi x7), (8, vi x8), (10, vi x10)]) C 9 dX12_cuesBy_320 (by decide) rfl ?_
          refine J_iload C 10 dX12_cuesBy_322 6 rfl ?_
          refine J_iload C 8 dX12_cuesBy_324 5 rfl ?_
          refine J_iadd C dX12_cuesBy_326 h (fun v44 hv45 h => ?_)
          refine J_istore (lo2 := [(10, vi v44), (9, vi v42), (0, .ref (gad g 0)), (4, vi x4), (6, vi x6), (7, vi x7), (8, vi x8)]) C 10 dX12_cuesBy_327 (by decide) rfl ?_
          refine J_goto C (tgt := 280) dX12_cuesBy_329 (by decide) ?_
          exact J_sub [2, 3, 4, 5, 6, 1, 0] rfl (ih x4 h4 x6 h6 x7 h7 x8 h8 v42 hv43 v44 hv45 q40.2 hz41.2 q h k0 k1)
set_option maxRecDepth 100000 in
set_option maxHeartbeats 4000000 in
theorem wX12_cuesBy_L124 {x : Ct} {g : Gm} (C : Cx x yR g 11 cX12_cuesBy RX12 2 43) : ∀ (n : Nat) (x3 : Int) (h3 : rg x3) (x4 : Int) (h4 : rg x4) (x5 : Int) (h5 : rg x5) (x6 : Int) (h6 : rg x6) (x7 : Int) (h7 : rg x7) (σ : Sg) (hσ : wfS yR σ) (q : (Sg) ⊕ (Sg)) (h : fX12_cuesBy_L124 n x3 x4 x5 x6 x7 σ = some q) (k0 : ∀ a : Sg, q = .inl a → wfS yR a → J x yR g 11 152 [] [] a) (k1 : ∀ a : Sg, q = .inr a → wfS yR a → J x yR g 11 160 [] [] a), J x yR g 11 124 [(0, .ref (gad g 0)), (3, vi x3), (4, vi x4), (5, vi x5), (6, vi x6), (7, vi x7)] [] σ := by
  intro n
  induction n with
  | zero =>
    intro x3 h3 x4 h4 x5 h5 x6 h6 x7 h7 σ hσ q h k0 k1
    exact absurd h (by intro z; cases z)
  | succ n ih =>
    intro x3 h3 x4 h4 x5 h5 x6 h6 x7 h7 σ hσ q h k0 k1
    rw [fX12_cuesBy_L124] at h
    refine J_iload C 7 dX12_cuesBy_124 5 rfl ?_
    refine J_iload C 6 dX12_cuesBy_126 4 rfl ?_
    refine J_icmp_ge C h7 h6 (tgt := 160) dX12_cuesBy_128 (by decide) h (fun h c88 => ?_) (fun h c88 => ?_)
    · refine J_aload_n C 0 dX12_cuesBy_131 rfl 0 rfl ?_
      refine J_iload_n C 3 dX12_cuesBy_132 rfl 1 rfl ?_
      refine J_iload C 4 dX12_cuesBy_133 2 rfl ?_
      refine J_iload C 5 dX12_cuesBy_135 3 rfl ?_
      refine J_iconst C dX12_cuesBy_137 ?_
      refine J_iload C 7 dX12_cuesBy_138 5 rfl ?_
      refine J_imul C dX12_cuesBy_140 h (fun v77 hv78 h => ?_)
      refine J_iload C 6 dX12_cuesBy_141 4 rfl ?_
      refine J_iconst C dX12_cuesBy_143 ?_
      refine J_isub C dX12_cuesBy_144 h (fun v79 hv80 h => ?_)
      refine J_isub C dX12_cuesBy_145 h (fun v81 hv82 h => ?_)
      obtain ⟨q83, cq83, h⟩ := bdS h
      refine J_callV C mw_X12_makes ml_RX12_215 (m_X12_makes x.2.1 g (CxI C) x3 h3 x4 h4 x5 h5 v81 hv82 σ hσ q83 cq83) oR_0 rfl (Nat.le_of_ble_eq_true rfl) (Nat.le_of_ble_eq_true rfl) rfl rfl (Nat.le_of_ble_eq_true rfl) dX12_cuesBy_146 (fun hz84 => ?_)
      refine J_if_ne C (rg01 hz84.1) (tgt := 154) dX12_cuesBy_149 (by decide) h (fun h c87 => ?_) (fun h c87 => ?_)
      · have e9 := sE h
        exact J_sub [] rfl (k0 q83.2 e9.symm hz84.2)
      · refine J_iinc C 7 5 dX12_cuesBy_154 rfl (by decide) h (fun v85 hv86 h => ?_)
        refine J_goto C (tgt := 124) dX12_cuesBy_157 (by decide) ?_
        exact J_sub [1, 2, 3, 4, 5, 0] rfl (ih x3 h3 x4 h4 x5 h5 x6 h6 v85 hv86 q83.2 hz84.2 q h k0 k1)
    · have e9 := sE h
      exact J_sub [] rfl (k1 σ e9.symm hσ)
set_option maxRecDepth 100000 in
set_option maxHeartbeats 4000000 in
theorem m_X12_cuesBy (l : Launch) (g : Gm) (hg : gInj yR g) (x1 : Int) (h1 : rg x1) (x2 : Int) (h2 : rg x2) (x3 : Int) (h3 : rg x3) (σ : Sg) (hσ : wfS yR σ) (q : Int × Sg) (h : fX12_cuesBy x1 x2 x3 σ = some q) : CJ l yR g yX12_cuesBy cX12_cuesBy 11 (some .boolean) 2 43 [.ref (gad g 0), vi x1, vi x2, vi x3] σ (some (vi q.1)) q.2 ((q.1 = 0 ∨ q.1 = 1) ∧ wfS yR q.2) := by
  refine CJ_of hg (by decide) rfl (Nat.le_of_ble_eq_true rfl) (lo := [(0, .ref (gad g 0)), (1, vi x1), (2, vi x2), (3, vi x3)]) rfl (fun x C E => ?_)
  unfold fX12_cuesBy at h
  have pc35 : ∀ (x4 : Int) (h4 : rg x4) (x5 : Int) (h5 : rg x5) (x6 : Int) (h6 : rg x6) (x7 : Int) (h7 : rg x7) (y0 : Int) (g0 : rg y0) (σ : Sg) (hσ : wfS yR σ), fX12_cuesBy_P271 x3 x4 x5 x6 x7 y0 σ = some q → J x yR g 11 271 [(0, .ref (gad g 0)), (3, vi x3), (4, vi x4), (5, vi x5), (6, vi x6), (7, vi x7)] [vi y0] σ := by
    intro x4 h4 x5 h5 x6 h6 x7 h7 y0 g0 σ hσ h
    unfold fX12_cuesBy_P271 at h
    refine J_istore (lo2 := [(8, vi y0), (0, .ref (gad g 0)), (3, vi x3), (4, vi x4), (5, vi x5), (6, vi x6), (7, vi x7)]) C 8 dX12_cuesBy_271 (by decide) rfl ?_
    refine J_iload_n C 3 dX12_cuesBy_273 rfl 2 rfl ?_
    refine J_istore (lo2 := [(9, vi x3), (8, vi y0), (0, .ref (gad g 0)), (3, vi x3), (4, vi x4), (5, vi x5), (6, vi x6), (7, vi x7)]) C 9 dX12_cuesBy_274 (by decide) rfl ?_
    refine J_iload C 5 dX12_cuesBy_276 5 rfl ?_
    refine J_istore (lo2 := [(10, vi x5), (9, vi x3), (8, vi y0), (0, .ref (gad g 0)), (3, vi x3), (4, vi x4), (5, vi x5), (6, vi x6), (7, vi x7)]) C 10 dX12_cuesBy_278 (by decide) rfl ?_
    obtain ⟨q49, cq49, h⟩ := bdS h
    refine J_sub [3, 5, 7, 8, 2, 1, 0] rfl (wX12_cuesBy_L280 C fu x4 h4 x6 h6 x7 h7 y0 g0 x3 h3 x5 h5 σ hσ q49 cq49 (fun a50 ea50 hσ51 => ?_) (fun a52 ea52 hσ53 => ?_))
    · subst ea50
      have h := elL h
      refine J_iconst C dX12_cuesBy_313 ?_
      have e9 := sE h
      subst e9
      exact J_zret C (Or.inl rfl) E ⟨(Or.inl rfl), hσ51⟩ dX12_cuesBy_314
    · subst ea52
      have h := elR h
      refine J_iconst C dX12_cuesBy_332 ?_
      have e9 := sE h
      subst e9
      exact J_zret C (Or.inr rfl) E ⟨(Or.inr rfl), hσ53⟩ dX12_cuesBy_333
  have pc72 : ∀ (x4 : Int) (h4 : rg x4) (x5 : Int) (h5 : rg x5) (x6 : Int) (h6 : rg x6) (σ : Sg) (hσ : wfS yR σ), fX12_cuesBy_P68 x1 x2 x3 x4 x5 x6 σ = some q → J x yR g 11 68 [(0, .ref (gad g 0)), (1, vi x1), (2, vi x2), (3, vi x3), (4, vi x4), (5, vi x5), (6, vi x6)] [] σ := by
    intro x4 h4 x5 h5 x6 h6 σ hσ h
    unfold fX12_cuesBy_P68 at h
    refine J_aload_n C 0 dX12_cuesBy_68 rfl 0 rfl ?_
    refine J_iload_n C 1 dX12_cuesBy_69 rfl 1 rfl ?_
    refine J_iload_n C 2 dX12_cuesBy_70 rfl 2 rfl ?_
    obtain ⟨q73, cq73, h⟩ := bdS h
    refine J_callV C mw_X12_word ml_RX12_211 (m_X12_word x.2.1 g (CxI C) x1 h1 x2 h2 σ hσ q73 cq73) oR_0 rfl (Nat.le_of_ble_eq_true rfl) (Nat.le_of_ble_eq_true rfl) rfl rfl (Nat.le_of_ble_eq_true rfl) dX12_cuesBy_71 (fun hz74 => ?_)
    refine J_iconst C dX12_cuesBy_74 ?_
    refine J_icmp_ne C hz74 rl_1 (tgt := 109) dX12_cuesBy_75 (by decide) h (fun h c101 => ?_) (fun h c101 => ?_)
    · refine J_iload C 6 dX12_cuesBy_78 6 rfl ?_
      refine J_bipush C dX12_cuesBy_80 (bp8 (by decide) (by decide)) ?_
      refine J_iconst C dX12_cuesBy_82 ?_
      obtain ⟨q95, cq95, h⟩ := bdS h
      refine J_callS C mw_X12_isIn ml_RX12_177 (m_X12_isIn x.2.1 g (CxI C) x6 h6 (-4) rl_m4 4 rl_4 σ hσ q95 cq95) (Nat.le_of_ble_eq_true rfl) (Nat.le_of_ble_eq_true rfl) rfl rfl (Nat.le_of_ble_eq_true rfl) dX12_cuesBy_83 (fun hz96 => ?_)
      refine J_if_eq C (rg01 hz96) (tgt := 107) dX12_cuesBy_86 (by decide) h (fun h c100 => ?_) (fun h c100 => ?_)
      · refine J_iconst C dX12_cuesBy_107 ?_
        have e9 := sE h
        subst e9
        exact J_zret C (Or.inl rfl) E ⟨(Or.inl rfl), hσ⟩ dX12_cuesBy_108
      · refine J_aload_n C 0 dX12_cuesBy_89 rfl 0 rfl ?_
        refine J_iload_n C 3 dX12_cuesBy_90 rfl 3 rfl ?_
        refine J_iload C 4 dX12_cuesBy_91 4 rfl ?_
        refine J_iload C 5 dX12_cuesBy_93 5 rfl ?_
        refine J_iload C 6 dX12_cuesBy_95 6 rfl ?_
        obtain ⟨q97, cq97, h⟩ := bdS h
        refine J_callV C mw_X12_makes ml_RX12_215 (m_X12_makes x.2.1 g (CxI C) x3 h3 x4 h4 x5 h5 x6 h6 σ hσ q97 cq97) oR_0 rfl (Nat.le_of_ble_eq_true rfl) (Nat.le_of_ble_eq_true rfl) rfl rfl (Nat.le_of_ble_eq_true rfl) dX12_cuesBy_97 (fun hz98 => ?_)
        refine J_if_eq C (rg01 hz98.1) (tgt := 107) dX12_cuesBy_100 (by decide) h (fun h c99 => ?_) (fun h c99 => ?_)
        · refine J_iconst C dX12_cuesBy_107 ?_
          have e9 := sE h
          subst e9
          exact J_zret C (Or.inl rfl) E ⟨(Or.inl rfl), hz98.2⟩ dX12_cuesBy_108
        · refine J_iconst C dX12_cuesBy_103 ?_
          refine J_goto C (tgt := 108) dX12_cuesBy_104 (by decide) ?_
          have e9 := sE h
          subst e9
          exact J_zret C (Or.inr rfl) E ⟨(Or.inr rfl), hz98.2⟩ dX12_cuesBy_108
    · refine J_iload C 6 dX12_cuesBy_109 6 rfl ?_
      refine J_iconst C dX12_cuesBy_111 ?_
      refine J_iconst C dX12_cuesBy_112 ?_
      obtain ⟨q75, cq75, h⟩ := bdS h
      refine J_callS C mw_X12_isIn ml_RX12_177 (m_X12_isIn x.2.1 g (CxI C) x6 h6 1 rl_1 5 rl_5 σ hσ q75 cq75) (Nat.le_of_ble_eq_true rfl) (Nat.le_of_ble_eq_true rfl) rfl rfl (Nat.le_of_ble_eq_true rfl) dX12_cuesBy_113 (fun hz76 => ?_)
      refine J_if_ne C (rg01 hz76) (tgt := 121) dX12_cuesBy_116 (by decide) h (fun h c94 => ?_) (fun h c94 => ?_)
      · refine J_iconst C dX12_cuesBy_119 ?_
        have e9 := sE h
        subst e9
        exact J_zret C (Or.inl rfl) E ⟨(Or.inl rfl), hσ⟩ dX12_cuesBy_120
      · refine J_iconst C dX12_cuesBy_121 ?_
        refine J_istore (lo2 := [(7, vi 0), (0, .ref (gad g 0)), (1, vi x1), (2, vi x2), (3, vi x3), (4, vi x4), (5, vi x5), (6, vi x6)]) C 7 dX12_cuesBy_122 (by decide) rfl ?_
        obtain ⟨q89, cq89, h⟩ := bdS h
        refine J_sub [1, 4, 5, 6, 7, 0] rfl (wX12_cuesBy_L124 C fu x3 h3 x4 h4 x5 h5 x6 h6 0 rl_0 σ hσ q89 cq89 (fun a90 ea90 hσ91 => ?_) (fun a92 ea92 hσ93 => ?_))
        · subst ea90
          have h := elL h
          refine J_iconst C dX12_cuesBy_152 ?_
          have e9 := sE h
          subst e9
          exact J_zret C (Or.inl rfl) E ⟨(Or.inl rfl), hσ91⟩ dX12_cuesBy_153
        · subst ea92
          have h := elR h
          refine J_iconst C dX12_cuesBy_160 ?_
          have e9 := sE h
          subst e9
          exact J_zret C (Or.inr rfl) E ⟨(Or.inr rfl), hσ93⟩ dX12_cuesBy_161
  refine J_aload_n C 0 dX12_cuesBy_0 rfl 0 rfl ?_
  refine J_iload_n C 1 dX12_cuesBy_1 rfl 1 rfl ?_
  refine J_iload_n C 2 dX12_cuesBy_2 rfl 2 rfl ?_
  refine J_iconst C dX12_cuesBy_3 ?_
  refine J_iadd C dX12_cuesBy_4 h (fun v1 hv2 h => ?_)
  obtain ⟨q3, cq3, h⟩ := bdS h
  refine J_callV C mw_X12_word ml_RX12_211 (m_X12_word x.2.1 g (CxI C) x1 h1 v1 hv2 σ hσ q3 cq3) oR_0 rfl (Nat.le_of_ble_eq_true rfl) (Nat.le_of_ble_eq_true rfl) rfl rfl (Nat.le_of_ble_eq_true rfl) dX12_cuesBy_5 (fun hz4 => ?_)
  refine J_istore (lo2 := [(4, vi q3), (0, .ref (gad g 0)), (1, vi x1), (2, vi x2), (3, vi x3)]) C 4 dX12_cuesBy_8 (by decide) rfl ?_
  refine J_aload_n C 0 dX12_cuesBy_10 rfl 1 rfl ?_
  refine J_iload_n C 1 dX12_cuesBy_11 rfl 2 rfl ?_
  refine J_iload_n C 2 dX12_cuesBy_12 rfl 3 rfl ?_
  refine J_iconst C dX12_cuesBy_13 ?_
  refine J_iadd C dX12_cuesBy_14 h (fun v5 hv6 h => ?_)
  obtain ⟨q7, cq7, h⟩ := bdS h
  refine J_callV C mw_X12_word ml_RX12_211 (m_X12_word x.2.1 g (CxI C) x1 h1 v5 hv6 σ hσ q7 cq7) oR_0 rfl (Nat.le_of_ble_eq_true rfl) (Nat.le_of_ble_eq_true rfl) rfl rfl (Nat.le_of_ble_eq_true rfl) dX12_cuesBy_15 (fun hz8 => ?_)
  refine J_istore (lo2 := [(5, vi q7), (4, vi q3), (0, .ref (gad g 0)), (1, vi x1), (2, vi x2), (3, vi x3)]) C 5 dX12_cuesBy_18 (by decide) rfl ?_
  refine J_aload_n C 0 dX12_cuesBy_20 rfl 2 rfl ?_
  refine J_iload_n C 1 dX12_cuesBy_21 rfl 3 rfl ?_
  refine J_iload_n C 2 dX12_cuesBy_22 rfl 4 rfl ?_
  refine J_iconst C dX12_cuesBy_23 ?_
  refine J_iadd C dX12_cuesBy_24 h (fun v9 hv10 h => ?_)
  obtain ⟨q11, cq11, h⟩ := bdS h
  refine J_callV C mw_X12_word ml_RX12_211 (m_X12_word x.2.1 g (CxI C) x1 h1 v9 hv10 σ hσ q11 cq11) oR_0 rfl (Nat.le_of_ble_eq_true rfl) (Nat.le_of_ble_eq_true rfl) rfl rfl (Nat.le_of_ble_eq_true rfl) dX12_cuesBy_25 (fun hz12 => ?_)
  refine J_istore (lo2 := [(6, vi q11), (5, vi q7), (4, vi q3), (0, .ref (gad g 0)), (1, vi x1), (2, vi x2), (3, vi x3)]) C 6 dX12_cuesBy_28 (by decide) rfl ?_
  refine J_aload_n C 0 dX12_cuesBy_30 rfl 3 rfl ?_
  refine J_iload C 4 dX12_cuesBy_31 2 rfl ?_
  obtain ⟨q13, cq13, h⟩ := bdS h
  refine J_callV C mw_X12_isKind ml_RX12_190 (m_X12_isKind x.2.1 g (CxI C) q3 hz4 σ hσ q13 cq13) oR_0 rfl (Nat.le_of_ble_eq_true rfl) (Nat.le_of_ble_eq_true rfl) rfl rfl (Nat.le_of_ble_eq_true rfl) dX12_cuesBy_33 (fun hz14 => ?_)
  refine J_if_ne C (rg01 hz14) (tgt := 41) dX12_cuesBy_36 (by decide) h (fun h c124 => ?_) (fun h c124 => ?_)
  · refine J_iconst C dX12_cuesBy_39 ?_
    have e9 := sE h
    subst e9
    exact J_zret C (Or.inl rfl) E ⟨(Or.inl rfl), hσ⟩ dX12_cuesBy_40
  · refine J_aload_n C 0 dX12_cuesBy_41 rfl 3 rfl ?_
    refine J_iload_n C 1 dX12_cuesBy_42 rfl 4 rfl ?_
    refine J_iload_n C 2 dX12_cuesBy_43 rfl 5 rfl ?_
    obtain ⟨q15, cq15, h⟩ := bdS h
    refine J_callV C mw_X12_word ml_RX12_211 (m_X12_word x.2.1 g (CxI C) x1 h1 x2 h2 σ hσ q15 cq15) oR_0 rfl (Nat.le_of_ble_eq_true rfl) (Nat.le_of_ble_eq_true rfl) rfl rfl (Nat.le_of_ble_eq_true rfl) dX12_cuesBy_44 (fun hz16 => ?_)
    refine J_iconst C dX12_cuesBy_47 ?_
    refine J_icmp_ge C hz16 rl_4 (tgt := 162) dX12_cuesBy_48 (by decide) h (fun h c123 => ?_) (fun h c123 => ?_)
    · refine J_iload C 5 dX12_cuesBy_51 1 rfl ?_
      refine J_iconst C dX12_cuesBy_53 ?_
      refine J_icmp_eq C hz8 rl_m1 (tgt := 68) dX12_cuesBy_54 (by decide) h (fun h c122 => ?_) (fun h c122 => ?_)
      · exact J_sub [3, 4, 5, 6, 2, 1, 0] rfl (pc72 q3 hz4 q7 hz8 q11 hz12 σ hσ h)
      · refine J_aload_n C 0 dX12_cuesBy_57 rfl 3 rfl ?_
        refine J_iload C 5 dX12_cuesBy_58 1 rfl ?_
        obtain ⟨q119, cq119, h⟩ := bdS h
        refine J_callV C mw_X12_isBarge ml_RX12_186 (m_X12_isBarge x.2.1 g (CxI C) q7 hz8 σ hσ q119 cq119) oR_0 rfl (Nat.le_of_ble_eq_true rfl) (Nat.le_of_ble_eq_true rfl) rfl rfl (Nat.le_of_ble_eq_true rfl) dX12_cuesBy_60 (fun hz120 => ?_)
        refine J_if_ne C (rg01 hz120) (tgt := 68) dX12_cuesBy_63 (by decide) h (fun h c121 => ?_) (fun h c121 => ?_)
        · refine J_iconst C dX12_cuesBy_66 ?_
          have e9 := sE h
          subst e9
          exact J_zret C (Or.inl rfl) E ⟨(Or.inl rfl), hσ⟩ dX12_cuesBy_67
        · exact J_sub [3, 4, 5, 6, 2, 1, 0] rfl (pc72 q3 hz4 q7 hz8 q11 hz12 σ hσ h)
    · refine J_aload_n C 0 dX12_cuesBy_162 rfl 3 rfl ?_
      refine J_iload_n C 1 dX12_cuesBy_163 rfl 4 rfl ?_
      refine J_iload_n C 2 dX12_cuesBy_164 rfl 5 rfl ?_
      refine J_iconst C dX12_cuesBy_165 ?_
      refine J_iadd C dX12_cuesBy_166 h (fun v17 hv18 h => ?_)
      obtain ⟨q19, cq19, h⟩ := bdS h
      refine J_callV C mw_X12_word ml_RX12_211 (m_X12_word x.2.1 g (CxI C) x1 h1 v17 hv18 σ hσ q19 cq19) oR_0 rfl (Nat.le_of_ble_eq_true rfl) (Nat.le_of_ble_eq_true rfl) rfl rfl (Nat.le_of_ble_eq_true rfl) dX12_cuesBy_167 (fun hz20 => ?_)
      refine J_aload_n C 0 dX12_cuesBy_170 rfl 3 rfl ?_
      refine J_getI C fl_RX12_218 oR_0 rfl dX12_cuesBy_171 ?_
      refine J_imul C dX12_cuesBy_174 h (fun v21 hv22 h => ?_)
      refine J_istore (lo2 := [(7, vi v21), (6, vi q11), (5, vi q7), (4, vi q3), (0, .ref (gad g 0)), (1, vi x1), (2, vi x2), (3, vi x3)]) C 7 dX12_cuesBy_175 (by decide) rfl ?_
      refine J_aload_n C 0 dX12_cuesBy_177 rfl 4 rfl ?_
      refine J_iload C 5 dX12_cuesBy_178 2 rfl ?_
      obtain ⟨q23, cq23, h⟩ := bdS h
      refine J_callV C mw_X12_isBarge ml_RX12_186 (m_X12_isBarge x.2.1 g (CxI C) q7 hz8 σ hσ q23 cq23) oR_0 rfl (Nat.le_of_ble_eq_true rfl) (Nat.le_of_ble_eq_true rfl) rfl rfl (Nat.le_of_ble_eq_true rfl) dX12_cuesBy_180 (fun hz24 => ?_)
      refine J_if_eq C (rg01 hz24) (tgt := 212) dX12_cuesBy_183 (by decide) h (fun h c71 => ?_) (fun h c71 => ?_)
      · refine J_iconst C dX12_cuesBy_212 ?_
        have e9 := sE h
        subst e9
        exact J_zret C (Or.inl rfl) E ⟨(Or.inl rfl), hσ⟩ dX12_cuesBy_213
      · refine J_aload_n C 0 dX12_cuesBy_186 rfl 4 rfl ?_
        refine J_iload C 6 dX12_cuesBy_187 1 rfl ?_
        obtain ⟨q25, cq25, h⟩ := bdS h
        refine J_callV C mw_X12_isBarge ml_RX12_186 (m_X12_isBarge x.2.1 g (CxI C) q11 hz12 σ hσ q25 cq25) oR_0 rfl (Nat.le_of_ble_eq_true rfl) (Nat.le_of_ble_eq_true rfl) rfl rfl (Nat.le_of_ble_eq_true rfl) dX12_cuesBy_189 (fun hz26 => ?_)
        refine J_if_eq C (rg01 hz26) (tgt := 212) dX12_cuesBy_192 (by decide) h (fun h c70 => ?_) (fun h c70 => ?_)
        · refine J_iconst C dX12_cuesBy_212 ?_
          have e9 := sE h
          subst e9
          exact J_zret C (Or.inl rfl) E ⟨(Or.inl rfl), hσ⟩ dX12_cuesBy_213
        · refine J_aload_n C 0 dX12_cuesBy_195 rfl 4 rfl ?_
          refine J_iload_n C 1 dX12_cuesBy_196 rfl 5 rfl ?_
          refine J_iload_n C 2 dX12_cuesBy_197 rfl 6 rfl ?_
          refine J_iconst C dX12_cuesBy_198 ?_
          refine J_iadd C dX12_cuesBy_199 h (fun v27 hv28 h => ?_)
          obtain ⟨q29, cq29, h⟩ := bdS h
          refine J_callV C mw_X12_word ml_RX12_211 (m_X12_word x.2.1 g (CxI C) x1 h1 v27 hv28 σ hσ q29 cq29) oR_0 rfl (Nat.le_of_ble_eq_true rfl) (Nat.le_of_ble_eq_true rfl) rfl rfl (Nat.le_of_ble_eq_true rfl) dX12_cuesBy_200 (fun hz30 => ?_)
          refine J_iconst C dX12_cuesBy_203 ?_
          refine J_bipush C dX12_cuesBy_204 (bp8 (by decide) (by decide)) ?_
          obtain ⟨q31, cq31, h⟩ := bdS h
          refine J_callS C mw_X12_isIn ml_RX12_177 (m_X12_isIn x.2.1 g (CxI C) q29 hz30 0 rl_0 50 rl_50 σ hσ q31 cq31) (Nat.le_of_ble_eq_true rfl) (Nat.le_of_ble_eq_true rfl) rfl rfl (Nat.le_of_ble_eq_true rfl) dX12_cuesBy_206 (fun hz32 => ?_)
          refine J_if_ne C (rg01 hz32) (tgt := 214) dX12_cuesBy_209 (by decide) h (fun h c69 => ?_) (fun h c69 => ?_)
          · refine J_iconst C dX12_cuesBy_212 ?_
            have e9 := sE h
            subst e9
            exact J_zret C (Or.inl rfl) E ⟨(Or.inl rfl), hσ⟩ dX12_cuesBy_213
          · refine J_aload_n C 0 dX12_cuesBy_214 rfl 4 rfl ?_
            refine J_iload_n C 1 dX12_cuesBy_215 rfl 5 rfl ?_
            refine J_iload_n C 2 dX12_cuesBy_216 rfl 6 rfl ?_
            obtain ⟨q33, cq33, h⟩ := bdS h
            refine J_callV C mw_X12_word ml_RX12_211 (m_X12_word x.2.1 g (CxI C) x1 h1 x2 h2 σ hσ q33 cq33) oR_0 rfl (Nat.le_of_ble_eq_true rfl) (Nat.le_of_ble_eq_true rfl) rfl rfl (Nat.le_of_ble_eq_true rfl) dX12_cuesBy_217 (fun hz34 => ?_)
            refine J_iconst C dX12_cuesBy_220 ?_
            refine J_icmp_ne C hz34 rl_5 (tgt := 259) dX12_cuesBy_221 (by decide) h (fun h c68 => ?_) (fun h c68 => ?_)
            · refine J_aload_n C 0 dX12_cuesBy_224 rfl 4 rfl ?_
              refine J_iload_n C 3 dX12_cuesBy_225 rfl 7 rfl ?_
              refine J_iload C 4 dX12_cuesBy_226 3 rfl ?_
              refine J_iload C 5 dX12_cuesBy_228 2 rfl ?_
              refine J_iconst C dX12_cuesBy_230 ?_
              obtain ⟨q60, cq60, h⟩ := bdS h
              refine J_callV C mw_X12_makes ml_RX12_215 (m_X12_makes x.2.1 g (CxI C) x3 h3 q3 hz4 q7 hz8 0 rl_0 σ hσ q60 cq60) oR_0 rfl (Nat.le_of_ble_eq_true rfl) (Nat.le_of_ble_eq_true rfl) rfl rfl (Nat.le_of_ble_eq_true rfl) dX12_cuesBy_231 (fun hz61 => ?_)
              refine J_if_eq C (rg01 hz61.1) (tgt := 257) dX12_cuesBy_234 (by decide) h (fun h c67 => ?_) (fun h c67 => ?_)
              · refine J_iconst C dX12_cuesBy_257 ?_
                have e9 := sE h
                subst e9
                exact J_zret C (Or.inl rfl) E ⟨(Or.inl rfl), hz61.2⟩ dX12_cuesBy_258
              · refine J_aload_n C 0 dX12_cuesBy_237 rfl 4 rfl ?_
                refine J_iload_n C 3 dX12_cuesBy_238 rfl 7 rfl ?_
                refine J_iload C 7 dX12_cuesBy_239 0 rfl ?_
                refine J_iadd C dX12_cuesBy_241 h (fun v62 hv63 h => ?_)
                refine J_iload C 4 dX12_cuesBy_242 3 rfl ?_
                refine J_iload C 6 dX12_cuesBy_244 1 rfl ?_
                refine J_iconst C dX12_cuesBy_246 ?_
                obtain ⟨q64, cq64, h⟩ := bdS h
                refine J_callV C mw_X12_makes ml_RX12_215 (m_X12_makes x.2.1 g (CxI C) v62 hv63 q3 hz4 q11 hz12 0 rl_0 q60.2 hz61.2 q64 cq64) oR_0 rfl (Nat.le_of_ble_eq_true rfl) (Nat.le_of_ble_eq_true rfl) rfl rfl (Nat.le_of_ble_eq_true rfl) dX12_cuesBy_247 (fun hz65 => ?_)
                refine J_if_eq C (rg01 hz65.1) (tgt := 257) dX12_cuesBy_250 (by decide) h (fun h c66 => ?_) (fun h c66 => ?_)
                · refine J_iconst C dX12_cuesBy_257 ?_
                  have e9 := sE h
                  subst e9
                  exact J_zret C (Or.inl rfl) E ⟨(Or.inl rfl), hz65.2⟩ dX12_cuesBy_258
                · refine J_iconst C dX12_cuesBy_253 ?_
                  refine J_goto C (tgt := 258) dX12_cuesBy_254 (by decide) ?_
                  have e9 := sE h
                  subst e9
                  exact J_zret C (Or.inr rfl) E ⟨(Or.inr rfl), hz65.2⟩ dX12_cuesBy_258
            · refine J_iload C 6 dX12_cuesBy_259 1 rfl ?_
              refine J_iload C 5 dX12_cuesBy_261 2 rfl ?_
              refine J_icmp_ge C hz12 hz8 (tgt := 270) dX12_cuesBy_263 (by decide) h (fun h c59 => ?_) (fun h c59 => ?_)
              · refine J_iconst C dX12_cuesBy_266 ?_
                refine J_goto C (tgt := 271) dX12_cuesBy_267 (by decide) ?_
                exact J_sub [4, 7, 3, 2, 1, 0] rfl (pc35 q3 hz4 q7 hz8 q11 hz12 v21 hv22 (-1) rl_m1 σ hσ h)
              · refine J_iconst C dX12_cuesBy_270 ?_
                exact J_sub [4, 7, 3, 2, 1, 0] rfl (pc35 q3 hz4 q7 hz8 q11 hz12 v21 hv22 1 rl_1 σ hσ h)
set_option maxRecDepth 100000 in
set_option maxHeartbeats 4000000 in
theorem wX12_writes_L18 {x : Ct} {g : Gm} (C : Cx x yR g 8 cX12_writes RX12 3 73) : ∀ (n : Nat) (x1 : Int) (h1 : rg x1) (x2 : Int) (h2 : rg x2) (x3 : Int) (h3 : rg x3) (x4 : Int) (h4 : rg x4) (σ : Sg) (hσ : wfS yR σ) (q : (Int × Sg) ⊕ ((Int × Int × Sg) ⊕ ((Int × Sg) ⊕ ((Int × Sg) ⊕ ((Int × Sg) ⊕ ((Int × Sg) ⊕ ((Int × Sg) ⊕ (Sg)))))))) (h : fX12_writes_L18 n x1 x2 x3 x4 σ = some q) (k0 : ∀ a : Int × Sg, q = .inl a → rg a.1 → wfS yR a.2 → J x yR g 8 70 [(4, vi a.1)] [] a.2) (k1 : ∀ a : Int × Int × Sg, q = .inr (.inl a) → rg a.1 → rg a.2.1 → wfS yR a.2.2 → J x yR g 8 144 [(3, vi a.1), (4, vi a.2.1)] [] a.2.2) (k2 : ∀ a : Int × Sg, q = .inr (.inr (.inl a)) → rg a.1 → wfS yR a.2 → J x yR g 8 166 [(4, vi a.1)] [] a.2) (k3 : ∀ a : Int × Sg, q = .inr (.inr (.inr (.inl a))) → rg a.1 → wfS yR a.2 → J x yR g 8 211 [(4, vi a.1)] [] a.2) (k4 : ∀ a : Int × Sg, q = .inr (.inr (.inr (.inr (.inl a)))) → rg a.1 → wfS yR a.2 → J x yR g 8 242 [(4, vi a.1)] [] a.2) (k5 : ∀ a : Int × Sg, q = .inr (.inr (.inr (.inr (.inr (.inl a))))) → rg a.1 → wfS yR a.2 → J x yR g 8 300 [(4, vi a.1)] [] a.2) (k6 : ∀ a : Int × Sg, q = .inr (.inr (.inr (.inr (.inr (.inr (.inl a)))))) → rg a.1 → wfS yR a.2 → J x yR g 8 323 [(4, vi a.1)] [] a.2) (k7 : ∀ a : Sg, q = .inr (.inr (.inr (.inr (.inr (.inr (.inr a)))))) → wfS yR a → J x yR g 8 338 [(0, .ref (gad g 0)), (1, vi x1)] [] a), J x yR g 8 18 [(0, .ref (gad g 0)), (1, vi x1), (2, vi x2), (3, vi x3), (4, vi x4)] [] σ := by
  intro n
  induction n with
  | zero =>
    intro x1 h1 x2 h2 x3 h3 x4 h4 σ hσ q h k0 k1 k2 k3 k4 k5 k6 k7
    exact absurd h (by intro z; cases z)
  | succ n ih =>
    intro x1 h1 x2 h2 x3 h3 x4 h4 σ hσ q h k0 k1 k2 k3 k4 k5 k6 k7
    rw [fX12_writes_L18] at h
    have pc20 : ∀ (x2 : Int) (h2 : rg x2) (x3 : Int) (h3 : rg x3) (x4 : Int) (h4 : rg x4) (x6 : Int) (h6 : rg x6) (σ : Sg) (hσ : wfS yR σ), fX12_writes_L18P326 (fX12_writes_L18 n) x1 x2 x3 x4 x6 σ = some q → J x yR g 8 326 [(0, .ref (gad g 0)), (1, vi x1), (2, vi x2), (3, vi x3), (4, vi x4), (6, vi x6)] [] σ := by
      intro x2 h2 x3 h3 x4 h4 x6 h6 σ hσ h
      unfold fX12_writes_L18P326 at h
      refine J_iload C 4 dX12_writes_326 4 rfl ?_
      refine J_iload C 6 dX12_writes_328 5 rfl ?_
      refine J_iconst C dX12_writes_330 ?_
      refine J_iadd C dX12_writes_331 h (fun v21 hv22 h => ?_)
      refine J_iadd C dX12_writes_332 h (fun v23 hv24 h => ?_)
      refine J_istore (lo2 := [(4, vi v23), (0, .ref (gad g 0)), (1, vi x1), (2, vi x2), (3, vi x3), (6, vi x6)]) C 4 dX12_writes_333 (by decide) rfl ?_
      refine J_goto C (tgt := 18) dX12_writes_335 (by decide) ?_
      exact J_sub [1, 2, 3, 4, 0] rfl (ih x1 h1 x2 h2 x3 h3 v23 hv24 σ hσ q h k0 k1 k2 k3 k4 k5 k6 k7)
    have pc93 : ∀ (x3 : Int) (h3 : rg x3) (x4 : Int) (h4 : rg x4) (x6 : Int) (h6 : rg x6) (y0 : Int) (g0 : rg y0) (σ : Sg) (hσ : wfS yR σ), fX12_writes_L18P191 (fX12_writes_L18 n) x1 x3 x4 x6 y0 σ = some q → J x yR g 8 191 [(0, .ref (gad g 0)), (1, vi x1), (3, vi x3), (4, vi x4), (6, vi x6)] [vi y0] σ := by
      intro x3 h3 x4 h4 x6 h6 y0 g0 σ hσ h
      unfold fX12_writes_L18P191 at h
      refine J_istore_n (lo2 := [(2, vi y0), (0, .ref (gad g 0)), (1, vi x1), (3, vi x3), (4, vi x4), (6, vi x6)]) C 2 dX12_writes_191 rfl (by decide) rfl ?_
      refine J_goto C (tgt := 326) dX12_writes_192 (by decide) ?_
      exact J_sub [1, 2, 0, 3, 4, 5] rfl (pc20 y0 g0 x3 h3 x4 h4 x6 h6 σ hσ h)
    have pc17 : ∀ (x2 : Int) (h2 : rg x2) (x3 : Int) (h3 : rg x3) (x4 : Int) (h4 : rg x4) (x5 : Int) (h5 : rg x5) (x6 : Int) (h6 : rg x6) (y0 : Int) (g0 : rg y0) (σ : Sg) (hσ : wfS yR σ), fX12_writes_L18P91 (fX12_writes_L18 n) x1 x2 x3 x4 x5 x6 y0 σ = some q → J x yR g 8 91 [(0, .ref (gad g 0)), (1, vi x1), (2, vi x2), (3, vi x3), (4, vi x4), (5, vi x5), (6, vi x6)] [vi y0] σ := by
      intro x2 h2 x3 h3 x4 h4 x5 h5 x6 h6 y0 g0 σ hσ h
      unfold fX12_writes_L18P91 at h
      refine J_istore (lo2 := [(7, vi y0), (0, .ref (gad g 0)), (1, vi x1), (2, vi x2), (3, vi x3), (4, vi x4), (5, vi x5), (6, vi x6)]) C 7 dX12_writes_91 (by decide) rfl ?_
      refine J_iload C 5 dX12_writes_93 6 rfl ?_
      rcases lt_or h with ⟨c30, h⟩ | ⟨c30, h⟩
      · refine J_switch C (tgt := 144) h5 dX12_writes_95 (49) (fun z => absurd z (by omega)) (fun _ _ => by rw [c30]; rfl) (by decide) ?_
        have e9 := sE h
        exact J_sub [4, 5] rfl (k1 (x3, x4, σ) e9.symm h3 h4 hσ)
      · rcases lt_or h with ⟨c31, h⟩ | ⟨c31, h⟩
        · refine J_switch C (tgt := 312) h5 dX12_writes_95 (217) (fun z => absurd z (by omega)) (fun _ _ => by rw [c31]; rfl) (by decide) ?_
          refine J_aload_n C 0 dX12_writes_312 rfl 1 rfl ?_
          refine J_iload_n C 1 dX12_writes_313 rfl 2 rfl ?_
          refine J_iload C 4 dX12_writes_314 5 rfl ?_
          refine J_iload_n C 2 dX12_writes_316 rfl 3 rfl ?_
          obtain ⟨q96, cq96, h⟩ := bdS h
          refine J_callV C mw_X12_cuesBy ml_RX12_225 (m_X12_cuesBy x.2.1 g (CxI C) x1 h1 x4 h4 x2 h2 σ hσ q96 cq96) oR_0 rfl (Nat.le_of_ble_eq_true rfl) (Nat.le_of_ble_eq_true rfl) rfl rfl (Nat.le_of_ble_eq_true rfl) dX12_writes_317 (fun hz97 => ?_)
          refine J_if_ne C (rg01 hz97.1) (tgt := 326) dX12_writes_320 (by decide) h (fun h c98 => ?_) (fun h c98 => ?_)
          · have e9 := sE h
            exact J_sub [5] rfl (k6 (x4, q96.2) e9.symm h4 hz97.2)
          · exact J_sub [1, 2, 3, 4, 5, 7] rfl (pc20 x2 h2 x3 h3 x4 h4 x6 h6 q96.2 hz97.2 h)
        · rcases lt_or h with ⟨c32, h⟩ | ⟨c32, h⟩
          · refine J_switch C (tgt := 155) h5 dX12_writes_95 (60) (fun z => absurd z (by omega)) (fun _ _ => by rw [c32]; rfl) (by decide) ?_
            refine J_iload C 7 dX12_writes_155 0 rfl ?_
            refine J_iconst C dX12_writes_157 ?_
            refine J_bipush C dX12_writes_158 (bp8 (by decide) (by decide)) ?_
            obtain ⟨q87, cq87, h⟩ := bdS h
            refine J_callS C mw_X12_isIn ml_RX12_177 (m_X12_isIn x.2.1 g (CxI C) y0 g0 1 rl_1 50 rl_50 σ hσ q87 cq87) (Nat.le_of_ble_eq_true rfl) (Nat.le_of_ble_eq_true rfl) rfl rfl (Nat.le_of_ble_eq_true rfl) dX12_writes_160 (fun hz88 => ?_)
            refine J_if_ne C (rg01 hz88) (tgt := 169) dX12_writes_163 (by decide) h (fun h c95 => ?_) (fun h c95 => ?_)
            · have e9 := sE h
              exact J_sub [5] rfl (k2 (x4, σ) e9.symm h4 hσ)
            · refine J_iload_n C 2 dX12_writes_169 rfl 3 rfl ?_
              refine J_iload C 7 dX12_writes_170 0 rfl ?_
              refine J_aload_n C 0 dX12_writes_172 rfl 1 rfl ?_
              refine J_getI C fl_RX12_218 oR_0 rfl dX12_writes_173 ?_
              refine J_imul C dX12_writes_176 h (fun v89 hv90 h => ?_)
              refine J_iadd C dX12_writes_177 h (fun v91 hv92 h => ?_)
              refine J_istore_n (lo2 := [(2, vi v91), (7, vi y0), (0, .ref (gad g 0)), (1, vi x1), (3, vi x3), (4, vi x4), (5, vi x5), (6, vi x6)]) C 2 dX12_writes_178 rfl (by decide) rfl ?_
              refine J_iload_n C 2 dX12_writes_179 rfl 0 rfl ?_
              refine J_ldc C (n := 1000000) kc_RX12_224 (by decide +kernel) dX12_writes_180 ?_
              refine J_icmp_le C hv92 rl_1000000 (tgt := 190) dX12_writes_182 (by decide) h (fun h c94 => ?_) (fun h c94 => ?_)
              · refine J_iload_n C 2 dX12_writes_190 rfl 0 rfl ?_
                exact J_sub [2, 3, 4, 5, 7] rfl (pc93 x3 h3 x4 h4 x6 h6 v91 hv92 σ hσ h)
              · refine J_ldc C (n := 1000000) kc_RX12_224 (by decide +kernel) dX12_writes_185 ?_
                refine J_goto C (tgt := 191) dX12_writes_187 (by decide) ?_
                exact J_sub [2, 3, 4, 5, 7] rfl (pc93 x3 h3 x4 h4 x6 h6 1000000 rl_1000000 σ hσ h)
          · rcases lt_or h with ⟨c33, h⟩ | ⟨c33, h⟩
            · refine J_switch C (tgt := 312) h5 dX12_writes_95 (217) (fun z => absurd z (by omega)) (fun _ _ => by rw [c33]; rfl) (by decide) ?_
              refine J_aload_n C 0 dX12_writes_312 rfl 1 rfl ?_
              refine J_iload_n C 1 dX12_writes_313 rfl 2 rfl ?_
              refine J_iload C 4 dX12_writes_314 5 rfl ?_
              refine J_iload_n C 2 dX12_writes_316 rfl 3 rfl ?_
              obtain ⟨q84, cq84, h⟩ := bdS h
              refine J_callV C mw_X12_cuesBy ml_RX12_225 (m_X12_cuesBy x.2.1 g (CxI C) x1 h1 x4 h4 x2 h2 σ hσ q84 cq84) oR_0 rfl (Nat.le_of_ble_eq_true rfl) (Nat.le_of_ble_eq_true rfl) rfl rfl (Nat.le_of_ble_eq_true rfl) dX12_writes_317 (fun hz85 => ?_)
              refine J_if_ne C (rg01 hz85.1) (tgt := 326) dX12_writes_320 (by decide) h (fun h c86 => ?_) (fun h c86 => ?_)
              · have e9 := sE h
                exact J_sub [5] rfl (k6 (x4, q84.2) e9.symm h4 hz85.2)
              · exact J_sub [1, 2, 3, 4, 5, 7] rfl (pc20 x2 h2 x3 h3 x4 h4 x6 h6 q84.2 hz85.2 h)
            · rcases lt_or h with ⟨c34, h⟩ | ⟨c34, h⟩
              · refine J_switch C (tgt := 312) h5 dX12_writes_95 (217) (fun z => absurd z (by omega)) (fun _ _ => by rw [c34]; rfl) (by decide) ?_
                refine J_aload_n C 0 dX12_writes_312 rfl 1 rfl ?_
                refine J_iload_n C 1 dX12_writes_313 rfl 2 rfl ?_
                refine J_iload C 4 dX12_writes_314 5 rfl ?_
                refine J_iload_n C 2 dX12_writes_316 rfl 3 rfl ?_
                obtain ⟨q81, cq81, h⟩ := bdS h
                refine J_callV C mw_X12_cuesBy ml_RX12_225 (m_X12_cuesBy x.2.1 g (CxI C) x1 h1 x4 h4 x2 h2 σ hσ q81 cq81) oR_0 rfl (Nat.le_of_ble_eq_true rfl) (Nat.le_of_ble_eq_true rfl) rfl rfl (Nat.le_of_ble_eq_true rfl) dX12_writes_317 (fun hz82 => ?_)
                refine J_if_ne C (rg01 hz82.1) (tgt := 326) dX12_writes_320 (by decide) h (fun h c83 => ?_) (fun h c83 => ?_)
                · have e9 := sE h
                  exact J_sub [5] rfl (k6 (x4, q81.2) e9.symm h4 hz82.2)
                · exact J_sub [1, 2, 3, 4, 5, 7] rfl (pc20 x2 h2 x3 h3 x4 h4 x6 h6 q81.2 hz82.2 h)
              · rcases lt_or h with ⟨c35, h⟩ | ⟨c35, h⟩
                · refine J_switch C (tgt := 312) h5 dX12_writes_95 (217) (fun z => absurd z (by omega)) (fun _ _ => by rw [c35]; rfl) (by decide) ?_
                  refine J_aload_n C 0 dX12_writes_312 rfl 1 rfl ?_
                  refine J_iload_n C 1 dX12_writes_313 rfl 2 rfl ?_
                  refine J_iload C 4 dX12_writes_314 5 rfl ?_
                  refine J_iload_n C 2 dX12_writes_316 rfl 3 rfl ?_
                  obtain ⟨q78, cq78, h⟩ := bdS h
                  refine J_callV C mw_X12_cuesBy ml_RX12_225 (m_X12_cuesBy x.2.1 g (CxI C) x1 h1 x4 h4 x2 h2 σ hσ q78 cq78) oR_0 rfl (Nat.le_of_ble_eq_true rfl) (Nat.le_of_ble_eq_true rfl) rfl rfl (Nat.le_of_ble_eq_true rfl) dX12_writes_317 (fun hz79 => ?_)
                  refine J_if_ne C (rg01 hz79.1) (tgt := 326) dX12_writes_320 (by decide) h (fun h c80 => ?_) (fun h c80 => ?_)
                  · have e9 := sE h
                    exact J_sub [5] rfl (k6 (x4, q78.2) e9.symm h4 hz79.2)
                  · exact J_sub [1, 2, 3, 4, 5, 7] rfl (pc20 x2 h2 x3 h3 x4 h4 x6 h6 q78.2 hz79.2 h)
                · rcases lt_or h with ⟨c36, h⟩ | ⟨c36, h⟩
                  · refine J_switch C (tgt := 195) h5 dX12_writes_95 (100) (fun z => absurd z (by omega)) (fun _ _ => by rw [c36]; rfl) (by decide) ?_
                    refine J_iload C 7 dX12_writes_195 0 rfl ?_
                    refine J_iconst C dX12_writes_197 ?_
                    refine J_bipush C dX12_writes_198 (bp8 (by decide) (by decide)) ?_
                    obtain ⟨q66, cq66, h⟩ := bdS h
                    refine J_callS C mw_X12_isIn ml_RX12_177 (m_X12_isIn x.2.1 g (CxI C) y0 g0 2 rl_2 9 rl_9 σ hσ q66 cq66) (Nat.le_of_ble_eq_true rfl) (Nat.le_of_ble_eq_true rfl) rfl rfl (Nat.le_of_ble_eq_true rfl) dX12_writes_200 (fun hz67 => ?_)
                    refine J_if_eq C (rg01 hz67) (tgt := 211) dX12_writes_203 (by decide) h (fun h c77 => ?_) (fun h c77 => ?_)
                    · have e9 := sE h
                      exact J_sub [5] rfl (k3 (x4, σ) e9.symm h4 hσ)
                    · refine J_iload_n C 3 dX12_writes_206 rfl 4 rfl ?_
                      refine J_iconst C dX12_writes_207 ?_
                      refine J_icmp_ne C h3 rl_3 (tgt := 214) dX12_writes_208 (by decide) h (fun h c76 => ?_) (fun h c76 => ?_)
                      · have e9 := sE h
                        exact J_sub [5] rfl (k3 (x4, σ) e9.symm h4 hσ)
                      · refine J_aload_n C 0 dX12_writes_214 rfl 1 rfl ?_
                        refine J_getR C fl_RX12_104 oR_0 rfl dX12_writes_215 ?_
                        refine J_iload_n C 3 dX12_writes_218 rfl 4 rfl ?_
                        refine J_iload C 4 dX12_writes_219 5 rfl ?_
                        refine J_iconst C dX12_writes_221 ?_
                        refine J_iadd C dX12_writes_222 h (fun v68 hv69 h => ?_)
                        refine J_iast C aR_32 hσ hv69 dX12_writes_223 h (fun σ70 hσ71 h => ?_)
                        refine J_aload_n C 0 dX12_writes_224 rfl 1 rfl ?_
                        refine J_getR C fl_RX12_107 oR_0 rfl dX12_writes_225 ?_
                        refine J_iload_n C 3 dX12_writes_228 rfl 4 rfl ?_
                        refine J_iload C 7 dX12_writes_229 0 rfl ?_
                        refine J_iast C aR_33 hσ71 g0 dX12_writes_231 h (fun σ72 hσ73 h => ?_)
                        refine J_iinc C 3 4 dX12_writes_232 rfl (by decide) h (fun v74 hv75 h => ?_)
                        refine J_goto C (tgt := 326) dX12_writes_235 (by decide) ?_
                        exact J_sub [2, 3, 4, 0, 5, 7] rfl (pc20 x2 h2 v74 hv75 x4 h4 x6 h6 σ72 hσ73 h)
                  · rcases lt_or h with ⟨c37, h⟩ | ⟨c37, h⟩
                    · refine J_switch C (tgt := 238) h5 dX12_writes_95 (143) (fun z => absurd z (by omega)) (fun _ _ => by rw [c37]; rfl) (by decide) ?_
                      refine J_iload_n C 3 dX12_writes_238 rfl 4 rfl ?_
                      refine J_if_ne C h3 (tgt := 245) dX12_writes_239 (by decide) h (fun h c65 => ?_) (fun h c65 => ?_)
                      · have e9 := sE h
                        exact J_sub [5] rfl (k4 (x4, σ) e9.symm h4 hσ)
                      · refine J_aload_n C 0 dX12_writes_245 rfl 1 rfl ?_
                        refine J_getR C fl_RX12_107 oR_0 rfl dX12_writes_246 ?_
                        refine J_iload_n C 3 dX12_writes_249 rfl 4 rfl ?_
                        refine J_iconst C dX12_writes_250 ?_
                        refine J_isub C dX12_writes_251 h (fun v44 hv45 h => ?_)
                        refine J_dup2 C rfl rfl dX12_writes_252 ?_
                        refine J_iald C aR_33 hσ dX12_writes_253 h (fun v46 hv47 h => ?_)
                        refine J_iconst C dX12_writes_254 ?_
                        refine J_isub C dX12_writes_255 h (fun v48 hv49 h => ?_)
                        refine J_iast C aR_33 hσ hv49 dX12_writes_256 h (fun σ50 hσ51 h => ?_)
                        refine J_aload_n C 0 dX12_writes_257 rfl 1 rfl ?_
                        refine J_getR C fl_RX12_107 oR_0 rfl dX12_writes_258 ?_
                        refine J_iload_n C 3 dX12_writes_261 rfl 4 rfl ?_
                        refine J_iconst C dX12_writes_262 ?_
                        refine J_isub C dX12_writes_263 h (fun v52 hv53 h => ?_)
                        refine J_iald C aR_33 hσ51 dX12_writes_264 h (fun v54 hv55 h => ?_)
                        refine J_if_le C hv55 (tgt := 283) dX12_writes_265 (by decide) h (fun h c64 => ?_) (fun h c64 => ?_)
                        · refine J_iinc C 3 4 dX12_writes_283 rfl (by decide) h (fun v56 hv57 h => ?_)
                          refine J_goto C (tgt := 326) dX12_writes_286 (by decide) ?_
                          exact J_sub [2, 3, 4, 0, 5, 7] rfl (pc20 x2 h2 v56 hv57 x4 h4 x6 h6 σ50 hσ51 h)
                        · refine J_aload_n C 0 dX12_writes_268 rfl 1 rfl ?_
                          refine J_getR C fl_RX12_104 oR_0 rfl dX12_writes_269 ?_
                          refine J_iload_n C 3 dX12_writes_272 rfl 4 rfl ?_
                          refine J_iconst C dX12_writes_273 ?_
                          refine J_isub C dX12_writes_274 h (fun v58 hv59 h => ?_)
                          refine J_iald C aR_32 hσ51 dX12_writes_275 h (fun v60 hv61 h => ?_)
                          refine J_iconst C dX12_writes_276 ?_
                          refine J_isub C dX12_writes_277 h (fun v62 hv63 h => ?_)
                          refine J_istore (lo2 := [(4, vi v62), (7, vi y0), (0, .ref (gad g 0)), (1, vi x1), (2, vi x2), (3, vi x3), (5, vi x5), (6, vi x6)]) C 4 dX12_writes_278 (by decide) rfl ?_
                          refine J_goto C (tgt := 326) dX12_writes_280 (by decide) ?_
                          exact J_sub [2, 3, 4, 5, 0, 7] rfl (pc20 x2 h2 x3 h3 v62 hv63 x6 h6 σ50 hσ51 h)
                    · rcases lt_or h with ⟨c38, h⟩ | ⟨c38, h⟩
                      · refine J_switch C (tgt := 289) h5 dX12_writes_95 (194) (fun z => absurd z (by omega)) (fun _ _ => by rw [c38]; rfl) (by decide) ?_
                        refine J_iload C 7 dX12_writes_289 0 rfl ?_
                        refine J_iconst C dX12_writes_291 ?_
                        refine J_bipush C dX12_writes_292 (bp8 (by decide) (by decide)) ?_
                        obtain ⟨q39, cq39, h⟩ := bdS h
                        refine J_callS C mw_X12_isIn ml_RX12_177 (m_X12_isIn x.2.1 g (CxI C) y0 g0 1 rl_1 50 rl_50 σ hσ q39 cq39) (Nat.le_of_ble_eq_true rfl) (Nat.le_of_ble_eq_true rfl) rfl rfl (Nat.le_of_ble_eq_true rfl) dX12_writes_294 (fun hz40 => ?_)
                        refine J_if_ne C (rg01 hz40) (tgt := 303) dX12_writes_297 (by decide) h (fun h c43 => ?_) (fun h c43 => ?_)
                        · have e9 := sE h
                          exact J_sub [5] rfl (k5 (x4, σ) e9.symm h4 hσ)
                        · refine J_aload_n C 0 dX12_writes_303 rfl 1 rfl ?_
                          refine J_iload C 7 dX12_writes_304 0 rfl ?_
                          refine J_putI C fl_RX12_218 fp_RX12_40 oR_0 rfl rfl lR_0 hσ g0 dX12_writes_306 h (fun σ41 hσ42 h => ?_)
                          refine J_goto C (tgt := 326) dX12_writes_309 (by decide) ?_
                          exact J_sub [1, 2, 3, 4, 5, 7] rfl (pc20 x2 h2 x3 h3 x4 h4 x6 h6 σ41 hσ42 h)
                      · refine J_switch C (tgt := 312) h5 dX12_writes_95 (217) (fun _ => rfl) (fun z1 z2 => absurd z1 (by omega)) (by decide) ?_
                        refine J_aload_n C 0 dX12_writes_312 rfl 1 rfl ?_
                        refine J_iload_n C 1 dX12_writes_313 rfl 2 rfl ?_
                        refine J_iload C 4 dX12_writes_314 5 rfl ?_
                        refine J_iload_n C 2 dX12_writes_316 rfl 3 rfl ?_
                        obtain ⟨q18, cq18, h⟩ := bdS h
                        refine J_callV C mw_X12_cuesBy ml_RX12_225 (m_X12_cuesBy x.2.1 g (CxI C) x1 h1 x4 h4 x2 h2 σ hσ q18 cq18) oR_0 rfl (Nat.le_of_ble_eq_true rfl) (Nat.le_of_ble_eq_true rfl) rfl rfl (Nat.le_of_ble_eq_true rfl) dX12_writes_317 (fun hz19 => ?_)
                        refine J_if_ne C (rg01 hz19.1) (tgt := 326) dX12_writes_320 (by decide) h (fun h c29 => ?_) (fun h c29 => ?_)
                        · have e9 := sE h
                          exact J_sub [5] rfl (k6 (x4, q18.2) e9.symm h4 hz19.2)
                        · exact J_sub [1, 2, 3, 4, 5, 7] rfl (pc20 x2 h2 x3 h3 x4 h4 x6 h6 q18.2 hz19.2 h)
    refine J_iload C 4 dX12_writes_18 4 rfl ?_
    refine J_aload_n C 0 dX12_writes_20 rfl 0 rfl ?_
    refine J_getR C fl_RX12_94 oR_0 rfl dX12_writes_21 ?_
    refine J_iload_n C 1 dX12_writes_24 rfl 1 rfl ?_
    refine J_iald C aR_29 hσ dX12_writes_25 h (fun v5 hv6 h => ?_)
    refine J_icmp_ge C h4 hv6 (tgt := 338) dX12_writes_26 (by decide) h (fun h c177 => ?_) (fun h c177 => ?_)
    · refine J_aload_n C 0 dX12_writes_29 rfl 0 rfl ?_
      refine J_iload_n C 1 dX12_writes_30 rfl 1 rfl ?_
      refine J_iload C 4 dX12_writes_31 4 rfl ?_
      obtain ⟨q7, cq7, h⟩ := bdS h
      refine J_callV C mw_X12_word ml_RX12_211 (m_X12_word x.2.1 g (CxI C) x1 h1 x4 h4 σ hσ q7 cq7) oR_0 rfl (Nat.le_of_ble_eq_true rfl) (Nat.le_of_ble_eq_true rfl) rfl rfl (Nat.le_of_ble_eq_true rfl) dX12_writes_33 (fun hz8 => ?_)
      refine J_istore (lo2 := [(5, vi q7), (0, .ref (gad g 0)), (1, vi x1), (2, vi x2), (3, vi x3), (4, vi x4)]) C 5 dX12_writes_36 (by decide) rfl ?_
      refine J_iload C 5 dX12_writes_38 0 rfl ?_
      obtain ⟨q9, cq9, h⟩ := bdS h
      refine J_callS C mw_X12_numbers ml_RX12_221 (m_X12_numbers x.2.1 g (CxI C) q7 hz8 σ hσ q9 cq9) (Nat.le_of_ble_eq_true rfl) (Nat.le_of_ble_eq_true rfl) rfl rfl (Nat.le_of_ble_eq_true rfl) dX12_writes_40 (fun hz10 => ?_)
      refine J_istore (lo2 := [(6, vi q9), (5, vi q7), (0, .ref (gad g 0)), (1, vi x1), (2, vi x2), (3, vi x3), (4, vi x4)]) C 6 dX12_writes_43 (by decide) rfl ?_
      refine J_iload C 5 dX12_writes_45 1 rfl ?_
      refine J_iconst C dX12_writes_47 ?_
      refine J_bipush C dX12_writes_48 (bp8 (by decide) (by decide)) ?_
      obtain ⟨q11, cq11, h⟩ := bdS h
      refine J_callS C mw_X12_isIn ml_RX12_177 (m_X12_isIn x.2.1 g (CxI C) q7 hz8 0 rl_0 8 rl_8 σ hσ q11 cq11) (Nat.le_of_ble_eq_true rfl) (Nat.le_of_ble_eq_true rfl) rfl rfl (Nat.le_of_ble_eq_true rfl) dX12_writes_50 (fun hz12 => ?_)
      refine J_if_eq C (rg01 hz12) (tgt := 70) dX12_writes_53 (by decide) h (fun h c176 => ?_) (fun h c176 => ?_)
      · have e9 := sE h
        exact J_sub [6] rfl (k0 (x4, σ) e9.symm h4 hσ)
      · refine J_iload C 4 dX12_writes_56 6 rfl ?_
        refine J_iload C 6 dX12_writes_58 0 rfl ?_
        refine J_iadd C dX12_writes_60 h (fun v13 hv14 h => ?_)
        refine J_aload_n C 0 dX12_writes_61 rfl 2 rfl ?_
        refine J_getR C fl_RX12_94 oR_0 rfl dX12_writes_62 ?_
        refine J_iload_n C 1 dX12_writes_65 rfl 3 rfl ?_
        refine J_iald C aR_29 hσ dX12_writes_66 h (fun v15 hv16 h => ?_)
        refine J_icmp_lt C hv14 hv16 (tgt := 73) dX12_writes_67 (by decide) h (fun h c175 => ?_) (fun h c175 => ?_)
        · refine J_iload C 6 dX12_writes_73 0 rfl ?_
          refine J_if_le C hz10 (tgt := 90) dX12_writes_75 (by decide) h (fun h c174 => ?_) (fun h c174 => ?_)
          · refine J_iconst C dX12_writes_90 ?_
            exact J_sub [2, 3, 4, 5, 6, 1, 0] rfl (pc17 x2 h2 x3 h3 x4 h4 q7 hz8 q9 hz10 0 rl_0 σ hσ h)
          · refine J_aload_n C 0 dX12_writes_78 rfl 2 rfl ?_
            refine J_iload_n C 1 dX12_writes_79 rfl 3 rfl ?_
            refine J_iload C 4 dX12_writes_80 6 rfl ?_
            refine J_iconst C dX12_writes_82 ?_
            refine J_iadd C dX12_writes_83 h (fun v170 hv171 h => ?_)
            obtain ⟨q172, cq172, h⟩ := bdS h
            refine J_callV C mw_X12_word ml_RX12_211 (m_X12_word x.2.1 g (CxI C) x1 h1 v170 hv171 σ hσ q172 cq172) oR_0 rfl (Nat.le_of_ble_eq_true rfl) (Nat.le_of_ble_eq_true rfl) rfl rfl (Nat.le_of_ble_eq_true rfl) dX12_writes_84 (fun hz173 => ?_)
            refine J_goto C (tgt := 91) dX12_writes_87 (by decide) ?_
            exact J_sub [2, 3, 4, 5, 6, 1, 0] rfl (pc17 x2 h2 x3 h3 x4 h4 q7 hz8 q9 hz10 q172 hz173 σ hσ h)
        · have e9 := sE h
          exact J_sub [6] rfl (k0 (x4, σ) e9.symm h4 hσ)
    · have e9 := sE h
      exact J_sub [0, 1] rfl (k7 σ e9.symm hσ)
set_option maxRecDepth 100000 in
set_option maxHeartbeats 4000000 in
theorem m_X12_writes (l : Launch) (g : Gm) (hg : gInj yR g) (x1 : Int) (h1 : rg x1) (σ : Sg) (hσ : wfS yR σ) (q : Int × Sg) (h : fX12_writes x1 σ = some q) : CJ l yR g yX12_writes cX12_writes 8 (some .int) 3 73 [.ref (gad g 0), vi x1] σ (some (vi q.1)) q.2 ((rg q.1) ∧ wfS yR q.2) := by
  refine CJ_of hg (by decide) rfl (Nat.le_of_ble_eq_true rfl) (lo := [(0, .ref (gad g 0)), (1, vi x1)]) rfl (fun x C E => ?_)
  unfold fX12_writes at h
  refine J_aload_n C 0 dX12_writes_0 rfl 0 rfl ?_
  refine J_iconst C dX12_writes_1 ?_
  refine J_putI C fl_RX12_208 fp_RX12_39 oR_0 rfl rfl lR_0 hσ rl_0 dX12_writes_2 h (fun σ1 hσ2 h => ?_)
  refine J_aload_n C 0 dX12_writes_5 rfl 0 rfl ?_
  refine J_bipush C dX12_writes_6 (bp8 (by decide) (by decide)) ?_
  refine J_putI C fl_RX12_218 fp_RX12_40 oR_0 rfl rfl lR_0 hσ2 rl_10 dX12_writes_8 h (fun σ3 hσ4 h => ?_)
  refine J_iconst C dX12_writes_11 ?_
  refine J_istore_n (lo2 := [(2, vi 0), (0, .ref (gad g 0)), (1, vi x1)]) C 2 dX12_writes_12 rfl (by decide) rfl ?_
  refine J_iconst C dX12_writes_13 ?_
  refine J_istore_n (lo2 := [(3, vi 0), (2, vi 0), (0, .ref (gad g 0)), (1, vi x1)]) C 3 dX12_writes_14 rfl (by decide) rfl ?_
  refine J_iconst C dX12_writes_15 ?_
  refine J_istore (lo2 := [(4, vi 0), (3, vi 0), (2, vi 0), (0, .ref (gad g 0)), (1, vi x1)]) C 4 dX12_writes_16 (by decide) rfl ?_
  obtain ⟨q178, cq178, h⟩ := bdS h
  refine J_sub [3, 4, 2, 1, 0] rfl (wX12_writes_L18 C fu x1 h1 0 rl_0 0 rl_0 0 rl_0 σ3 hσ4 q178 cq178 (fun a179 ea179 hr180 hσ181 => ?_) (fun a182 ea182 hr183 hr184 hσ185 => ?_) (fun a187 ea187 hr188 hσ189 => ?_) (fun a190 ea190 hr191 hσ192 => ?_) (fun a193 ea193 hr194 hσ195 => ?_) (fun a196 ea196 hr197 hσ198 => ?_) (fun a199 ea199 hr200 hσ201 => ?_) (fun a202 ea202 hσ203 => ?_))
  · subst ea179
    have h := elL h
    refine J_iload C 4 dX12_writes_70 0 rfl ?_
    have e9 := sE h
    subst e9
    exact J_iret C E ⟨hr180, hσ181⟩ dX12_writes_72
  · subst ea182
    have h := elR h
    have h := elL h
    refine J_iload_n C 3 dX12_writes_144 rfl 0 rfl ?_
    refine J_if_ne C hr183 (tgt := 152) dX12_writes_145 (by decide) h (fun h c186 => ?_) (fun h c186 => ?_)
    · refine J_iconst C dX12_writes_148 ?_
      refine J_goto C (tgt := 154) dX12_writes_149 (by decide) ?_
      have e9 := sE h
      subst e9
      exact J_iret C E ⟨rl_m1, hσ185⟩ dX12_writes_154
    · refine J_iload C 4 dX12_writes_152 1 rfl ?_
      have e9 := sE h
      subst e9
      exact J_iret C E ⟨hr184, hσ185⟩ dX12_writes_154
  · subst ea187
    have h := elR h
    have h := elR h
    have h := elL h
    refine J_iload C 4 dX12_writes_166 0 rfl ?_
    have e9 := sE h
    subst e9
    exact J_iret C E ⟨hr188, hσ189⟩ dX12_writes_168
  · subst ea190
    have h := elR h
    have h := elR h
    have h := elR h
    have h := elL h
    refine J_iload C 4 dX12_writes_211 0 rfl ?_
    have e9 := sE h
    subst e9
    exact J_iret C E ⟨hr191, hσ192⟩ dX12_writes_213
  · subst ea193
    have h := elR h
    have h := elR h
    have h := elR h
    have h := elR h
    have h := elL h
    refine J_iload C 4 dX12_writes_242 0 rfl ?_
    have e9 := sE h
    subst e9
    exact J_iret C E ⟨hr194, hσ195⟩ dX12_writes_244
  · subst ea196
    have h := elR h
    have h := elR h
    have h := elR h
    have h := elR h
    have h := elR h
    have h := elL h
    refine J_iload C 4 dX12_writes_300 0 rfl ?_
    have e9 := sE h
    subst e9
    exact J_iret C E ⟨hr197, hσ198⟩ dX12_writes_302
  · subst ea199
    have h := elR h
    have h := elR h
    have h := elR h
    have h := elR h
    have h := elR h
    have h := elR h
    have h := elL h
    refine J_iload C 4 dX12_writes_323 0 rfl ?_
    have e9 := sE h
    subst e9
    exact J_iret C E ⟨hr200, hσ201⟩ dX12_writes_325
  · subst ea202
    have h := elR h
    have h := elR h
    have h := elR h
    have h := elR h
    have h := elR h
    have h := elR h
    have h := elR h
    refine J_aload_n C 0 dX12_writes_338 rfl 0 rfl ?_
    refine J_getR C fl_RX12_94 oR_0 rfl dX12_writes_339 ?_
    refine J_iload_n C 1 dX12_writes_342 rfl 1 rfl ?_
    refine J_iald C aR_29 hσ203 dX12_writes_343 h (fun v204 hv205 h => ?_)
    have e9 := sE h
    subst e9
    exact J_iret C E ⟨hv205, hσ203⟩ dX12_writes_344
set_option maxRecDepth 100000 in
set_option maxHeartbeats 4000000 in
theorem m_X12_isTape (l : Launch) (g : Gm) (hg : gInj yR g) (x0 : Int) (h0 : rg x0) (σ : Sg) (hσ : wfS yR σ) (q : Int) (h : fX12_isTape x0 σ = some q) : CJ l yR g yX12_isTape cX12_isTape 1 (some .boolean) 1 22 [vi x0] σ (some (vi q)) σ (q = 0 ∨ q = 1) := by
  refine CJ_of hg (by decide) rfl (Nat.le_of_ble_eq_true rfl) (lo := [(0, vi x0)]) rfl (fun x C E => ?_)
  unfold fX12_isTape at h
  refine J_iload_n C 0 dX12_isTape_0 rfl 0 rfl ?_
  refine J_iconst C dX12_isTape_1 ?_
  refine J_iconst C dX12_isTape_2 ?_
  obtain ⟨q1, cq1, h⟩ := bdS h
  refine J_callS C mw_X12_isIn ml_RX12_177 (m_X12_isIn x.2.1 g (CxI C) x0 h0 0 rl_0 5 rl_5 σ hσ q1 cq1) (Nat.le_of_ble_eq_true rfl) (Nat.le_of_ble_eq_true rfl) rfl rfl (Nat.le_of_ble_eq_true rfl) dX12_isTape_3 (fun hz2 => ?_)
  have e9 := sE h
  subst e9
  exact J_zret C hz2 E hz2 dX12_isTape_6
set_option maxRecDepth 100000 in
set_option maxHeartbeats 4000000 in
theorem m_X12_wrongBytes (l : Launch) (g : Gm) (hg : gInj yR g) (x1 : Int) (h1 : rg x1) (σ : Sg) (hσ : wfS yR σ) (q : Int × Sg) (h : fX12_wrongBytes x1 σ = some q) : CJ l yR g yX12_wrongBytes cX12_wrongBytes 2 (some .int) 1 21 [.ref (gad g 0), vi x1] σ (some (vi q.1)) q.2 ((rg q.1) ∧ wfS yR q.2) := by
  refine CJ_of hg (by decide) rfl (Nat.le_of_ble_eq_true rfl) (lo := [(0, .ref (gad g 0)), (1, vi x1)]) rfl (fun x C E => ?_)
  unfold fX12_wrongBytes at h
  refine J_aload_n C 0 dX12_wrongBytes_0 rfl 0 rfl ?_
  refine J_getR C fl_RX12_91 oR_0 rfl dX12_wrongBytes_1 ?_
  refine J_iload_n C 1 dX12_wrongBytes_4 rfl 1 rfl ?_
  refine J_iald C aR_28 hσ dX12_wrongBytes_5 h (fun v1 hv2 h => ?_)
  refine J_if_ne C hv2 (tgt := 18) dX12_wrongBytes_6 (by decide) h (fun h c10 => ?_) (fun h c10 => ?_)
  · refine J_aload_n C 0 dX12_wrongBytes_9 rfl 0 rfl ?_
    refine J_bipush C dX12_wrongBytes_10 (bp8 (by decide) (by decide)) ?_
    obtain ⟨q8, cq8, h⟩ := bdS h
    refine J_callV C mw_X12_host ml_RX12_228 (m_X12_host x.2.1 g (CxI C) (-11) rl_m11 σ hσ q8 cq8) oR_0 rfl (Nat.le_of_ble_eq_true rfl) (Nat.le_of_ble_eq_true rfl) rfl rfl (Nat.le_of_ble_eq_true rfl) dX12_wrongBytes_12 (fun hz9 => ?_)
    refine J_goto C (tgt := 38) dX12_wrongBytes_15 (by decide) ?_
    have e9 := sE h
    subst e9
    exact J_iret C E ⟨hz9.1, hz9.2⟩ dX12_wrongBytes_38
  · refine J_aload_n C 0 dX12_wrongBytes_18 rfl 0 rfl ?_
    refine J_getR C fl_RX12_91 oR_0 rfl dX12_wrongBytes_19 ?_
    refine J_iload_n C 1 dX12_wrongBytes_22 rfl 1 rfl ?_
    refine J_iald C aR_28 hσ dX12_wrongBytes_23 h (fun v3 hv4 h => ?_)
    refine J_iconst C dX12_wrongBytes_24 ?_
    refine J_icmp_eq C hv4 rl_1 (tgt := 37) dX12_wrongBytes_25 (by decide) h (fun h c7 => ?_) (fun h c7 => ?_)
    · refine J_iconst C dX12_wrongBytes_37 ?_
      have e9 := sE h
      subst e9
      exact J_iret C E ⟨rl_0, hσ⟩ dX12_wrongBytes_38
    · refine J_aload_n C 0 dX12_wrongBytes_28 rfl 0 rfl ?_
      refine J_bipush C dX12_wrongBytes_29 (bp8 (by decide) (by decide)) ?_
      obtain ⟨q5, cq5, h⟩ := bdS h
      refine J_callV C mw_X12_host ml_RX12_228 (m_X12_host x.2.1 g (CxI C) (-12) rl_m12 σ hσ q5 cq5) oR_0 rfl (Nat.le_of_ble_eq_true rfl) (Nat.le_of_ble_eq_true rfl) rfl rfl (Nat.le_of_ble_eq_true rfl) dX12_wrongBytes_31 (fun hz6 => ?_)
      refine J_goto C (tgt := 38) dX12_wrongBytes_34 (by decide) ?_
      have e9 := sE h
      subst e9
      exact J_iret C E ⟨hz6.1, hz6.2⟩ dX12_wrongBytes_38
set_option maxRecDepth 100000 in
set_option maxHeartbeats 4000000 in
theorem wX12_comes_L12 {x : Ct} {g : Gm} (C : Cx x yR g 3 cX12_comes RX12 0 0) : ∀ (n : Nat) (x2 : Int) (h2 : rg x2) (σ : Sg) (hσ : wfS yR σ) (q : Sg) (h : fX12_comes_L12 n x2 σ = some q) (k : wfS yR q → J x yR g 3 31 [] [] q), J x yR g 3 12 [(0, .ref (gad g 0)), (2, vi x2)] [] σ := by
  intro n
  induction n with
  | zero =>
    intro x2 h2 σ hσ q h k
    exact absurd h (by intro z; cases z)
  | succ n ih =>
    intro x2 h2 σ hσ q h k
    rw [fX12_comes_L12] at h
    refine J_iload_n C 2 dX12_comes_12 rfl 1 rfl ?_
    refine J_bipush C dX12_comes_13 (bp8 (by decide) (by decide)) ?_
    refine J_icmp_ge C h2 rl_120 (tgt := 31) dX12_comes_15 (by decide) h (fun h c9 => ?_) (fun h c9 => ?_)
    · refine J_aload_n C 0 dX12_comes_18 rfl 0 rfl ?_
      refine J_getR C fl_RX12_58 oR_0 rfl dX12_comes_19 ?_
      refine J_iload_n C 2 dX12_comes_22 rfl 1 rfl ?_
      refine J_iconst C dX12_comes_23 ?_
      refine J_iast C aR_17 hσ rl_0 dX12_comes_24 h (fun σ5 hσ6 h => ?_)
      refine J_iinc C 2 1 dX12_comes_25 rfl (by decide) h (fun v7 hv8 h => ?_)
      refine J_goto C (tgt := 12) dX12_comes_28 (by decide) ?_
      exact J_sub [1, 0] rfl (ih v7 hv8 σ5 hσ6 q h k)
    · have e9 := sE h
      subst e9
      exact J_sub [] rfl (k hσ)
set_option maxRecDepth 100000 in
set_option maxHeartbeats 4000000 in
theorem m_X12_comes (l : Launch) (g : Gm) (hg : gInj yR g) (x1 : Int) (h1 : rg x1) (σ : Sg) (hσ : wfS yR σ) (q : Sg) (h : fX12_comes x1 σ = some q) : CJ l yR g yX12_comes cX12_comes 3 none 0 0 [.ref (gad g 0), vi x1] σ none q (wfS yR q) := by
  refine CJ_of hg (by decide) rfl (Nat.le_of_ble_eq_true rfl) (lo := [(0, .ref (gad g 0)), (1, vi x1)]) rfl (fun x C E => ?_)
  unfold fX12_comes at h
  refine J_aload_n C 0 dX12_comes_0 rfl 0 rfl ?_
  refine J_iload_n C 1 dX12_comes_1 rfl 1 rfl ?_
  refine J_putI C fl_RX12_159 fp_RX12_32 oR_0 rfl rfl lR_0 hσ h1 dX12_comes_2 h (fun σ1 hσ2 h => ?_)
  refine J_aload_n C 0 dX12_comes_5 rfl 0 rfl ?_
  refine J_iconst C dX12_comes_6 ?_
  refine J_putI C fl_RX12_171 fp_RX12_36 oR_0 rfl rfl lR_0 hσ2 rl_0 dX12_comes_7 h (fun σ3 hσ4 h => ?_)
  refine J_iconst C dX12_comes_10 ?_
  refine J_istore_n (lo2 := [(2, vi 0), (0, .ref (gad g 0)), (1, vi x1)]) C 2 dX12_comes_11 rfl (by decide) rfl ?_
  obtain ⟨q10, cq10, h⟩ := bdS h
  refine J_sub [1, 0] rfl (wX12_comes_L12 C fu 0 rl_0 σ3 hσ4 q10 cq10 (fun hσ11 => ?_))
  have e9 := sE h
  subst e9
  exact J_vret C E hσ11 dX12_comes_31
set_option maxRecDepth 100000 in
set_option maxHeartbeats 4000000 in
theorem wX12_write_L52 {x : Ct} {g : Gm} (C : Cx x yR g 5 cX12_write RX12 4 100) : ∀ (n : Nat) (x4 : Int) (h4 : rg x4) (σ : Sg) (hσ : wfS yR σ) (q : Sg) (h : fX12_write_L52 n x4 σ = some q) (k : wfS yR q → J x yR g 5 123 [(0, .ref (gad g 0))] [] q), J x yR g 5 52 [(0, .ref (gad g 0)), (4, vi x4)] [] σ := by
  intro n
  induction n with
  | zero =>
    intro x4 h4 σ hσ q h k
    exact absurd h (by intro z; cases z)
  | succ n ih =>
    intro x4 h4 σ hσ q h k
    rw [fX12_write_L52] at h
    refine J_iload C 4 dX12_write_52 1 rfl ?_
    refine J_aload_n C 0 dX12_write_54 rfl 0 rfl ?_
    refine J_getI C fl_RX12_159 oR_0 rfl dX12_write_55 ?_
    refine J_icmp_ge C h4 (hσ 0 32 lR_0) (tgt := 123) dX12_write_58 (by decide) h (fun h c29 => ?_) (fun h c29 => ?_)
    · refine J_aload_n C 0 dX12_write_61 rfl 0 rfl ?_
      refine J_getR C fl_RX12_46 oR_0 rfl dX12_write_62 ?_
      refine J_iload C 4 dX12_write_65 1 rfl ?_
      refine J_aload_n C 0 dX12_write_67 rfl 0 rfl ?_
      refine J_getR C fl_RX12_61 oR_0 rfl dX12_write_68 ?_
      refine J_iload C 4 dX12_write_71 1 rfl ?_
      refine J_iald C aR_18 hσ dX12_write_73 h (fun v11 hv12 h => ?_)
      refine J_iast C aR_13 hσ hv12 dX12_write_74 h (fun σ13 hσ14 h => ?_)
      refine J_aload_n C 0 dX12_write_75 rfl 0 rfl ?_
      refine J_getR C fl_RX12_49 oR_0 rfl dX12_write_76 ?_
      refine J_iload C 4 dX12_write_79 1 rfl ?_
      refine J_aload_n C 0 dX12_write_81 rfl 0 rfl ?_
      refine J_getR C fl_RX12_64 oR_0 rfl dX12_write_82 ?_
      refine J_iload C 4 dX12_write_85 1 rfl ?_
      refine J_iald C aR_19 hσ14 dX12_write_87 h (fun v15 hv16 h => ?_)
      refine J_iast C aR_14 hσ14 hv16 dX12_write_88 h (fun σ17 hσ18 h => ?_)
      refine J_aload_n C 0 dX12_write_89 rfl 0 rfl ?_
      refine J_getR C fl_RX12_52 oR_0 rfl dX12_write_90 ?_
      refine J_iload C 4 dX12_write_93 1 rfl ?_
      refine J_aload_n C 0 dX12_write_95 rfl 0 rfl ?_
      refine J_getR C fl_RX12_67 oR_0 rfl dX12_write_96 ?_
      refine J_iload C 4 dX12_write_99 1 rfl ?_
      refine J_iald C aR_20 hσ18 dX12_write_101 h (fun v19 hv20 h => ?_)
      refine J_iast C aR_15 hσ18 hv20 dX12_write_102 h (fun σ21 hσ22 h => ?_)
      refine J_aload_n C 0 dX12_write_103 rfl 0 rfl ?_
      refine J_getR C fl_RX12_55 oR_0 rfl dX12_write_104 ?_
      refine J_iload C 4 dX12_write_107 1 rfl ?_
      refine J_aload_n C 0 dX12_write_109 rfl 0 rfl ?_
      refine J_getR C fl_RX12_70 oR_0 rfl dX12_write_110 ?_
      refine J_iload C 4 dX12_write_113 1 rfl ?_
      refine J_iald C aR_21 hσ22 dX12_write_115 h (fun v23 hv24 h => ?_)
      refine J_iast C aR_16 hσ22 hv24 dX12_write_116 h (fun σ25 hσ26 h => ?_)
      refine J_iinc C 4 1 dX12_write_117 rfl (by decide) h (fun v27 hv28 h => ?_)
      refine J_goto C (tgt := 52) dX12_write_120 (by decide) ?_
      exact J_sub [1, 0] rfl (ih v27 hv28 σ25 hσ26 q h k)
    · have e9 := sE h
      subst e9
      exact J_sub [0] rfl (k hσ)
set_option maxRecDepth 100000 in
set_option maxHeartbeats 4000000 in
theorem m_X12_write (l : Launch) (g : Gm) (hg : gInj yR g) (x1 : Int) (h1 : rg x1) (σ : Sg) (hσ : wfS yR σ) (q : Int × Sg) (h : fX12_write x1 σ = some q) : CJ l yR g yX12_write cX12_write 5 (some .int) 4 100 [.ref (gad g 0), vi x1] σ (some (vi q.1)) q.2 ((rg q.1) ∧ wfS yR q.2) := by
  refine CJ_of hg (by decide) rfl (Nat.le_of_ble_eq_true rfl) (lo := [(0, .ref (gad g 0)), (1, vi x1)]) rfl (fun x C E => ?_)
  unfold fX12_write at h
  refine J_aload_n C 0 dX12_write_0 rfl 0 rfl ?_
  refine J_iconst C dX12_write_1 ?_
  refine J_putZ C fl_RX12_155 fp_RX12_54 oR_0 rfl rfl lR_0 hσ (Or.inl rfl) dX12_write_2 h (fun σ1 hσ2 h => ?_)
  refine J_iload_n C 1 dX12_write_5 rfl 1 rfl ?_
  obtain ⟨q3, cq3, h⟩ := bdS h
  refine J_callS C mw_X12_isTape ml_RX12_231 (m_X12_isTape x.2.1 g (CxI C) x1 h1 σ1 hσ2 q3 cq3) (Nat.le_of_ble_eq_true rfl) (Nat.le_of_ble_eq_true rfl) rfl rfl (Nat.le_of_ble_eq_true rfl) dX12_write_6 (fun hz4 => ?_)
  refine J_if_ne C (rg01 hz4) (tgt := 14) dX12_write_9 (by decide) h (fun h c36 => ?_) (fun h c36 => ?_)
  · refine J_iconst C dX12_write_12 ?_
    have e9 := sE h
    subst e9
    exact J_iret C E ⟨rl_m1, hσ2⟩ dX12_write_13
  · refine J_aload_n C 0 dX12_write_14 rfl 0 rfl ?_
    refine J_iload_n C 1 dX12_write_15 rfl 1 rfl ?_
    obtain ⟨q5, cq5, h⟩ := bdS h
    refine J_callV C mw_X12_wrongBytes ml_RX12_234 (m_X12_wrongBytes x.2.1 g (CxI C) x1 h1 σ1 hσ2 q5 cq5) oR_0 rfl (Nat.le_of_ble_eq_true rfl) (Nat.le_of_ble_eq_true rfl) rfl rfl (Nat.le_of_ble_eq_true rfl) dX12_write_16 (fun hz6 => ?_)
    refine J_istore_n (lo2 := [(2, vi q5.1), (0, .ref (gad g 0)), (1, vi x1)]) C 2 dX12_write_19 rfl (by decide) rfl ?_
    refine J_iload_n C 2 dX12_write_20 rfl 0 rfl ?_
    refine J_if_eq C hz6.1 (tgt := 26) dX12_write_21 (by decide) h (fun h c35 => ?_) (fun h c35 => ?_)
    · refine J_aload_n C 0 dX12_write_26 rfl 1 rfl ?_
      refine J_iload_n C 1 dX12_write_27 rfl 2 rfl ?_
      obtain ⟨q7, cq7, h⟩ := bdS h
      refine J_callV C mw_X12_writes ml_RX12_237 (m_X12_writes x.2.1 g (CxI C) x1 h1 q5.2 hz6.2 q7 cq7) oR_0 rfl (Nat.le_of_ble_eq_true rfl) (Nat.le_of_ble_eq_true rfl) rfl rfl (Nat.le_of_ble_eq_true rfl) dX12_write_28 (fun hz8 => ?_)
      refine J_istore_n (lo2 := [(3, vi q7.1), (2, vi q5.1), (0, .ref (gad g 0)), (1, vi x1)]) C 3 dX12_write_31 rfl (by decide) rfl ?_
      refine J_iload_n C 3 dX12_write_32 rfl 0 rfl ?_
      refine J_if_lt C hz8.1 (tgt := 41) dX12_write_33 (by decide) h (fun h c34 => ?_) (fun h c34 => ?_)
      · refine J_aload_n C 0 dX12_write_41 rfl 2 rfl ?_
        refine J_aload_n C 0 dX12_write_42 rfl 2 rfl ?_
        refine J_getI C fl_RX12_208 oR_0 rfl dX12_write_43 ?_
        obtain ⟨q9, cq9, h⟩ := bdS h
        refine J_callV C mw_X12_comes ml_RX12_240 (m_X12_comes x.2.1 g (CxI C) (q7.2 0 39) (hz8.2 0 39 lR_0) q7.2 hz8.2 q9 cq9) oR_0 rfl (Nat.le_of_ble_eq_true rfl) (Nat.le_of_ble_eq_true rfl) rfl rfl (Nat.le_of_ble_eq_true rfl) dX12_write_46 (fun hz10 => ?_)
        refine J_iconst C dX12_write_49 ?_
        refine J_istore (lo2 := [(4, vi 0), (3, vi q7.1), (2, vi q5.1), (0, .ref (gad g 0)), (1, vi x1)]) C 4 dX12_write_50 (by decide) rfl ?_
        obtain ⟨q30, cq30, h⟩ := bdS h
        refine J_sub [3, 0] rfl (wX12_write_L52 C fu 0 rl_0 q9 hz10 q30 cq30 (fun hσ31 => ?_))
        refine J_aload_n C 0 dX12_write_123 rfl 0 rfl ?_
        refine J_getI C fl_RX12_159 oR_0 rfl dX12_write_124 ?_
        have e9 := sE h
        subst e9
        exact J_iret C E ⟨(hσ31 0 32 lR_0), hσ31⟩ dX12_write_127
      · refine J_bipush C dX12_write_36 (bp8 (by decide) (by decide)) ?_
        refine J_iload_n C 3 dX12_write_38 rfl 0 rfl ?_
        refine J_isub C dX12_write_39 h (fun v32 hv33 h => ?_)
        have e9 := sE h
        subst e9
        exact J_iret C E ⟨hv33, hz8.2⟩ dX12_write_40
    · refine J_iload_n C 2 dX12_write_24 rfl 0 rfl ?_
      have e9 := sE h
      subst e9
      exact J_iret C E ⟨hz6.1, hz6.2⟩ dX12_write_25
