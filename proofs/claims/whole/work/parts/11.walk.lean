set_option maxRecDepth 100000 in
set_option maxHeartbeats 4000000 in
theorem m_X6_setBeat (l : Launch) (g : Gm) (hg : gInj yC g) (x1 : Int) (h1 : rg x1) (σ : Sg) (hσ : wfS yC σ) (q : Int × Sg) (h : fX6_setBeat x1 σ = some q) : CJ l yC g yX6_setBeat cX6_setBeat 2 (some .boolean) 0 0 [.ref (gad g 24), vi x1] σ (some (vi q.1)) q.2 ((q.1 = 0 ∨ q.1 = 1) ∧ wfS yC q.2) := by
  refine CJ_of hg (by decide) rfl (Nat.le_of_ble_eq_true rfl) (lo := [(0, .ref (gad g 24)), (1, vi x1)]) rfl (fun x C E => ?_)
  unfold fX6_setBeat at h
  refine J_iload_n C 1 dX6_setBeat_0 rfl 1 rfl ?_
  refine J_iconst C dX6_setBeat_1 ?_
  refine J_icmp_lt C h1 rl_1 (tgt := 11) dX6_setBeat_2 (by decide) h (fun h c4 => ?_) (fun h c4 => ?_)
  · refine J_iconst C dX6_setBeat_11 ?_
    have e9 := sE h
    subst e9
    exact J_zret C (Or.inl rfl) E ⟨(Or.inl rfl), hσ⟩ dX6_setBeat_12
  · refine J_iload_n C 1 dX6_setBeat_5 rfl 1 rfl ?_
    refine J_bipush C dX6_setBeat_6 (bp8 (by decide) (by decide)) ?_
    refine J_icmp_le C h1 rl_50 (tgt := 13) dX6_setBeat_8 (by decide) h (fun h c3 => ?_) (fun h c3 => ?_)
    · refine J_aload_n C 0 dX6_setBeat_13 rfl 0 rfl ?_
      refine J_iload_n C 1 dX6_setBeat_14 rfl 1 rfl ?_
      refine J_putI C fl_RX6_39 fp_RX6_6 oC_24 rfl rfl lC_24 hσ h1 dX6_setBeat_15 h (fun σ1 hσ2 h => ?_)
      refine J_iconst C dX6_setBeat_18 ?_
      have e9 := sE h
      subst e9
      exact J_zret C (Or.inr rfl) E ⟨(Or.inr rfl), hσ2⟩ dX6_setBeat_19
    · refine J_iconst C dX6_setBeat_11 ?_
      have e9 := sE h
      subst e9
      exact J_zret C (Or.inl rfl) E ⟨(Or.inl rfl), hσ⟩ dX6_setBeat_12
set_option maxRecDepth 100000 in
set_option maxHeartbeats 4000000 in
theorem m_X2_liftOf (l : Launch) (g : Gm) (hg : gInj yC g) (x1 : Int) (h1 : rg x1) (σ : Sg) (hσ : wfS yC σ) (q : Int) (h : fX2_liftOf x1 σ = some q) : CJ l yC g yX2_liftOf cX2_liftOf 2 (some .int) 1 21 [.ref (gad g 6), vi x1] σ (some (vi q)) σ (rg q) := by
  refine CJ_of hg (by decide) rfl (Nat.le_of_ble_eq_true rfl) (lo := [(0, .ref (gad g 6)), (1, vi x1)]) rfl (fun x C E => ?_)
  unfold fX2_liftOf at h
  refine J_aload_n C 0 dX2_liftOf_0 rfl 0 rfl ?_
  refine J_iload_n C 1 dX2_liftOf_1 rfl 1 rfl ?_
  obtain ⟨q1, cq1, h⟩ := bdS h
  refine J_callV C mw_X2_isTold ml_RX2_36 (m_X2_isTold x.2.1 g (CxI C) x1 h1 σ hσ q1 cq1) oC_6 rfl (Nat.le_of_ble_eq_true rfl) (Nat.le_of_ble_eq_true rfl) rfl rfl (Nat.le_of_ble_eq_true rfl) dX2_liftOf_2 (fun hz2 => ?_)
  refine J_if_eq C (rg01 hz2) (tgt := 17) dX2_liftOf_5 (by decide) h (fun h c5 => ?_) (fun h c5 => ?_)
  · refine J_iconst C dX2_liftOf_17 ?_
    have e9 := sE h
    subst e9
    exact J_iret C E rl_0 dX2_liftOf_18
  · refine J_aload_n C 0 dX2_liftOf_8 rfl 0 rfl ?_
    refine J_getR C fl_RX2_9 oC_6 rfl dX2_liftOf_9 ?_
    refine J_iload_n C 1 dX2_liftOf_12 rfl 1 rfl ?_
    refine J_iald C aC_7 hσ dX2_liftOf_13 h (fun v3 hv4 h => ?_)
    refine J_goto C (tgt := 18) dX2_liftOf_14 (by decide) ?_
    have e9 := sE h
    subst e9
    exact J_iret C E hv4 dX2_liftOf_18
set_option maxRecDepth 100000 in
set_option maxHeartbeats 4000000 in
theorem m_X1_append (l : Launch) (g : Gm) (hg : gInj yC g) (x0 : Nat) (h0 : isCues x0) (x1 : Int) (h1 : rg x1) (x2 : Int) (h2 : rg x2) (x3 : Int) (h3 : rg x3) (x4 : Int) (h4 : rg x4) (σ : Sg) (hσ : wfS yC σ) (q : Int × Sg) (h : fX1_append x0 x1 x2 x3 x4 σ = some q) : CJ l yC g yX1_append cX1_append 5 (some .boolean) 0 0 [.ref (gad g x0), vi x1, vi x2, vi x3, vi x4] σ (some (vi q.1)) q.2 ((q.1 = 0 ∨ q.1 = 1) ∧ wfS yC q.2) := by
  refine CJ_of hg (by decide) rfl (Nat.le_of_ble_eq_true rfl) (lo := [(0, .ref (gad g x0)), (1, vi x1), (2, vi x2), (3, vi x3), (4, vi x4)]) rfl (fun x C E => ?_)
  unfold fX1_append at h
  refine J_aload_n C 0 dX1_append_0 rfl 0 rfl ?_
  refine J_getI C fl_RX1_24 h0.1 rfl dX1_append_1 ?_
  refine J_if_lt C (hσ x0 4 h0.2.1) (tgt := 16) dX1_append_4 (by decide) h (fun h c14 => ?_) (fun h c14 => ?_)
  · refine J_iconst C dX1_append_16 ?_
    have e9 := sE h
    subst e9
    exact J_zret C (Or.inl rfl) E ⟨(Or.inl rfl), hσ⟩ dX1_append_17
  · refine J_aload_n C 0 dX1_append_7 rfl 0 rfl ?_
    refine J_getI C fl_RX1_24 h0.1 rfl dX1_append_8 ?_
    refine J_bipush C dX1_append_11 (bp8 (by decide) (by decide)) ?_
    refine J_icmp_lt C (hσ x0 4 h0.2.1) rl_120 (tgt := 18) dX1_append_13 (by decide) h (fun h c13 => ?_) (fun h c13 => ?_)
    · refine J_aload_n C 0 dX1_append_18 rfl 0 rfl ?_
      refine J_getR C fl_RX1_9 h0.1 rfl dX1_append_19 ?_
      refine J_aload_n C 0 dX1_append_22 rfl 0 rfl ?_
      refine J_getI C fl_RX1_24 h0.1 rfl dX1_append_23 ?_
      refine J_iload_n C 1 dX1_append_26 rfl 1 rfl ?_
      refine J_iast C (h0).2.2.1 hσ h1 dX1_append_27 h (fun σ1 hσ2 h => ?_)
      refine J_aload_n C 0 dX1_append_28 rfl 0 rfl ?_
      refine J_getR C fl_RX1_15 h0.1 rfl dX1_append_29 ?_
      refine J_aload_n C 0 dX1_append_32 rfl 0 rfl ?_
      refine J_getI C fl_RX1_24 h0.1 rfl dX1_append_33 ?_
      refine J_iload_n C 2 dX1_append_36 rfl 2 rfl ?_
      refine J_iast C (h0).2.2.2.1 hσ2 h2 dX1_append_37 h (fun σ3 hσ4 h => ?_)
      refine J_aload_n C 0 dX1_append_38 rfl 0 rfl ?_
      refine J_getR C fl_RX1_18 h0.1 rfl dX1_append_39 ?_
      refine J_aload_n C 0 dX1_append_42 rfl 0 rfl ?_
      refine J_getI C fl_RX1_24 h0.1 rfl dX1_append_43 ?_
      refine J_iload_n C 3 dX1_append_46 rfl 3 rfl ?_
      refine J_iast C (h0).2.2.2.2.1 hσ4 h3 dX1_append_47 h (fun σ5 hσ6 h => ?_)
      refine J_aload_n C 0 dX1_append_48 rfl 0 rfl ?_
      refine J_getR C fl_RX1_21 h0.1 rfl dX1_append_49 ?_
      refine J_aload_n C 0 dX1_append_52 rfl 0 rfl ?_
      refine J_getI C fl_RX1_24 h0.1 rfl dX1_append_53 ?_
      refine J_iload C 4 dX1_append_56 4 rfl ?_
      refine J_iast C (h0).2.2.2.2.2 hσ6 h4 dX1_append_58 h (fun σ7 hσ8 h => ?_)
      refine J_aload_n C 0 dX1_append_59 rfl 0 rfl ?_
      refine J_dup C rfl dX1_append_60 ?_
      refine J_getI C fl_RX1_24 h0.1 rfl dX1_append_61 ?_
      refine J_iconst C dX1_append_64 ?_
      refine J_iadd C dX1_append_65 h (fun v9 hv10 h => ?_)
      refine J_putI C fl_RX1_24 fp_RX1_4 h0.1 rfl rfl h0.2.1 hσ8 hv10 dX1_append_66 h (fun σ11 hσ12 h => ?_)
      refine J_iconst C dX1_append_69 ?_
      have e9 := sE h
      subst e9
      exact J_zret C (Or.inr rfl) E ⟨(Or.inr rfl), hσ12⟩ dX1_append_70
    · refine J_iconst C dX1_append_16 ?_
      have e9 := sE h
      subst e9
      exact J_zret C (Or.inl rfl) E ⟨(Or.inl rfl), hσ⟩ dX1_append_17
set_option maxRecDepth 100000 in
set_option maxHeartbeats 4000000 in
theorem m_X6_makeCue (l : Launch) (g : Gm) (hg : gInj yC g) (x1 : Int) (h1 : rg x1) (x2 : Int) (h2 : rg x2) (x3 : Int) (h3 : rg x3) (x4 : Int) (h4 : rg x4) (σ : Sg) (hσ : wfS yC σ) (q : Int × Sg) (h : fX6_makeCue x1 x2 x3 x4 σ = some q) : CJ l yC g yX6_makeCue cX6_makeCue 5 (some .boolean) 2 42 [.ref (gad g 24), vi x1, vi x2, vi x3, vi x4] σ (some (vi q.1)) q.2 ((q.1 = 0 ∨ q.1 = 1) ∧ wfS yC q.2) := by
  refine CJ_of hg (by decide) rfl (Nat.le_of_ble_eq_true rfl) (lo := [(0, .ref (gad g 24)), (1, vi x1), (2, vi x2), (3, vi x3), (4, vi x4)]) rfl (fun x C E => ?_)
  unfold fX6_makeCue at h
  have pc3 : ∀  (σ : Sg) (hσ : wfS yC σ), fX6_makeCue_P32 x1 x2 x3 x4 σ = some q → J x yC g 5 32 [(0, .ref (gad g 24)), (1, vi x1), (2, vi x2), (3, vi x3), (4, vi x4)] [] σ := by
    intro  σ hσ h
    unfold fX6_makeCue_P32 at h
    refine J_iload_n C 1 dX6_makeCue_32 rfl 1 rfl ?_
    refine J_aload_n C 0 dX6_makeCue_33 rfl 0 rfl ?_
    refine J_getR C fl_RX6_25 oC_24 rfl dX6_makeCue_34 ?_
    refine J_getR C fl_RX6_107 oC_1 rfl dX6_makeCue_37 ?_
    refine J_iload_n C 2 dX6_makeCue_40 rfl 2 rfl ?_
    obtain ⟨q4, cq4, h⟩ := bdS h
    refine J_callV C mw_X2_liftOf ml_RX6_116 (m_X2_liftOf x.2.1 g (CxI C) x2 h2 σ hσ q4 cq4) oC_6 rfl (Nat.le_of_ble_eq_true rfl) (Nat.le_of_ble_eq_true rfl) rfl rfl (Nat.le_of_ble_eq_true rfl) dX6_makeCue_41 (fun hz5 => ?_)
    refine J_icmp_lt C h1 hz5 (tgt := 54) dX6_makeCue_44 (by decide) h (fun h c9 => ?_) (fun h c9 => ?_)
    · refine J_iconst C dX6_makeCue_54 ?_
      have e9 := sE h
      subst e9
      exact J_zret C (Or.inl rfl) E ⟨(Or.inl rfl), hσ⟩ dX6_makeCue_55
    · refine J_iload_n C 1 dX6_makeCue_47 rfl 1 rfl ?_
      refine J_sipush C dX6_makeCue_48 (bp16 (by decide) (by decide)) ?_
      refine J_icmp_le C h1 rl_20000 (tgt := 56) dX6_makeCue_51 (by decide) h (fun h c8 => ?_) (fun h c8 => ?_)
      · refine J_aload_n C 0 dX6_makeCue_56 rfl 0 rfl ?_
        refine J_getR C fl_RX6_12 oC_24 rfl dX6_makeCue_57 ?_
        refine J_iload_n C 1 dX6_makeCue_60 rfl 1 rfl ?_
        refine J_iload_n C 2 dX6_makeCue_61 rfl 2 rfl ?_
        refine J_iload_n C 3 dX6_makeCue_62 rfl 3 rfl ?_
        refine J_iload C 4 dX6_makeCue_63 4 rfl ?_
        obtain ⟨q6, cq6, h⟩ := bdS h
        refine J_callV C mw_X1_append ml_RX6_119 (m_X1_append x.2.1 g (CxI C) 25 cues_25 x1 h1 x2 h2 x3 h3 x4 h4 σ hσ q6 cq6) cues_25.1 rfl (Nat.le_of_ble_eq_true rfl) (Nat.le_of_ble_eq_true rfl) rfl rfl (Nat.le_of_ble_eq_true rfl) dX6_makeCue_65 (fun hz7 => ?_)
        have e9 := sE h
        subst e9
        exact J_zret C hz7.1 E ⟨hz7.1, hz7.2⟩ dX6_makeCue_68
      · refine J_iconst C dX6_makeCue_54 ?_
        have e9 := sE h
        subst e9
        exact J_zret C (Or.inl rfl) E ⟨(Or.inl rfl), hσ⟩ dX6_makeCue_55
  refine J_aload_n C 0 dX6_makeCue_0 rfl 0 rfl ?_
  refine J_getR C fl_RX6_25 oC_24 rfl dX6_makeCue_1 ?_
  refine J_getR C fl_RX6_107 oC_1 rfl dX6_makeCue_4 ?_
  refine J_iload_n C 2 dX6_makeCue_7 rfl 2 rfl ?_
  obtain ⟨q1, cq1, h⟩ := bdS h
  refine J_callV C mw_X2_isTold ml_RX6_111 (m_X2_isTold x.2.1 g (CxI C) x2 h2 σ hσ q1 cq1) oC_6 rfl (Nat.le_of_ble_eq_true rfl) (Nat.le_of_ble_eq_true rfl) rfl rfl (Nat.le_of_ble_eq_true rfl) dX6_makeCue_8 (fun hz2 => ?_)
  refine J_if_eq C (rg01 hz2) (tgt := 30) dX6_makeCue_11 (by decide) h (fun h c20 => ?_) (fun h c20 => ?_)
  · refine J_iconst C dX6_makeCue_30 ?_
    have e9 := sE h
    subst e9
    exact J_zret C (Or.inl rfl) E ⟨(Or.inl rfl), hσ⟩ dX6_makeCue_31
  · refine J_iload_n C 3 dX6_makeCue_14 rfl 3 rfl ?_
    refine J_iconst C dX6_makeCue_15 ?_
    refine J_icmp_eq C h3 rl_m1 (tgt := 32) dX6_makeCue_16 (by decide) h (fun h c19 => ?_) (fun h c19 => ?_)
    · exact J_sub [0, 1, 2, 3, 4] rfl (pc3 σ hσ h)
    · refine J_aload_n C 0 dX6_makeCue_19 rfl 0 rfl ?_
      refine J_getR C fl_RX6_25 oC_24 rfl dX6_makeCue_20 ?_
      refine J_iload_n C 3 dX6_makeCue_23 rfl 3 rfl ?_
      obtain ⟨q16, cq16, h⟩ := bdS h
      refine J_callV C mw_X8_isBarge ml_RX6_97 (m_X8_isBarge x.2.1 g (CxI C) x3 h3 σ hσ q16 cq16) oC_1 rfl (Nat.le_of_ble_eq_true rfl) (Nat.le_of_ble_eq_true rfl) rfl rfl (Nat.le_of_ble_eq_true rfl) dX6_makeCue_24 (fun hz17 => ?_)
      refine J_if_ne C (rg01 hz17) (tgt := 32) dX6_makeCue_27 (by decide) h (fun h c18 => ?_) (fun h c18 => ?_)
      · refine J_iconst C dX6_makeCue_30 ?_
        have e9 := sE h
        subst e9
        exact J_zret C (Or.inl rfl) E ⟨(Or.inl rfl), hσ⟩ dX6_makeCue_31
      · exact J_sub [0, 1, 2, 3, 4] rfl (pc3 σ hσ h)
set_option maxRecDepth 100000 in
set_option maxHeartbeats 4000000 in
theorem wX6_makeFan_L15 {x : Ct} {g : Gm} (C : Cx x yC g 5 cX6_makeFan RX6 3 66) : ∀ (n : Nat) (x1 : Int) (h1 : rg x1) (x2 : Int) (h2 : rg x2) (x3 : Int) (h3 : rg x3) (x4 : Int) (h4 : rg x4) (σ : Sg) (hσ : wfS yC σ) (q : (Sg) ⊕ (Sg)) (h : fX6_makeFan_L15 n x1 x2 x3 x4 σ = some q) (k0 : ∀ a : Sg, q = .inl a → wfS yC a → J x yC g 5 42 [] [] a) (k1 : ∀ a : Sg, q = .inr a → wfS yC a → J x yC g 5 50 [] [] a), J x yC g 5 15 [(0, .ref (gad g 24)), (1, vi x1), (2, vi x2), (3, vi x3), (4, vi x4)] [] σ := by
  intro n
  induction n with
  | zero =>
    intro x1 h1 x2 h2 x3 h3 x4 h4 σ hσ q h k0 k1
    exact absurd h (by intro z; cases z)
  | succ n ih =>
    intro x1 h1 x2 h2 x3 h3 x4 h4 σ hσ q h k0 k1
    rw [fX6_makeFan_L15] at h
    refine J_iload C 4 dX6_makeFan_15 4 rfl ?_
    refine J_iload_n C 3 dX6_makeFan_17 rfl 3 rfl ?_
    refine J_icmp_ge C h4 h3 (tgt := 50) dX6_makeFan_18 (by decide) h (fun h c12 => ?_) (fun h c12 => ?_)
    · refine J_aload_n C 0 dX6_makeFan_21 rfl 0 rfl ?_
      refine J_aload_n C 0 dX6_makeFan_22 rfl 0 rfl ?_
      refine J_getI C fl_RX6_36 oC_24 rfl dX6_makeFan_23 ?_
      refine J_iload_n C 1 dX6_makeFan_26 rfl 1 rfl ?_
      refine J_iload_n C 2 dX6_makeFan_27 rfl 2 rfl ?_
      refine J_iconst C dX6_makeFan_28 ?_
      refine J_iload C 4 dX6_makeFan_29 4 rfl ?_
      refine J_imul C dX6_makeFan_31 h (fun v1 hv2 h => ?_)
      refine J_iload_n C 3 dX6_makeFan_32 rfl 3 rfl ?_
      refine J_iconst C dX6_makeFan_33 ?_
      refine J_isub C dX6_makeFan_34 h (fun v3 hv4 h => ?_)
      refine J_isub C dX6_makeFan_35 h (fun v5 hv6 h => ?_)
      obtain ⟨q7, cq7, h⟩ := bdS h
      refine J_callV C mw_X6_makeCue ml_RX6_83 (m_X6_makeCue x.2.1 g (CxI C) (σ 24 5) (hσ 24 5 lC_24) x1 h1 x2 h2 v5 hv6 σ hσ q7 cq7) oC_24 rfl (Nat.le_of_ble_eq_true rfl) (Nat.le_of_ble_eq_true rfl) rfl rfl (Nat.le_of_ble_eq_true rfl) dX6_makeFan_36 (fun hz8 => ?_)
      refine J_if_ne C (rg01 hz8.1) (tgt := 44) dX6_makeFan_39 (by decide) h (fun h c11 => ?_) (fun h c11 => ?_)
      · have e9 := sE h
        exact J_sub [] rfl (k0 q7.2 e9.symm hz8.2)
      · refine J_iinc C 4 4 dX6_makeFan_44 rfl (by decide) h (fun v9 hv10 h => ?_)
        refine J_goto C (tgt := 15) dX6_makeFan_47 (by decide) ?_
        exact J_sub [1, 2, 3, 4, 0] rfl (ih x1 h1 x2 h2 x3 h3 v9 hv10 q7.2 hz8.2 q h k0 k1)
    · have e9 := sE h
      exact J_sub [] rfl (k1 σ e9.symm hσ)
set_option maxRecDepth 100000 in
set_option maxHeartbeats 4000000 in
theorem m_X6_makeFan (l : Launch) (g : Gm) (hg : gInj yC g) (x1 : Int) (h1 : rg x1) (x2 : Int) (h2 : rg x2) (x3 : Int) (h3 : rg x3) (σ : Sg) (hσ : wfS yC σ) (q : Int × Sg) (h : fX6_makeFan x1 x2 x3 σ = some q) : CJ l yC g yX6_makeFan cX6_makeFan 5 (some .boolean) 3 66 [.ref (gad g 24), vi x1, vi x2, vi x3] σ (some (vi q.1)) q.2 ((q.1 = 0 ∨ q.1 = 1) ∧ wfS yC q.2) := by
  refine CJ_of hg (by decide) rfl (Nat.le_of_ble_eq_true rfl) (lo := [(0, .ref (gad g 24)), (1, vi x1), (2, vi x2), (3, vi x3)]) rfl (fun x C E => ?_)
  unfold fX6_makeFan at h
  refine J_iload_n C 3 dX6_makeFan_0 rfl 3 rfl ?_
  refine J_iconst C dX6_makeFan_1 ?_
  refine J_icmp_lt C h3 rl_1 (tgt := 10) dX6_makeFan_2 (by decide) h (fun h c19 => ?_) (fun h c19 => ?_)
  · refine J_iconst C dX6_makeFan_10 ?_
    have e9 := sE h
    subst e9
    exact J_zret C (Or.inl rfl) E ⟨(Or.inl rfl), hσ⟩ dX6_makeFan_11
  · refine J_iload_n C 3 dX6_makeFan_5 rfl 3 rfl ?_
    refine J_iconst C dX6_makeFan_6 ?_
    refine J_icmp_le C h3 rl_5 (tgt := 12) dX6_makeFan_7 (by decide) h (fun h c18 => ?_) (fun h c18 => ?_)
    · refine J_iconst C dX6_makeFan_12 ?_
      refine J_istore (lo2 := [(4, vi 0), (0, .ref (gad g 24)), (1, vi x1), (2, vi x2), (3, vi x3)]) C 4 dX6_makeFan_13 (by decide) rfl ?_
      obtain ⟨q13, cq13, h⟩ := bdS h
      refine J_sub [1, 2, 3, 4, 0] rfl (wX6_makeFan_L15 C fu x1 h1 x2 h2 x3 h3 0 rl_0 σ hσ q13 cq13 (fun a14 ea14 hσ15 => ?_) (fun a16 ea16 hσ17 => ?_))
      · subst ea14
        have h := elL h
        refine J_iconst C dX6_makeFan_42 ?_
        have e9 := sE h
        subst e9
        exact J_zret C (Or.inl rfl) E ⟨(Or.inl rfl), hσ15⟩ dX6_makeFan_43
      · subst ea16
        have h := elR h
        refine J_iconst C dX6_makeFan_50 ?_
        have e9 := sE h
        subst e9
        exact J_zret C (Or.inr rfl) E ⟨(Or.inr rfl), hσ17⟩ dX6_makeFan_51
    · refine J_iconst C dX6_makeFan_10 ?_
      have e9 := sE h
      subst e9
      exact J_zret C (Or.inl rfl) E ⟨(Or.inl rfl), hσ⟩ dX6_makeFan_11
set_option maxRecDepth 100000 in
set_option maxHeartbeats 4000000 in
theorem m_X6_areBehind (l : Launch) (g : Gm) (hg : gInj yC g) (x1 : Int) (h1 : rg x1) (x2 : Int) (h2 : rg x2) (x3 : Int) (h3 : rg x3) (σ : Sg) (hσ : wfS yC σ) (q : Int) (h : fX6_areBehind x1 x2 x3 σ = some q) : CJ l yC g yX6_areBehind cX6_areBehind 4 (some .boolean) 1 21 [.ref (gad g 24), vi x1, vi x2, vi x3] σ (some (vi q)) σ (q = 0 ∨ q = 1) := by
  refine CJ_of hg (by decide) rfl (Nat.le_of_ble_eq_true rfl) (lo := [(0, .ref (gad g 24)), (1, vi x1), (2, vi x2), (3, vi x3)]) rfl (fun x C E => ?_)
  unfold fX6_areBehind at h
  refine J_aload_n C 0 dX6_areBehind_0 rfl 0 rfl ?_
  refine J_getR C fl_RX6_25 oC_24 rfl dX6_areBehind_1 ?_
  refine J_iload_n C 1 dX6_areBehind_4 rfl 1 rfl ?_
  obtain ⟨q1, cq1, h⟩ := bdS h
  refine J_callV C mw_X8_isBarge ml_RX6_97 (m_X8_isBarge x.2.1 g (CxI C) x1 h1 σ hσ q1 cq1) oC_1 rfl (Nat.le_of_ble_eq_true rfl) (Nat.le_of_ble_eq_true rfl) rfl rfl (Nat.le_of_ble_eq_true rfl) dX6_areBehind_5 (fun hz2 => ?_)
  refine J_if_eq C (rg01 hz2) (tgt := 36) dX6_areBehind_8 (by decide) h (fun h c8 => ?_) (fun h c8 => ?_)
  · refine J_iconst C dX6_areBehind_36 ?_
    have e9 := sE h
    subst e9
    exact J_zret C (Or.inl rfl) E (Or.inl rfl) dX6_areBehind_37
  · refine J_aload_n C 0 dX6_areBehind_11 rfl 0 rfl ?_
    refine J_getR C fl_RX6_25 oC_24 rfl dX6_areBehind_12 ?_
    refine J_iload_n C 2 dX6_areBehind_15 rfl 2 rfl ?_
    obtain ⟨q3, cq3, h⟩ := bdS h
    refine J_callV C mw_X8_isBarge ml_RX6_97 (m_X8_isBarge x.2.1 g (CxI C) x2 h2 σ hσ q3 cq3) oC_1 rfl (Nat.le_of_ble_eq_true rfl) (Nat.le_of_ble_eq_true rfl) rfl rfl (Nat.le_of_ble_eq_true rfl) dX6_areBehind_16 (fun hz4 => ?_)
    refine J_if_eq C (rg01 hz4) (tgt := 36) dX6_areBehind_19 (by decide) h (fun h c7 => ?_) (fun h c7 => ?_)
    · refine J_iconst C dX6_areBehind_36 ?_
      have e9 := sE h
      subst e9
      exact J_zret C (Or.inl rfl) E (Or.inl rfl) dX6_areBehind_37
    · refine J_iload_n C 3 dX6_areBehind_22 rfl 3 rfl ?_
      refine J_if_lt C h3 (tgt := 36) dX6_areBehind_23 (by decide) h (fun h c6 => ?_) (fun h c6 => ?_)
      · refine J_iconst C dX6_areBehind_36 ?_
        have e9 := sE h
        subst e9
        exact J_zret C (Or.inl rfl) E (Or.inl rfl) dX6_areBehind_37
      · refine J_iload_n C 3 dX6_areBehind_26 rfl 3 rfl ?_
        refine J_bipush C dX6_areBehind_27 (bp8 (by decide) (by decide)) ?_
        refine J_icmp_gt C h3 rl_50 (tgt := 36) dX6_areBehind_29 (by decide) h (fun h c5 => ?_) (fun h c5 => ?_)
        · refine J_iconst C dX6_areBehind_32 ?_
          refine J_goto C (tgt := 37) dX6_areBehind_33 (by decide) ?_
          have e9 := sE h
          subst e9
          exact J_zret C (Or.inr rfl) E (Or.inr rfl) dX6_areBehind_37
        · refine J_iconst C dX6_areBehind_36 ?_
          have e9 := sE h
          subst e9
          exact J_zret C (Or.inl rfl) E (Or.inl rfl) dX6_areBehind_37
set_option maxRecDepth 100000 in
set_option maxHeartbeats 4000000 in
theorem wX6_makeRun_L23 {x : Ct} {g : Gm} (C : Cx x yC g 9 cX6_makeRun RX6 3 66) : ∀ (n : Nat) (x1 : Int) (h1 : rg x1) (x2 : Int) (h2 : rg x2) (x4 : Int) (h4 : rg x4) (x5 : Int) (h5 : rg x5) (x6 : Int) (h6 : rg x6) (x7 : Int) (h7 : rg x7) (σ : Sg) (hσ : wfS yC σ) (q : (Sg) ⊕ (Sg)) (h : fX6_makeRun_L23 n x1 x2 x4 x5 x6 x7 σ = some q) (k0 : ∀ a : Sg, q = .inl a → wfS yC a → J x yC g 9 71 [] [] a) (k1 : ∀ a : Sg, q = .inr a → wfS yC a → J x yC g 9 79 [] [] a), J x yC g 9 23 [(0, .ref (gad g 24)), (1, vi x1), (2, vi x2), (4, vi x4), (5, vi x5), (6, vi x6), (7, vi x7)] [] σ := by
  intro n
  induction n with
  | zero =>
    intro x1 h1 x2 h2 x4 h4 x5 h5 x6 h6 x7 h7 σ hσ q h k0 k1
    exact absurd h (by intro z; cases z)
  | succ n ih =>
    intro x1 h1 x2 h2 x4 h4 x5 h5 x6 h6 x7 h7 σ hσ q h k0 k1
    rw [fX6_makeRun_L23] at h
    refine J_iload C 7 dX6_makeRun_23 6 rfl ?_
    refine J_iload C 6 dX6_makeRun_25 5 rfl ?_
    refine J_icmp_gt C h7 h6 (tgt := 79) dX6_makeRun_27 (by decide) h (fun h c22 => ?_) (fun h c22 => ?_)
    · refine J_iload_n C 2 dX6_makeRun_30 rfl 2 rfl ?_
      refine J_iload C 7 dX6_makeRun_31 6 rfl ?_
      refine J_iload C 5 dX6_makeRun_33 4 rfl ?_
      refine J_imul C dX6_makeRun_35 h (fun v6 hv7 h => ?_)
      refine J_iadd C dX6_makeRun_36 h (fun v8 hv9 h => ?_)
      refine J_istore (lo2 := [(8, vi v8), (0, .ref (gad g 24)), (1, vi x1), (2, vi x2), (4, vi x4), (5, vi x5), (6, vi x6), (7, vi x7)]) C 8 dX6_makeRun_37 (by decide) rfl ?_
      refine J_iload C 8 dX6_makeRun_39 0 rfl ?_
      refine J_iconst C dX6_makeRun_41 ?_
      refine J_icmp_eq C hv9 rl_m1 (tgt := 71) dX6_makeRun_42 (by decide) h (fun h c21 => ?_) (fun h c21 => ?_)
      · have e9 := sE h
        exact J_sub [] rfl (k0 σ e9.symm hσ)
      · refine J_aload_n C 0 dX6_makeRun_45 rfl 1 rfl ?_
        refine J_aload_n C 0 dX6_makeRun_46 rfl 1 rfl ?_
        refine J_getI C fl_RX6_36 oC_24 rfl dX6_makeRun_47 ?_
        refine J_iload C 7 dX6_makeRun_50 7 rfl ?_
        refine J_iload C 4 dX6_makeRun_52 4 rfl ?_
        refine J_imul C dX6_makeRun_54 h (fun v10 hv11 h => ?_)
        refine J_aload_n C 0 dX6_makeRun_55 rfl 1 rfl ?_
        refine J_getI C fl_RX6_39 oC_24 rfl dX6_makeRun_56 ?_
        refine J_imul C dX6_makeRun_59 h (fun v12 hv13 h => ?_)
        refine J_iadd C dX6_makeRun_60 h (fun v14 hv15 h => ?_)
        refine J_iload_n C 1 dX6_makeRun_61 rfl 2 rfl ?_
        refine J_iload C 8 dX6_makeRun_62 0 rfl ?_
        refine J_iconst C dX6_makeRun_64 ?_
        obtain ⟨q16, cq16, h⟩ := bdS h
        refine J_callV C mw_X6_makeCue ml_RX6_83 (m_X6_makeCue x.2.1 g (CxI C) v14 hv15 x1 h1 v8 hv9 0 rl_0 σ hσ q16 cq16) oC_24 rfl (Nat.le_of_ble_eq_true rfl) (Nat.le_of_ble_eq_true rfl) rfl rfl (Nat.le_of_ble_eq_true rfl) dX6_makeRun_65 (fun hz17 => ?_)
        refine J_if_ne C (rg01 hz17.1) (tgt := 73) dX6_makeRun_68 (by decide) h (fun h c20 => ?_) (fun h c20 => ?_)
        · have e9 := sE h
          exact J_sub [] rfl (k0 q16.2 e9.symm hz17.2)
        · refine J_iinc C 7 7 dX6_makeRun_73 rfl (by decide) h (fun v18 hv19 h => ?_)
          refine J_goto C (tgt := 23) dX6_makeRun_76 (by decide) ?_
          exact J_sub [2, 3, 4, 5, 6, 7, 0] rfl (ih x1 h1 x2 h2 x4 h4 x5 h5 x6 h6 v18 hv19 q16.2 hz17.2 q h k0 k1)
    · have e9 := sE h
      exact J_sub [] rfl (k1 σ e9.symm hσ)
set_option maxRecDepth 100000 in
set_option maxHeartbeats 4000000 in
theorem m_X6_makeRun (l : Launch) (g : Gm) (hg : gInj yC g) (x1 : Int) (h1 : rg x1) (x2 : Int) (h2 : rg x2) (x3 : Int) (h3 : rg x3) (x4 : Int) (h4 : rg x4) (σ : Sg) (hσ : wfS yC σ) (q : Int × Sg) (h : fX6_makeRun x1 x2 x3 x4 σ = some q) : CJ l yC g yX6_makeRun cX6_makeRun 9 (some .boolean) 3 66 [.ref (gad g 24), vi x1, vi x2, vi x3, vi x4] σ (some (vi q.1)) q.2 ((q.1 = 0 ∨ q.1 = 1) ∧ wfS yC q.2) := by
  refine CJ_of hg (by decide) rfl (Nat.le_of_ble_eq_true rfl) (lo := [(0, .ref (gad g 24)), (1, vi x1), (2, vi x2), (3, vi x3), (4, vi x4)]) rfl (fun x C E => ?_)
  unfold fX6_makeRun at h
  have pc1 : ∀ (y0 : Int) (g0 : rg y0) (σ : Sg) (hσ : wfS yC σ), fX6_makeRun_P10 x1 x2 x3 x4 y0 σ = some q → J x yC g 9 10 [(0, .ref (gad g 24)), (1, vi x1), (2, vi x2), (3, vi x3), (4, vi x4)] [vi y0] σ := by
    intro y0 g0 σ hσ h
    unfold fX6_makeRun_P10 at h
    refine J_istore (lo2 := [(5, vi y0), (0, .ref (gad g 24)), (1, vi x1), (2, vi x2), (3, vi x3), (4, vi x4)]) C 5 dX6_makeRun_10 (by decide) rfl ?_
    refine J_iload_n C 3 dX6_makeRun_12 rfl 4 rfl ?_
    refine J_iload_n C 2 dX6_makeRun_13 rfl 3 rfl ?_
    refine J_isub C dX6_makeRun_14 h (fun v2 hv3 h => ?_)
    refine J_abs C hv3 mth_abs ml_RX6_102 (Nat.le_of_ble_eq_true rfl) (Nat.le_of_ble_eq_true rfl) dX6_makeRun_15 h (fun v4 hv5 h => ?_)
    refine J_istore (lo2 := [(6, vi v4), (5, vi y0), (0, .ref (gad g 24)), (1, vi x1), (2, vi x2), (3, vi x3), (4, vi x4)]) C 6 dX6_makeRun_18 (by decide) rfl ?_
    refine J_iconst C dX6_makeRun_20 ?_
    refine J_istore (lo2 := [(7, vi 0), (6, vi v4), (5, vi y0), (0, .ref (gad g 24)), (1, vi x1), (2, vi x2), (3, vi x3), (4, vi x4)]) C 7 dX6_makeRun_21 (by decide) rfl ?_
    obtain ⟨q23, cq23, h⟩ := bdS h
    refine J_sub [3, 4, 5, 7, 2, 1, 0] rfl (wX6_makeRun_L23 C fu x1 h1 x2 h2 x4 h4 y0 g0 v4 hv5 0 rl_0 σ hσ q23 cq23 (fun a24 ea24 hσ25 => ?_) (fun a26 ea26 hσ27 => ?_))
    · subst ea24
      have h := elL h
      refine J_iconst C dX6_makeRun_71 ?_
      have e9 := sE h
      subst e9
      exact J_zret C (Or.inl rfl) E ⟨(Or.inl rfl), hσ25⟩ dX6_makeRun_72
    · subst ea26
      have h := elR h
      refine J_iconst C dX6_makeRun_79 ?_
      have e9 := sE h
      subst e9
      exact J_zret C (Or.inr rfl) E ⟨(Or.inr rfl), hσ27⟩ dX6_makeRun_80
  refine J_iload_n C 2 dX6_makeRun_0 rfl 2 rfl ?_
  refine J_iload_n C 3 dX6_makeRun_1 rfl 3 rfl ?_
  refine J_icmp_gt C h2 h3 (tgt := 9) dX6_makeRun_2 (by decide) h (fun h c37 => ?_) (fun h c37 => ?_)
  · refine J_iconst C dX6_makeRun_5 ?_
    refine J_goto C (tgt := 10) dX6_makeRun_6 (by decide) ?_
    exact J_sub [0, 1, 2, 3, 4] rfl (pc1 1 rl_1 σ hσ h)
  · refine J_iconst C dX6_makeRun_9 ?_
    exact J_sub [0, 1, 2, 3, 4] rfl (pc1 (-1) rl_m1 σ hσ h)
set_option maxRecDepth 100000 in
set_option maxHeartbeats 4000000 in
theorem m_X6_makeCues (l : Launch) (g : Gm) (hg : gInj yC g) (x1 : Nat) (h1 : isTape x1) (x2 : Int) (h2 : rg x2) (x3 : Int) (h3 : rg x3) (σ : Sg) (hσ : wfS yC σ) (q : Int × Sg) (h : fX6_makeCues x1 x2 x3 σ = some q) : CJ l yC g yX6_makeCues cX6_makeCues 8 (some .boolean) 4 94 [.ref (gad g 24), .ref (gad g x1), vi x2, vi x3] σ (some (vi q.1)) q.2 ((q.1 = 0 ∨ q.1 = 1) ∧ wfS yC q.2) := by
  refine CJ_of hg (by decide) rfl (Nat.le_of_ble_eq_true rfl) (lo := [(0, .ref (gad g 24)), (1, .ref (gad g x1)), (2, vi x2), (3, vi x3)]) rfl (fun x C E => ?_)
  unfold fX6_makeCues at h
  refine J_aload_n C 1 dX6_makeCues_0 rfl 1 rfl ?_
  refine J_iload_n C 2 dX6_makeCues_1 rfl 2 rfl ?_
  refine J_iconst C dX6_makeCues_2 ?_
  refine J_iadd C dX6_makeCues_3 h (fun v1 hv2 h => ?_)
  obtain ⟨q3, cq3, h⟩ := bdS h
  refine J_callV C mw_X9_numberAt ml_RX6_47 (m_X9_numberAt x.2.1 g (CxI C) x1 h1 v1 hv2 σ hσ q3 cq3) h1.1 rfl (Nat.le_of_ble_eq_true rfl) (Nat.le_of_ble_eq_true rfl) rfl rfl (Nat.le_of_ble_eq_true rfl) dX6_makeCues_4 (fun hz4 => ?_)
  refine J_istore (lo2 := [(4, vi q3), (0, .ref (gad g 24)), (1, .ref (gad g x1)), (2, vi x2), (3, vi x3)]) C 4 dX6_makeCues_7 (by decide) rfl ?_
  refine J_aload_n C 1 dX6_makeCues_9 rfl 2 rfl ?_
  refine J_iload_n C 2 dX6_makeCues_10 rfl 3 rfl ?_
  refine J_iconst C dX6_makeCues_11 ?_
  refine J_iadd C dX6_makeCues_12 h (fun v5 hv6 h => ?_)
  obtain ⟨q7, cq7, h⟩ := bdS h
  refine J_callV C mw_X9_numberAt ml_RX6_47 (m_X9_numberAt x.2.1 g (CxI C) x1 h1 v5 hv6 σ hσ q7 cq7) h1.1 rfl (Nat.le_of_ble_eq_true rfl) (Nat.le_of_ble_eq_true rfl) rfl rfl (Nat.le_of_ble_eq_true rfl) dX6_makeCues_13 (fun hz8 => ?_)
  refine J_istore (lo2 := [(5, vi q7), (4, vi q3), (0, .ref (gad g 24)), (1, .ref (gad g x1)), (2, vi x2), (3, vi x3)]) C 5 dX6_makeCues_16 (by decide) rfl ?_
  refine J_aload_n C 1 dX6_makeCues_18 rfl 3 rfl ?_
  refine J_iload_n C 2 dX6_makeCues_19 rfl 4 rfl ?_
  refine J_iconst C dX6_makeCues_20 ?_
  refine J_iadd C dX6_makeCues_21 h (fun v9 hv10 h => ?_)
  obtain ⟨q11, cq11, h⟩ := bdS h
  refine J_callV C mw_X9_numberAt ml_RX6_47 (m_X9_numberAt x.2.1 g (CxI C) x1 h1 v9 hv10 σ hσ q11 cq11) h1.1 rfl (Nat.le_of_ble_eq_true rfl) (Nat.le_of_ble_eq_true rfl) rfl rfl (Nat.le_of_ble_eq_true rfl) dX6_makeCues_22 (fun hz12 => ?_)
  refine J_istore (lo2 := [(6, vi q11), (5, vi q7), (4, vi q3), (0, .ref (gad g 24)), (1, .ref (gad g x1)), (2, vi x2), (3, vi x3)]) C 6 dX6_makeCues_25 (by decide) rfl ?_
  refine J_aload_n C 1 dX6_makeCues_27 rfl 4 rfl ?_
  refine J_iload_n C 2 dX6_makeCues_28 rfl 5 rfl ?_
  refine J_iconst C dX6_makeCues_29 ?_
  refine J_iadd C dX6_makeCues_30 h (fun v13 hv14 h => ?_)
  obtain ⟨q15, cq15, h⟩ := bdS h
  refine J_callV C mw_X9_numberAt ml_RX6_47 (m_X9_numberAt x.2.1 g (CxI C) x1 h1 v13 hv14 σ hσ q15 cq15) h1.1 rfl (Nat.le_of_ble_eq_true rfl) (Nat.le_of_ble_eq_true rfl) rfl rfl (Nat.le_of_ble_eq_true rfl) dX6_makeCues_31 (fun hz16 => ?_)
  refine J_istore (lo2 := [(7, vi q15), (6, vi q11), (5, vi q7), (4, vi q3), (0, .ref (gad g 24)), (1, .ref (gad g x1)), (2, vi x2), (3, vi x3)]) C 7 dX6_makeCues_34 (by decide) rfl ?_
  refine J_iload_n C 3 dX6_makeCues_36 rfl 7 rfl ?_
  rcases lt_or h with ⟨c17, h⟩ | ⟨c17, h⟩
  · refine J_switch C (tgt := 72) h3 dX6_makeCues_37 (35) (fun z => absurd z (by omega)) (fun _ _ => by rw [c17]; rfl) (by decide) ?_
    refine J_iload C 6 dX6_makeCues_72 1 rfl ?_
    obtain ⟨q43, cq43, h⟩ := bdS h
    refine J_callSN C mw_X11_isAngle (nest_in 9 rfl) (m_X11_isAngle x.2.1 g (CxI C) q11 hz12 σ hσ q43 cq43) (Nat.le_of_ble_eq_true rfl) (Nat.le_of_ble_eq_true rfl) rfl rfl (Nat.le_of_ble_eq_true rfl) dX6_makeCues_74 (fun hz44 => ?_)
    refine J_if_eq C (rg01 hz44) (tgt := 101) dX6_makeCues_77 (by decide) h (fun h c48 => ?_) (fun h c48 => ?_)
    · refine J_iconst C dX6_makeCues_101 ?_
      have e9 := sE h
      subst e9
      exact J_zret C (Or.inl rfl) E ⟨(Or.inl rfl), hσ⟩ dX6_makeCues_102
    · refine J_aload_n C 0 dX6_makeCues_80 rfl 4 rfl ?_
      refine J_aload_n C 0 dX6_makeCues_81 rfl 4 rfl ?_
      refine J_getI C fl_RX6_36 oC_24 rfl dX6_makeCues_82 ?_
      refine J_iload C 4 dX6_makeCues_85 3 rfl ?_
      refine J_iload C 5 dX6_makeCues_87 2 rfl ?_
      refine J_iload C 6 dX6_makeCues_89 1 rfl ?_
      obtain ⟨q45, cq45, h⟩ := bdS h
      refine J_callV C mw_X6_makeCue ml_RX6_83 (m_X6_makeCue x.2.1 g (CxI C) (σ 24 5) (hσ 24 5 lC_24) q3 hz4 q7 hz8 q11 hz12 σ hσ q45 cq45) oC_24 rfl (Nat.le_of_ble_eq_true rfl) (Nat.le_of_ble_eq_true rfl) rfl rfl (Nat.le_of_ble_eq_true rfl) dX6_makeCues_91 (fun hz46 => ?_)
      refine J_if_eq C (rg01 hz46.1) (tgt := 101) dX6_makeCues_94 (by decide) h (fun h c47 => ?_) (fun h c47 => ?_)
      · refine J_iconst C dX6_makeCues_101 ?_
        have e9 := sE h
        subst e9
        exact J_zret C (Or.inl rfl) E ⟨(Or.inl rfl), hz46.2⟩ dX6_makeCues_102
      · refine J_iconst C dX6_makeCues_97 ?_
        refine J_goto C (tgt := 102) dX6_makeCues_98 (by decide) ?_
        have e9 := sE h
        subst e9
        exact J_zret C (Or.inr rfl) E ⟨(Or.inr rfl), hz46.2⟩ dX6_makeCues_102
  · rcases lt_or h with ⟨c18, h⟩ | ⟨c18, h⟩
    · refine J_switch C (tgt := 207) h3 dX6_makeCues_37 (170) (fun z => absurd z (by omega)) (fun _ _ => by rw [c18]; rfl) (by decide) ?_
      refine J_iconst C dX6_makeCues_207 ?_
      have e9 := sE h
      subst e9
      exact J_zret C (Or.inl rfl) E ⟨(Or.inl rfl), hσ⟩ dX6_makeCues_208
    · rcases lt_or h with ⟨c19, h⟩ | ⟨c19, h⟩
      · refine J_switch C (tgt := 103) h3 dX6_makeCues_37 (66) (fun z => absurd z (by omega)) (fun _ _ => by rw [c19]; rfl) (by decide) ?_
        refine J_aload_n C 0 dX6_makeCues_103 rfl 4 rfl ?_
        refine J_iload C 4 dX6_makeCues_104 3 rfl ?_
        refine J_iload C 5 dX6_makeCues_106 2 rfl ?_
        refine J_iload C 6 dX6_makeCues_108 1 rfl ?_
        obtain ⟨q41, cq41, h⟩ := bdS h
        refine J_callV C mw_X6_makeFan ml_RX6_87 (m_X6_makeFan x.2.1 g (CxI C) q3 hz4 q7 hz8 q11 hz12 σ hσ q41 cq41) oC_24 rfl (Nat.le_of_ble_eq_true rfl) (Nat.le_of_ble_eq_true rfl) rfl rfl (Nat.le_of_ble_eq_true rfl) dX6_makeCues_110 (fun hz42 => ?_)
        have e9 := sE h
        subst e9
        exact J_zret C hz42.1 E ⟨hz42.1, hz42.2⟩ dX6_makeCues_113
      · rcases lt_or h with ⟨c20, h⟩ | ⟨c20, h⟩
        · refine J_switch C (tgt := 114) h3 dX6_makeCues_37 (77) (fun z => absurd z (by omega)) (fun _ _ => by rw [c20]; rfl) (by decide) ?_
          refine J_aload_n C 0 dX6_makeCues_114 rfl 4 rfl ?_
          refine J_iload C 5 dX6_makeCues_115 2 rfl ?_
          refine J_iload C 6 dX6_makeCues_117 1 rfl ?_
          refine J_iload C 7 dX6_makeCues_119 0 rfl ?_
          obtain ⟨q35, cq35, h⟩ := bdS h
          refine J_callV C mw_X6_areBehind ml_RX6_91 (m_X6_areBehind x.2.1 g (CxI C) q7 hz8 q11 hz12 q15 hz16 σ hσ q35 cq35) oC_24 rfl (Nat.le_of_ble_eq_true rfl) (Nat.le_of_ble_eq_true rfl) rfl rfl (Nat.le_of_ble_eq_true rfl) dX6_makeCues_121 (fun hz36 => ?_)
          refine J_if_eq C (rg01 hz36) (tgt := 146) dX6_makeCues_124 (by decide) h (fun h c40 => ?_) (fun h c40 => ?_)
          · refine J_iconst C dX6_makeCues_146 ?_
            have e9 := sE h
            subst e9
            exact J_zret C (Or.inl rfl) E ⟨(Or.inl rfl), hσ⟩ dX6_makeCues_147
          · refine J_aload_n C 0 dX6_makeCues_127 rfl 4 rfl ?_
            refine J_iload C 4 dX6_makeCues_128 3 rfl ?_
            refine J_iload C 5 dX6_makeCues_130 2 rfl ?_
            refine J_iload C 6 dX6_makeCues_132 1 rfl ?_
            refine J_iload C 7 dX6_makeCues_134 0 rfl ?_
            obtain ⟨q37, cq37, h⟩ := bdS h
            refine J_callV C mw_X6_makeRun ml_RX6_94 (m_X6_makeRun x.2.1 g (CxI C) q3 hz4 q7 hz8 q11 hz12 q15 hz16 σ hσ q37 cq37) oC_24 rfl (Nat.le_of_ble_eq_true rfl) (Nat.le_of_ble_eq_true rfl) rfl rfl (Nat.le_of_ble_eq_true rfl) dX6_makeCues_136 (fun hz38 => ?_)
            refine J_if_eq C (rg01 hz38.1) (tgt := 146) dX6_makeCues_139 (by decide) h (fun h c39 => ?_) (fun h c39 => ?_)
            · refine J_iconst C dX6_makeCues_146 ?_
              have e9 := sE h
              subst e9
              exact J_zret C (Or.inl rfl) E ⟨(Or.inl rfl), hz38.2⟩ dX6_makeCues_147
            · refine J_iconst C dX6_makeCues_142 ?_
              refine J_goto C (tgt := 147) dX6_makeCues_143 (by decide) ?_
              have e9 := sE h
              subst e9
              exact J_zret C (Or.inr rfl) E ⟨(Or.inr rfl), hz38.2⟩ dX6_makeCues_147
        · rcases lt_or h with ⟨c21, h⟩ | ⟨c21, h⟩
          · refine J_switch C (tgt := 148) h3 dX6_makeCues_37 (111) (fun z => absurd z (by omega)) (fun _ _ => by rw [c21]; rfl) (by decide) ?_
            refine J_aload_n C 0 dX6_makeCues_148 rfl 4 rfl ?_
            refine J_iload C 5 dX6_makeCues_149 2 rfl ?_
            refine J_iload C 6 dX6_makeCues_151 1 rfl ?_
            refine J_iload C 7 dX6_makeCues_153 0 rfl ?_
            obtain ⟨q22, cq22, h⟩ := bdS h
            refine J_callV C mw_X6_areBehind ml_RX6_91 (m_X6_areBehind x.2.1 g (CxI C) q7 hz8 q11 hz12 q15 hz16 σ hσ q22 cq22) oC_24 rfl (Nat.le_of_ble_eq_true rfl) (Nat.le_of_ble_eq_true rfl) rfl rfl (Nat.le_of_ble_eq_true rfl) dX6_makeCues_155 (fun hz23 => ?_)
            refine J_if_eq C (rg01 hz23) (tgt := 205) dX6_makeCues_158 (by decide) h (fun h c34 => ?_) (fun h c34 => ?_)
            · refine J_iconst C dX6_makeCues_205 ?_
              have e9 := sE h
              subst e9
              exact J_zret C (Or.inl rfl) E ⟨(Or.inl rfl), hσ⟩ dX6_makeCues_206
            · refine J_aload_n C 0 dX6_makeCues_161 rfl 4 rfl ?_
              refine J_aload_n C 0 dX6_makeCues_162 rfl 4 rfl ?_
              refine J_getI C fl_RX6_36 oC_24 rfl dX6_makeCues_163 ?_
              refine J_iload C 4 dX6_makeCues_166 3 rfl ?_
              refine J_iload C 5 dX6_makeCues_168 2 rfl ?_
              refine J_iconst C dX6_makeCues_170 ?_
              obtain ⟨q24, cq24, h⟩ := bdS h
              refine J_callV C mw_X6_makeCue ml_RX6_83 (m_X6_makeCue x.2.1 g (CxI C) (σ 24 5) (hσ 24 5 lC_24) q3 hz4 q7 hz8 0 rl_0 σ hσ q24 cq24) oC_24 rfl (Nat.le_of_ble_eq_true rfl) (Nat.le_of_ble_eq_true rfl) rfl rfl (Nat.le_of_ble_eq_true rfl) dX6_makeCues_171 (fun hz25 => ?_)
              refine J_if_eq C (rg01 hz25.1) (tgt := 205) dX6_makeCues_174 (by decide) h (fun h c33 => ?_) (fun h c33 => ?_)
              · refine J_iconst C dX6_makeCues_205 ?_
                have e9 := sE h
                subst e9
                exact J_zret C (Or.inl rfl) E ⟨(Or.inl rfl), hz25.2⟩ dX6_makeCues_206
              · refine J_aload_n C 0 dX6_makeCues_177 rfl 4 rfl ?_
                refine J_aload_n C 0 dX6_makeCues_178 rfl 4 rfl ?_
                refine J_getI C fl_RX6_36 oC_24 rfl dX6_makeCues_179 ?_
                refine J_iload C 7 dX6_makeCues_182 0 rfl ?_
                refine J_aload_n C 0 dX6_makeCues_184 rfl 4 rfl ?_
                refine J_getI C fl_RX6_39 oC_24 rfl dX6_makeCues_185 ?_
                refine J_imul C dX6_makeCues_188 h (fun v26 hv27 h => ?_)
                refine J_iadd C dX6_makeCues_189 h (fun v28 hv29 h => ?_)
                refine J_iload C 4 dX6_makeCues_190 3 rfl ?_
                refine J_iload C 6 dX6_makeCues_192 1 rfl ?_
                refine J_iconst C dX6_makeCues_194 ?_
                obtain ⟨q30, cq30, h⟩ := bdS h
                refine J_callV C mw_X6_makeCue ml_RX6_83 (m_X6_makeCue x.2.1 g (CxI C) v28 hv29 q3 hz4 q11 hz12 0 rl_0 q24.2 hz25.2 q30 cq30) oC_24 rfl (Nat.le_of_ble_eq_true rfl) (Nat.le_of_ble_eq_true rfl) rfl rfl (Nat.le_of_ble_eq_true rfl) dX6_makeCues_195 (fun hz31 => ?_)
                refine J_if_eq C (rg01 hz31.1) (tgt := 205) dX6_makeCues_198 (by decide) h (fun h c32 => ?_) (fun h c32 => ?_)
                · refine J_iconst C dX6_makeCues_205 ?_
                  have e9 := sE h
                  subst e9
                  exact J_zret C (Or.inl rfl) E ⟨(Or.inl rfl), hz31.2⟩ dX6_makeCues_206
                · refine J_iconst C dX6_makeCues_201 ?_
                  refine J_goto C (tgt := 206) dX6_makeCues_202 (by decide) ?_
                  have e9 := sE h
                  subst e9
                  exact J_zret C (Or.inr rfl) E ⟨(Or.inr rfl), hz31.2⟩ dX6_makeCues_206
          · refine J_switch C (tgt := 207) h3 dX6_makeCues_37 (170) (fun _ => rfl) (fun z1 z2 => absurd z1 (by omega)) (by decide) ?_
            refine J_iconst C dX6_makeCues_207 ?_
            have e9 := sE h
            subst e9
            exact J_zret C (Or.inl rfl) E ⟨(Or.inl rfl), hσ⟩ dX6_makeCues_208
set_option maxRecDepth 100000 in
set_option maxHeartbeats 4000000 in
theorem m_X6_follow (l : Launch) (g : Gm) (hg : gInj yC g) (x1 : Nat) (h1 : isTape x1) (x2 : Int) (h2 : rg x2) (σ : Sg) (hσ : wfS yC σ) (q : Int × Sg) (h : fX6_follow x1 x2 σ = some q) : CJ l yC g yX6_follow cX6_follow 6 (some .int) 5 121 [.ref (gad g 24), .ref (gad g x1), vi x2] σ (some (vi q.1)) q.2 ((rg q.1) ∧ wfS yC q.2) := by
  refine CJ_of hg (by decide) rfl (Nat.le_of_ble_eq_true rfl) (lo := [(0, .ref (gad g 24)), (1, .ref (gad g x1)), (2, vi x2)]) rfl (fun x C E => ?_)
  unfold fX6_follow at h
  refine J_aload_n C 1 dX6_follow_0 rfl 1 rfl ?_
  refine J_iload_n C 2 dX6_follow_1 rfl 2 rfl ?_
  obtain ⟨q1, cq1, h⟩ := bdS h
  refine J_callV C mw_X9_numberAt ml_RX6_47 (m_X9_numberAt x.2.1 g (CxI C) x1 h1 x2 h2 σ hσ q1 cq1) h1.1 rfl (Nat.le_of_ble_eq_true rfl) (Nat.le_of_ble_eq_true rfl) rfl rfl (Nat.le_of_ble_eq_true rfl) dX6_follow_2 (fun hz2 => ?_)
  refine J_istore_n (lo2 := [(3, vi q1), (0, .ref (gad g 24)), (1, .ref (gad g x1)), (2, vi x2)]) C 3 dX6_follow_5 rfl (by decide) rfl ?_
  refine J_aload_n C 1 dX6_follow_6 rfl 2 rfl ?_
  refine J_iload_n C 2 dX6_follow_7 rfl 3 rfl ?_
  obtain ⟨q3, cq3, h⟩ := bdS h
  refine J_callV C mw_X9_hasPlace ml_RX6_53 (m_X9_hasPlace x.2.1 g (CxI C) x1 h1 x2 h2 σ hσ q3 cq3) h1.1 rfl (Nat.le_of_ble_eq_true rfl) (Nat.le_of_ble_eq_true rfl) rfl rfl (Nat.le_of_ble_eq_true rfl) dX6_follow_8 (fun hz4 => ?_)
  refine J_if_eq C (rg01 hz4) (tgt := 26) dX6_follow_11 (by decide) h (fun h c54 => ?_) (fun h c54 => ?_)
  · refine J_bipush C dX6_follow_26 (bp8 (by decide) (by decide)) ?_
    have e9 := sE h
    subst e9
    exact J_iret C E ⟨rl_m2, hσ⟩ dX6_follow_28
  · refine J_iload_n C 3 dX6_follow_14 rfl 0 rfl ?_
    refine J_if_lt C hz2 (tgt := 26) dX6_follow_15 (by decide) h (fun h c53 => ?_) (fun h c53 => ?_)
    · refine J_bipush C dX6_follow_26 (bp8 (by decide) (by decide)) ?_
      have e9 := sE h
      subst e9
      exact J_iret C E ⟨rl_m2, hσ⟩ dX6_follow_28
    · refine J_iload_n C 3 dX6_follow_18 rfl 0 rfl ?_
      refine J_getsO C gs_RX6_57 dX6_follow_19 (fun t5 ht5 => ?_)
      refine J_alenO C ht5 dX6_follow_22 ?_
      refine J_icmp_lt C hz2 rl_9 (tgt := 29) dX6_follow_23 (by decide) h (fun h c52 => ?_) (fun h c52 => ?_)
      · refine J_iload_n C 2 dX6_follow_29 rfl 3 rfl ?_
        refine J_getsO C gs_RX6_57 dX6_follow_30 (fun t6 ht6 => ?_)
        refine J_iload_n C 3 dX6_follow_33 rfl 0 rfl ?_
        refine J_ialdO C ht6 dX6_follow_34 h (fun v7 hv8 h => ?_)
        refine J_iadd C dX6_follow_35 h (fun v9 hv10 h => ?_)
        refine J_istore (lo2 := [(4, vi v9), (3, vi q1), (0, .ref (gad g 24)), (1, .ref (gad g x1)), (2, vi x2)]) C 4 dX6_follow_36 (by decide) rfl ?_
        refine J_iload C 4 dX6_follow_38 0 rfl ?_
        refine J_aload_n C 1 dX6_follow_40 rfl 3 rfl ?_
        refine J_getI C fl_RX6_60 h1.1 rfl dX6_follow_41 ?_
        refine J_icmp_le C hv10 (hσ x1 1 h1.2.1) (tgt := 50) dX6_follow_44 (by decide) h (fun h c51 => ?_) (fun h c51 => ?_)
        · refine J_aload_n C 1 dX6_follow_50 rfl 3 rfl ?_
          refine J_iload_n C 2 dX6_follow_51 rfl 4 rfl ?_
          refine J_iconst C dX6_follow_52 ?_
          refine J_iadd C dX6_follow_53 h (fun v11 hv12 h => ?_)
          obtain ⟨q13, cq13, h⟩ := bdS h
          refine J_callV C mw_X9_numberAt ml_RX6_47 (m_X9_numberAt x.2.1 g (CxI C) x1 h1 v11 hv12 σ hσ q13 cq13) h1.1 rfl (Nat.le_of_ble_eq_true rfl) (Nat.le_of_ble_eq_true rfl) rfl rfl (Nat.le_of_ble_eq_true rfl) dX6_follow_54 (fun hz14 => ?_)
          refine J_istore (lo2 := [(5, vi q13), (4, vi v9), (3, vi q1), (0, .ref (gad g 24)), (1, .ref (gad g x1)), (2, vi x2)]) C 5 dX6_follow_57 (by decide) rfl ?_
          refine J_iload_n C 3 dX6_follow_59 rfl 2 rfl ?_
          rcases lt_or h with ⟨c18, h⟩ | ⟨c18, h⟩
          · refine J_switch C (tgt := 112) hz2 dX6_follow_60 (52) (fun z => absurd z (by omega)) (fun _ _ => by rw [c18]; rfl) (by decide) ?_
            refine J_aload_n C 0 dX6_follow_112 rfl 3 rfl ?_
            refine J_getI C fl_RX6_33 oC_24 rfl dX6_follow_113 ?_
            refine J_if_ne C (hσ 24 4 lC_24) (tgt := 123) dX6_follow_116 (by decide) h (fun h c50 => ?_) (fun h c50 => ?_)
            · refine J_iconst C dX6_follow_119 ?_
              refine J_goto C (tgt := 125) dX6_follow_120 (by decide) ?_
              have e9 := sE h
              subst e9
              exact J_iret C E ⟨rl_m1, hσ⟩ dX6_follow_125
            · refine J_bipush C dX6_follow_123 (bp8 (by decide) (by decide)) ?_
              have e9 := sE h
              subst e9
              exact J_iret C E ⟨rl_m2, hσ⟩ dX6_follow_125
          · rcases lt_or h with ⟨c19, h⟩ | ⟨c19, h⟩
            · refine J_switch C (tgt := 186) hz2 dX6_follow_60 (126) (fun z => absurd z (by omega)) (fun _ _ => by rw [c19]; rfl) (by decide) ?_
              refine J_aload_n C 0 dX6_follow_186 rfl 3 rfl ?_
              refine J_aload_n C 1 dX6_follow_187 rfl 4 rfl ?_
              refine J_iload_n C 2 dX6_follow_188 rfl 5 rfl ?_
              refine J_iload_n C 3 dX6_follow_189 rfl 2 rfl ?_
              obtain ⟨q47, cq47, h⟩ := bdS h
              refine J_callV C mw_X6_makeCues ml_RX6_76 (m_X6_makeCues x.2.1 g (CxI C) x1 h1 x2 h2 q1 hz2 σ hσ q47 cq47) oC_24 rfl (Nat.le_of_ble_eq_true rfl) (Nat.le_of_ble_eq_true rfl) rfl rfl (Nat.le_of_ble_eq_true rfl) dX6_follow_190 (fun hz48 => ?_)
              refine J_if_eq C (rg01 hz48.1) (tgt := 201) dX6_follow_193 (by decide) h (fun h c49 => ?_) (fun h c49 => ?_)
              · refine J_bipush C dX6_follow_201 (bp8 (by decide) (by decide)) ?_
                have e9 := sE h
                subst e9
                exact J_iret C E ⟨rl_m2, hz48.2⟩ dX6_follow_203
              · refine J_iload C 4 dX6_follow_196 1 rfl ?_
                refine J_goto C (tgt := 203) dX6_follow_198 (by decide) ?_
                have e9 := sE h
                subst e9
                exact J_iret C E ⟨hv10, hz48.2⟩ dX6_follow_203
            · rcases lt_or h with ⟨c20, h⟩ | ⟨c20, h⟩
              · refine J_switch C (tgt := 126) hz2 dX6_follow_60 (66) (fun z => absurd z (by omega)) (fun _ _ => by rw [c20]; rfl) (by decide) ?_
                refine J_aload_n C 0 dX6_follow_126 rfl 3 rfl ?_
                refine J_iload C 5 dX6_follow_127 0 rfl ?_
                obtain ⟨q44, cq44, h⟩ := bdS h
                refine J_callV C mw_X6_moveOn ml_RX6_63 (m_X6_moveOn x.2.1 g (CxI C) q13 hz14 σ hσ q44 cq44) oC_24 rfl (Nat.le_of_ble_eq_true rfl) (Nat.le_of_ble_eq_true rfl) rfl rfl (Nat.le_of_ble_eq_true rfl) dX6_follow_129 (fun hz45 => ?_)
                refine J_if_eq C (rg01 hz45.1) (tgt := 140) dX6_follow_132 (by decide) h (fun h c46 => ?_) (fun h c46 => ?_)
                · refine J_bipush C dX6_follow_140 (bp8 (by decide) (by decide)) ?_
                  have e9 := sE h
                  subst e9
                  exact J_iret C E ⟨rl_m2, hz45.2⟩ dX6_follow_142
                · refine J_iload C 4 dX6_follow_135 1 rfl ?_
                  refine J_goto C (tgt := 142) dX6_follow_137 (by decide) ?_
                  have e9 := sE h
                  subst e9
                  exact J_iret C E ⟨hv10, hz45.2⟩ dX6_follow_142
              · rcases lt_or h with ⟨c21, h⟩ | ⟨c21, h⟩
                · refine J_switch C (tgt := 186) hz2 dX6_follow_60 (126) (fun z => absurd z (by omega)) (fun _ _ => by rw [c21]; rfl) (by decide) ?_
                  refine J_aload_n C 0 dX6_follow_186 rfl 3 rfl ?_
                  refine J_aload_n C 1 dX6_follow_187 rfl 4 rfl ?_
                  refine J_iload_n C 2 dX6_follow_188 rfl 5 rfl ?_
                  refine J_iload_n C 3 dX6_follow_189 rfl 2 rfl ?_
                  obtain ⟨q41, cq41, h⟩ := bdS h
                  refine J_callV C mw_X6_makeCues ml_RX6_76 (m_X6_makeCues x.2.1 g (CxI C) x1 h1 x2 h2 q1 hz2 σ hσ q41 cq41) oC_24 rfl (Nat.le_of_ble_eq_true rfl) (Nat.le_of_ble_eq_true rfl) rfl rfl (Nat.le_of_ble_eq_true rfl) dX6_follow_190 (fun hz42 => ?_)
                  refine J_if_eq C (rg01 hz42.1) (tgt := 201) dX6_follow_193 (by decide) h (fun h c43 => ?_) (fun h c43 => ?_)
                  · refine J_bipush C dX6_follow_201 (bp8 (by decide) (by decide)) ?_
                    have e9 := sE h
                    subst e9
                    exact J_iret C E ⟨rl_m2, hz42.2⟩ dX6_follow_203
                  · refine J_iload C 4 dX6_follow_196 1 rfl ?_
                    refine J_goto C (tgt := 203) dX6_follow_198 (by decide) ?_
                    have e9 := sE h
                    subst e9
                    exact J_iret C E ⟨hv10, hz42.2⟩ dX6_follow_203
                · rcases lt_or h with ⟨c22, h⟩ | ⟨c22, h⟩
                  · refine J_switch C (tgt := 186) hz2 dX6_follow_60 (126) (fun z => absurd z (by omega)) (fun _ _ => by rw [c22]; rfl) (by decide) ?_
                    refine J_aload_n C 0 dX6_follow_186 rfl 3 rfl ?_
                    refine J_aload_n C 1 dX6_follow_187 rfl 4 rfl ?_
                    refine J_iload_n C 2 dX6_follow_188 rfl 5 rfl ?_
                    refine J_iload_n C 3 dX6_follow_189 rfl 2 rfl ?_
                    obtain ⟨q38, cq38, h⟩ := bdS h
                    refine J_callV C mw_X6_makeCues ml_RX6_76 (m_X6_makeCues x.2.1 g (CxI C) x1 h1 x2 h2 q1 hz2 σ hσ q38 cq38) oC_24 rfl (Nat.le_of_ble_eq_true rfl) (Nat.le_of_ble_eq_true rfl) rfl rfl (Nat.le_of_ble_eq_true rfl) dX6_follow_190 (fun hz39 => ?_)
                    refine J_if_eq C (rg01 hz39.1) (tgt := 201) dX6_follow_193 (by decide) h (fun h c40 => ?_) (fun h c40 => ?_)
                    · refine J_bipush C dX6_follow_201 (bp8 (by decide) (by decide)) ?_
                      have e9 := sE h
                      subst e9
                      exact J_iret C E ⟨rl_m2, hz39.2⟩ dX6_follow_203
                    · refine J_iload C 4 dX6_follow_196 1 rfl ?_
                      refine J_goto C (tgt := 203) dX6_follow_198 (by decide) ?_
                      have e9 := sE h
                      subst e9
                      exact J_iret C E ⟨hv10, hz39.2⟩ dX6_follow_203
                  · rcases lt_or h with ⟨c23, h⟩ | ⟨c23, h⟩
                    · refine J_switch C (tgt := 186) hz2 dX6_follow_60 (126) (fun z => absurd z (by omega)) (fun _ _ => by rw [c23]; rfl) (by decide) ?_
                      refine J_aload_n C 0 dX6_follow_186 rfl 3 rfl ?_
                      refine J_aload_n C 1 dX6_follow_187 rfl 4 rfl ?_
                      refine J_iload_n C 2 dX6_follow_188 rfl 5 rfl ?_
                      refine J_iload_n C 3 dX6_follow_189 rfl 2 rfl ?_
                      obtain ⟨q35, cq35, h⟩ := bdS h
                      refine J_callV C mw_X6_makeCues ml_RX6_76 (m_X6_makeCues x.2.1 g (CxI C) x1 h1 x2 h2 q1 hz2 σ hσ q35 cq35) oC_24 rfl (Nat.le_of_ble_eq_true rfl) (Nat.le_of_ble_eq_true rfl) rfl rfl (Nat.le_of_ble_eq_true rfl) dX6_follow_190 (fun hz36 => ?_)
                      refine J_if_eq C (rg01 hz36.1) (tgt := 201) dX6_follow_193 (by decide) h (fun h c37 => ?_) (fun h c37 => ?_)
                      · refine J_bipush C dX6_follow_201 (bp8 (by decide) (by decide)) ?_
                        have e9 := sE h
                        subst e9
                        exact J_iret C E ⟨rl_m2, hz36.2⟩ dX6_follow_203
                      · refine J_iload C 4 dX6_follow_196 1 rfl ?_
                        refine J_goto C (tgt := 203) dX6_follow_198 (by decide) ?_
                        have e9 := sE h
                        subst e9
                        exact J_iret C E ⟨hv10, hz36.2⟩ dX6_follow_203
                    · rcases lt_or h with ⟨c24, h⟩ | ⟨c24, h⟩
                      · refine J_switch C (tgt := 143) hz2 dX6_follow_60 (83) (fun z => absurd z (by omega)) (fun _ _ => by rw [c24]; rfl) (by decide) ?_
                        refine J_aload_n C 0 dX6_follow_143 rfl 3 rfl ?_
                        refine J_iload C 5 dX6_follow_144 0 rfl ?_
                        refine J_iload C 4 dX6_follow_146 1 rfl ?_
                        obtain ⟨q32, cq32, h⟩ := bdS h
                        refine J_callV C mw_X6_enter ml_RX6_66 (m_X6_enter x.2.1 g (CxI C) q13 hz14 v9 hv10 σ hσ q32 cq32) oC_24 rfl (Nat.le_of_ble_eq_true rfl) (Nat.le_of_ble_eq_true rfl) rfl rfl (Nat.le_of_ble_eq_true rfl) dX6_follow_148 (fun hz33 => ?_)
                        refine J_if_eq C (rg01 hz33.1) (tgt := 159) dX6_follow_151 (by decide) h (fun h c34 => ?_) (fun h c34 => ?_)
                        · refine J_bipush C dX6_follow_159 (bp8 (by decide) (by decide)) ?_
                          have e9 := sE h
                          subst e9
                          exact J_iret C E ⟨rl_m2, hz33.2⟩ dX6_follow_161
                        · refine J_iload C 4 dX6_follow_154 1 rfl ?_
                          refine J_goto C (tgt := 161) dX6_follow_156 (by decide) ?_
                          have e9 := sE h
                          subst e9
                          exact J_iret C E ⟨hv10, hz33.2⟩ dX6_follow_161
                      · rcases lt_or h with ⟨c25, h⟩ | ⟨c25, h⟩
                        · refine J_switch C (tgt := 162) hz2 dX6_follow_60 (102) (fun z => absurd z (by omega)) (fun _ _ => by rw [c25]; rfl) (by decide) ?_
                          refine J_aload_n C 0 dX6_follow_162 rfl 3 rfl ?_
                          refine J_iload C 4 dX6_follow_163 1 rfl ?_
                          obtain ⟨q30, cq30, h⟩ := bdS h
                          refine J_callV C mw_X6_leave ml_RX6_70 (m_X6_leave x.2.1 g (CxI C) v9 hv10 σ hσ q30 cq30) oC_24 rfl (Nat.le_of_ble_eq_true rfl) (Nat.le_of_ble_eq_true rfl) rfl rfl (Nat.le_of_ble_eq_true rfl) dX6_follow_165 (fun hz31 => ?_)
                          have e9 := sE h
                          subst e9
                          exact J_iret C E ⟨hz31.1, hz31.2⟩ dX6_follow_168
                        · rcases lt_or h with ⟨c26, h⟩ | ⟨c26, h⟩
                          · refine J_switch C (tgt := 169) hz2 dX6_follow_60 (109) (fun z => absurd z (by omega)) (fun _ _ => by rw [c26]; rfl) (by decide) ?_
                            refine J_aload_n C 0 dX6_follow_169 rfl 3 rfl ?_
                            refine J_iload C 5 dX6_follow_170 0 rfl ?_
                            obtain ⟨q27, cq27, h⟩ := bdS h
                            refine J_callV C mw_X6_setBeat ml_RX6_73 (m_X6_setBeat x.2.1 g (CxI C) q13 hz14 σ hσ q27 cq27) oC_24 rfl (Nat.le_of_ble_eq_true rfl) (Nat.le_of_ble_eq_true rfl) rfl rfl (Nat.le_of_ble_eq_true rfl) dX6_follow_172 (fun hz28 => ?_)
                            refine J_if_eq C (rg01 hz28.1) (tgt := 183) dX6_follow_175 (by decide) h (fun h c29 => ?_) (fun h c29 => ?_)
                            · refine J_bipush C dX6_follow_183 (bp8 (by decide) (by decide)) ?_
                              have e9 := sE h
                              subst e9
                              exact J_iret C E ⟨rl_m2, hz28.2⟩ dX6_follow_185
                            · refine J_iload C 4 dX6_follow_178 1 rfl ?_
                              refine J_goto C (tgt := 185) dX6_follow_180 (by decide) ?_
                              have e9 := sE h
                              subst e9
                              exact J_iret C E ⟨hv10, hz28.2⟩ dX6_follow_185
                          · refine J_switch C (tgt := 186) hz2 dX6_follow_60 (126) (fun _ => rfl) (fun z1 z2 => absurd z1 (by omega)) (by decide) ?_
                            refine J_aload_n C 0 dX6_follow_186 rfl 3 rfl ?_
                            refine J_aload_n C 1 dX6_follow_187 rfl 4 rfl ?_
                            refine J_iload_n C 2 dX6_follow_188 rfl 5 rfl ?_
                            refine J_iload_n C 3 dX6_follow_189 rfl 2 rfl ?_
                            obtain ⟨q15, cq15, h⟩ := bdS h
                            refine J_callV C mw_X6_makeCues ml_RX6_76 (m_X6_makeCues x.2.1 g (CxI C) x1 h1 x2 h2 q1 hz2 σ hσ q15 cq15) oC_24 rfl (Nat.le_of_ble_eq_true rfl) (Nat.le_of_ble_eq_true rfl) rfl rfl (Nat.le_of_ble_eq_true rfl) dX6_follow_190 (fun hz16 => ?_)
                            refine J_if_eq C (rg01 hz16.1) (tgt := 201) dX6_follow_193 (by decide) h (fun h c17 => ?_) (fun h c17 => ?_)
                            · refine J_bipush C dX6_follow_201 (bp8 (by decide) (by decide)) ?_
                              have e9 := sE h
                              subst e9
                              exact J_iret C E ⟨rl_m2, hz16.2⟩ dX6_follow_203
                            · refine J_iload C 4 dX6_follow_196 1 rfl ?_
                              refine J_goto C (tgt := 203) dX6_follow_198 (by decide) ?_
                              have e9 := sE h
                              subst e9
                              exact J_iret C E ⟨hv10, hz16.2⟩ dX6_follow_203
        · refine J_bipush C dX6_follow_47 (bp8 (by decide) (by decide)) ?_
          have e9 := sE h
          subst e9
          exact J_iret C E ⟨rl_m2, hσ⟩ dX6_follow_49
      · refine J_bipush C dX6_follow_26 (bp8 (by decide) (by decide)) ?_
        have e9 := sE h
        subst e9
        exact J_iret C E ⟨rl_m2, hσ⟩ dX6_follow_28
set_option maxRecDepth 100000 in
set_option maxHeartbeats 4000000 in
theorem wX6_firstFault_L28 {x : Ct} {g : Gm} (C : Cx x yC g 5 cX6_firstFault RX6 6 146) : ∀ (n : Nat) (x1 : Nat) (h1 : isTape x1) (x2 : Int) (h2 : rg x2) (x3 : Int) (h3 : rg x3) (σ : Sg) (hσ : wfS yC σ) (q : (Sg) ⊕ ((Int × Sg) ⊕ (Int × Sg))) (h : fX6_firstFault_L28 n x1 x2 x3 σ = some q) (k0 : ∀ a : Sg, q = .inl a → wfS yC a → J x yC g 5 48 [] [] a) (k1 : ∀ a : Int × Sg, q = .inr (.inl a) → rg a.1 → wfS yC a.2 → J x yC g 5 57 [(2, vi a.1)] [] a.2) (k2 : ∀ a : Int × Sg, q = .inr (.inr a) → rg a.1 → wfS yC a.2 → J x yC g 5 68 [(2, vi a.1)] [] a.2), J x yC g 5 28 [(0, .ref (gad g 24)), (1, .ref (gad g x1)), (2, vi x2), (3, vi x3)] [] σ := by
  intro n
  induction n with
  | zero =>
    intro x1 h1 x2 h2 x3 h3 σ hσ q h k0 k1 k2
    exact absurd h (by intro z; cases z)
  | succ n ih =>
    intro x1 h1 x2 h2 x3 h3 σ hσ q h k0 k1 k2
    rw [fX6_firstFault_L28] at h
    refine J_iload_n C 3 dX6_firstFault_28 rfl 3 rfl ?_
    refine J_ldc C (n := 1000000) kc_RX6_42 (by decide +kernel) dX6_firstFault_29 ?_
    refine J_icmp_ge C h3 rl_1000000 (tgt := 68) dX6_firstFault_31 (by decide) h (fun h c15 => ?_) (fun h c15 => ?_)
    · refine J_aload_n C 0 dX6_firstFault_34 rfl 0 rfl ?_
      refine J_aload_n C 1 dX6_firstFault_35 rfl 1 rfl ?_
      refine J_iload_n C 2 dX6_firstFault_36 rfl 2 rfl ?_
      obtain ⟨q9, cq9, h⟩ := bdS h
      refine J_callV C mw_X6_follow ml_RX6_43 (m_X6_follow x.2.1 g (CxI C) x1 h1 x2 h2 σ hσ q9 cq9) oC_24 rfl (Nat.le_of_ble_eq_true rfl) (Nat.le_of_ble_eq_true rfl) rfl rfl (Nat.le_of_ble_eq_true rfl) dX6_firstFault_37 (fun hz10 => ?_)
      refine J_istore (lo2 := [(4, vi q9.1), (0, .ref (gad g 24)), (1, .ref (gad g x1)), (2, vi x2), (3, vi x3)]) C 4 dX6_firstFault_40 (by decide) rfl ?_
      refine J_iload C 4 dX6_firstFault_42 0 rfl ?_
      refine J_iconst C dX6_firstFault_44 ?_
      refine J_icmp_ne C hz10.1 rl_m1 (tgt := 50) dX6_firstFault_45 (by decide) h (fun h c14 => ?_) (fun h c14 => ?_)
      · have e9 := sE h
        exact J_sub [] rfl (k0 q9.2 e9.symm hz10.2)
      · refine J_iload C 4 dX6_firstFault_50 0 rfl ?_
        refine J_bipush C dX6_firstFault_52 (bp8 (by decide) (by decide)) ?_
        refine J_icmp_ne C hz10.1 rl_m2 (tgt := 59) dX6_firstFault_54 (by decide) h (fun h c13 => ?_) (fun h c13 => ?_)
        · have e9 := sE h
          exact J_sub [3] rfl (k1 (x2, q9.2) e9.symm h2 hz10.2)
        · refine J_iload C 4 dX6_firstFault_59 0 rfl ?_
          refine J_istore_n (lo2 := [(2, vi q9.1), (4, vi q9.1), (0, .ref (gad g 24)), (1, .ref (gad g x1)), (3, vi x3)]) C 2 dX6_firstFault_61 rfl (by decide) rfl ?_
          refine J_iinc C 3 4 dX6_firstFault_62 rfl (by decide) h (fun v11 hv12 h => ?_)
          refine J_goto C (tgt := 28) dX6_firstFault_65 (by decide) ?_
          exact J_sub [3, 4, 1, 0] rfl (ih x1 h1 q9.1 hz10.1 v11 hv12 q9.2 hz10.2 q h k0 k1 k2)
    · have e9 := sE h
      exact J_sub [2] rfl (k2 (x2, σ) e9.symm h2 hσ)
set_option maxRecDepth 100000 in
set_option maxHeartbeats 4000000 in
theorem m_X6_firstFault (l : Launch) (g : Gm) (hg : gInj yC g) (x1 : Nat) (h1 : isTape x1) (σ : Sg) (hσ : wfS yC σ) (q : Int × Sg) (h : fX6_firstFault x1 σ = some q) : CJ l yC g yX6_firstFault cX6_firstFault 5 (some .int) 6 146 [.ref (gad g 24), .ref (gad g x1)] σ (some (vi q.1)) q.2 ((rg q.1) ∧ wfS yC q.2) := by
  refine CJ_of hg (by decide) rfl (Nat.le_of_ble_eq_true rfl) (lo := [(0, .ref (gad g 24)), (1, .ref (gad g x1))]) rfl (fun x C E => ?_)
  unfold fX6_firstFault at h
  refine J_aload_n C 0 dX6_firstFault_0 rfl 0 rfl ?_
  refine J_getR C fl_RX6_12 oC_24 rfl dX6_firstFault_1 ?_
  refine J_iconst C dX6_firstFault_4 ?_
  refine J_putI C fl_RX6_29 fp_RX1_4 cues_25.1 rfl rfl cues_25.2.1 hσ rl_0 dX6_firstFault_5 h (fun σ1 hσ2 h => ?_)
  refine J_aload_n C 0 dX6_firstFault_8 rfl 0 rfl ?_
  refine J_iconst C dX6_firstFault_9 ?_
  refine J_putI C fl_RX6_33 fp_RX6_4 oC_24 rfl rfl lC_24 hσ2 rl_0 dX6_firstFault_10 h (fun σ3 hσ4 h => ?_)
  refine J_aload_n C 0 dX6_firstFault_13 rfl 0 rfl ?_
  refine J_iconst C dX6_firstFault_14 ?_
  refine J_putI C fl_RX6_36 fp_RX6_5 oC_24 rfl rfl lC_24 hσ4 rl_0 dX6_firstFault_15 h (fun σ5 hσ6 h => ?_)
  refine J_aload_n C 0 dX6_firstFault_18 rfl 0 rfl ?_
  refine J_bipush C dX6_firstFault_19 (bp8 (by decide) (by decide)) ?_
  refine J_putI C fl_RX6_39 fp_RX6_6 oC_24 rfl rfl lC_24 hσ6 rl_10 dX6_firstFault_21 h (fun σ7 hσ8 h => ?_)
  refine J_iconst C dX6_firstFault_24 ?_
  refine J_istore_n (lo2 := [(2, vi 0), (0, .ref (gad g 24)), (1, .ref (gad g x1))]) C 2 dX6_firstFault_25 rfl (by decide) rfl ?_
  refine J_iconst C dX6_firstFault_26 ?_
  refine J_istore_n (lo2 := [(3, vi 0), (2, vi 0), (0, .ref (gad g 24)), (1, .ref (gad g x1))]) C 3 dX6_firstFault_27 rfl (by decide) rfl ?_
  obtain ⟨q16, cq16, h⟩ := bdS h
  refine J_sub [2, 3, 1, 0] rfl (wX6_firstFault_L28 C fu x1 h1 0 rl_0 0 rl_0 σ7 hσ8 q16 cq16 (fun a17 ea17 hσ18 => ?_) (fun a19 ea19 hr20 hσ21 => ?_) (fun a22 ea22 hr23 hσ24 => ?_))
  · subst ea17
    have h := elL h
    refine J_iconst C dX6_firstFault_48 ?_
    have e9 := sE h
    subst e9
    exact J_iret C E ⟨rl_m1, hσ18⟩ dX6_firstFault_49
  · subst ea19
    have h := elR h
    have h := elL h
    refine J_iload_n C 2 dX6_firstFault_57 rfl 0 rfl ?_
    have e9 := sE h
    subst e9
    exact J_iret C E ⟨hr20, hσ21⟩ dX6_firstFault_58
  · subst ea22
    have h := elR h
    have h := elR h
    refine J_iload_n C 2 dX6_firstFault_68 rfl 0 rfl ?_
    have e9 := sE h
    subst e9
    exact J_iret C E ⟨hr23, hσ24⟩ dX6_firstFault_69
set_option maxRecDepth 100000 in
set_option maxHeartbeats 4000000 in
theorem m_X1_become (l : Launch) (g : Gm) (hg : gInj yC g) (x0 : Nat) (h0 : isCues x0) (x1 : Nat) (h1 : isCues x1) (σ : Sg) (hσ : wfS yC σ) (q : Sg) (h : fX1_become x0 x1 σ = some q) : CJ l yC g yX1_become cX1_become 2 none 1 60 [.ref (gad g x0), .ref (gad g x1)] σ none q (wfS yC q) := by
  refine CJ_of hg (by decide) rfl (Nat.le_of_ble_eq_true rfl) (lo := [(0, .ref (gad g x0)), (1, .ref (gad g x1))]) rfl (fun x C E => ?_)
  unfold fX1_become at h
  refine J_aload_n C 1 dX1_become_0 rfl 1 rfl ?_
  refine J_getR C fl_RX1_9 h1.1 rfl dX1_become_1 ?_
  refine J_iconst C dX1_become_4 ?_
  refine J_aload_n C 0 dX1_become_5 rfl 0 rfl ?_
  refine J_getR C fl_RX1_9 h0.1 rfl dX1_become_6 ?_
  refine J_iconst C dX1_become_9 ?_
  refine J_bipush C dX1_become_10 (bp8 (by decide) (by decide)) ?_
  refine J_copyI C (h1).2.2.1 (h0).2.2.1 hσ rl_0 rl_0 rl_120 cpy_w ml_RX1_32 (Nat.le_of_ble_eq_true rfl) (Nat.le_of_ble_eq_true rfl) dX1_become_12 h (fun σ1 hσ2 h => ?_)
  refine J_aload_n C 1 dX1_become_15 rfl 1 rfl ?_
  refine J_getR C fl_RX1_15 h1.1 rfl dX1_become_16 ?_
  refine J_iconst C dX1_become_19 ?_
  refine J_aload_n C 0 dX1_become_20 rfl 0 rfl ?_
  refine J_getR C fl_RX1_15 h0.1 rfl dX1_become_21 ?_
  refine J_iconst C dX1_become_24 ?_
  refine J_bipush C dX1_become_25 (bp8 (by decide) (by decide)) ?_
  refine J_copyI C (h1).2.2.2.1 (h0).2.2.2.1 hσ2 rl_0 rl_0 rl_120 cpy_w ml_RX1_32 (Nat.le_of_ble_eq_true rfl) (Nat.le_of_ble_eq_true rfl) dX1_become_27 h (fun σ3 hσ4 h => ?_)
  refine J_aload_n C 1 dX1_become_30 rfl 1 rfl ?_
  refine J_getR C fl_RX1_18 h1.1 rfl dX1_become_31 ?_
  refine J_iconst C dX1_become_34 ?_
  refine J_aload_n C 0 dX1_become_35 rfl 0 rfl ?_
  refine J_getR C fl_RX1_18 h0.1 rfl dX1_become_36 ?_
  refine J_iconst C dX1_become_39 ?_
  refine J_bipush C dX1_become_40 (bp8 (by decide) (by decide)) ?_
  refine J_copyI C (h1).2.2.2.2.1 (h0).2.2.2.2.1 hσ4 rl_0 rl_0 rl_120 cpy_w ml_RX1_32 (Nat.le_of_ble_eq_true rfl) (Nat.le_of_ble_eq_true rfl) dX1_become_42 h (fun σ5 hσ6 h => ?_)
  refine J_aload_n C 1 dX1_become_45 rfl 1 rfl ?_
  refine J_getR C fl_RX1_21 h1.1 rfl dX1_become_46 ?_
  refine J_iconst C dX1_become_49 ?_
  refine J_aload_n C 0 dX1_become_50 rfl 0 rfl ?_
  refine J_getR C fl_RX1_21 h0.1 rfl dX1_become_51 ?_
  refine J_iconst C dX1_become_54 ?_
  refine J_bipush C dX1_become_55 (bp8 (by decide) (by decide)) ?_
  refine J_copyI C (h1).2.2.2.2.2 (h0).2.2.2.2.2 hσ6 rl_0 rl_0 rl_120 cpy_w ml_RX1_32 (Nat.le_of_ble_eq_true rfl) (Nat.le_of_ble_eq_true rfl) dX1_become_57 h (fun σ7 hσ8 h => ?_)
  refine J_aload_n C 0 dX1_become_60 rfl 0 rfl ?_
  refine J_aload_n C 1 dX1_become_61 rfl 1 rfl ?_
  refine J_getI C fl_RX1_24 h1.1 rfl dX1_become_62 ?_
  refine J_putI C fl_RX1_24 fp_RX1_4 h0.1 rfl rfl h0.2.1 hσ8 (hσ8 x1 4 h1.2.1) dX1_become_65 h (fun σ9 hσ10 h => ?_)
  have e9 := sE h
  subst e9
  exact J_vret C E hσ10 dX1_become_68
set_option maxRecDepth 100000 in
set_option maxHeartbeats 4000000 in
theorem m_X11_takeCues (l : Launch) (g : Gm) (hg : gInj yC g) (x1 : Nat) (h1 : isCues x1) (σ : Sg) (hσ : wfS yC σ) (q : Sg) (h : fX11_takeCues x1 σ = some q) : CJ l yC g yX11_takeCues cX11_takeCues 2 none 2 81 [.ref (gad g 0), .ref (gad g x1)] σ none q (wfS yC q) := by
  refine CJ_of hg (by decide) rfl (Nat.le_of_ble_eq_true rfl) (lo := [(0, .ref (gad g 0)), (1, .ref (gad g x1))]) rfl (fun x C E => ?_)
  unfold fX11_takeCues at h
  refine J_aload_n C 0 dX11_takeCues_0 rfl 0 rfl ?_
  refine J_getR C fl_RX11_19 oC_0 rfl dX11_takeCues_1 ?_
  refine J_aload_n C 1 dX11_takeCues_4 rfl 1 rfl ?_
  obtain ⟨q1, cq1, h⟩ := bdS h
  refine J_callV C mw_X1_become ml_RX11_377 (m_X1_become x.2.1 g (CxI C) 19 cues_19 x1 h1 σ hσ q1 cq1) cues_19.1 rfl (Nat.le_of_ble_eq_true rfl) (Nat.le_of_ble_eq_true rfl) rfl rfl (Nat.le_of_ble_eq_true rfl) dX11_takeCues_5 (fun hz2 => ?_)
  refine J_aload_n C 0 dX11_takeCues_8 rfl 0 rfl ?_
  refine J_getR C fl_RX11_60 oC_0 rfl dX11_takeCues_9 ?_
  obtain ⟨q3, cq3, h⟩ := bdS h
  refine J_callV C mw_X7_forgetFaults ml_RX11_380 (m_X7_forgetFaults x.2.1 g (CxI C) q1 hz2 q3 cq3) oC_48 rfl (Nat.le_of_ble_eq_true rfl) (Nat.le_of_ble_eq_true rfl) rfl rfl (Nat.le_of_ble_eq_true rfl) dX11_takeCues_12 (fun hz4 => ?_)
  refine J_aload_n C 0 dX11_takeCues_15 rfl 0 rfl ?_
  refine J_getR C fl_RX11_69 oC_0 rfl dX11_takeCues_16 ?_
  refine J_iconst C dX11_takeCues_19 ?_
  refine J_putI C fl_RX11_96 fp_RX10_6 oC_54 rfl rfl lC_54 hz4 rl_0 dX11_takeCues_20 h (fun σ5 hσ6 h => ?_)
  have e9 := sE h
  subst e9
  exact J_vret C E hσ6 dX11_takeCues_23
set_option maxRecDepth 100000 in
set_option maxHeartbeats 4000000 in
theorem m_X11_write (l : Launch) (g : Gm) (hg : gInj yC g) (x1 : Int) (h1 : rg x1) (σ : Sg) (hσ : wfS yC σ) (q : Int × Sg) (h : fX11_write x1 σ = some q) : CJ l yC g yX11_write cX11_write 5 (some .int) 7 170 [.ref (gad g 0), vi x1] σ (some (vi q.1)) q.2 ((rg q.1) ∧ wfS yC q.2) := by
  refine CJ_of hg (by decide) rfl (Nat.le_of_ble_eq_true rfl) (lo := [(0, .ref (gad g 0)), (1, vi x1)]) rfl (fun x C E => ?_)
  unfold fX11_write at h
  refine J_aload_n C 0 dX11_write_0 rfl 0 rfl ?_
  refine J_iload_n C 1 dX11_write_1 rfl 1 rfl ?_
  rcases lt_or h with ⟨c1, h⟩ | ⟨c1, h⟩
  · refine J_callV C mw_X11_tapeAt ml_RX11_171 (m_X11_tapeAt1 x.2.1 g (CxI C) x1 h1 σ hσ c1) oC_0 rfl (Nat.le_of_ble_eq_true rfl) (Nat.le_of_ble_eq_true rfl) rfl rfl (Nat.le_of_ble_eq_true rfl) dX11_write_2 (fun _ => ?_)
    refine J_astore_n (lo2 := [(2, .ref (gad g (tpO x1))), (0, .ref (gad g 0)), (1, vi x1)]) C 2 dX11_write_5 rfl (by decide) rfl ?_
    refine J_aload_n C 2 dX11_write_6 rfl 0 rfl ?_
    refine J_nonnull C (tgt := 12) dX11_write_7 (by decide) ?_
    refine J_aload_n C 2 dX11_write_12 rfl 0 rfl ?_
    refine J_iconst C dX11_write_13 ?_
    obtain ⟨q2, cq2, h⟩ := bdS h
    refine J_callV C mw_X9_refusalAs ml_RX11_175 (m_X9_refusalAs x.2.1 g (CxI C) (tpO x1) (tpA c1.1 c1.2) 1 rl_1 σ hσ q2 cq2) (tpA c1.1 c1.2).1 rfl (Nat.le_of_ble_eq_true rfl) (Nat.le_of_ble_eq_true rfl) rfl rfl (Nat.le_of_ble_eq_true rfl) dX11_write_14 (fun hz3 => ?_)
    refine J_istore_n (lo2 := [(3, vi q2), (2, .ref (gad g (tpO x1))), (0, .ref (gad g 0)), (1, vi x1)]) C 3 dX11_write_17 rfl (by decide) rfl ?_
    refine J_iload_n C 3 dX11_write_18 rfl 0 rfl ?_
    refine J_if_eq C hz3 (tgt := 28) dX11_write_19 (by decide) h (fun h c13 => ?_) (fun h c13 => ?_)
    · refine J_aload_n C 0 dX11_write_28 rfl 2 rfl ?_
      refine J_getR C fl_RX11_28 oC_0 rfl dX11_write_29 ?_
      refine J_aload_n C 2 dX11_write_32 rfl 1 rfl ?_
      obtain ⟨q4, cq4, h⟩ := bdS h
      refine J_callV C mw_X6_firstFault ml_RX11_181 (m_X6_firstFault x.2.1 g (CxI C) (tpO x1) (tpA c1.1 c1.2) σ hσ q4 cq4) oC_24 rfl (Nat.le_of_ble_eq_true rfl) (Nat.le_of_ble_eq_true rfl) rfl rfl (Nat.le_of_ble_eq_true rfl) dX11_write_33 (fun hz5 => ?_)
      refine J_istore (lo2 := [(4, vi q4.1), (3, vi q2), (2, .ref (gad g (tpO x1))), (0, .ref (gad g 0)), (1, vi x1)]) C 4 dX11_write_36 (by decide) rfl ?_
      refine J_iload C 4 dX11_write_38 0 rfl ?_
      refine J_if_lt C hz5.1 (tgt := 49) dX11_write_40 (by decide) h (fun h c10 => ?_) (fun h c10 => ?_)
      · refine J_aload_n C 0 dX11_write_49 rfl 3 rfl ?_
        refine J_aload_n C 0 dX11_write_50 rfl 3 rfl ?_
        refine J_getR C fl_RX11_28 oC_0 rfl dX11_write_51 ?_
        refine J_getR C fl_RX11_185 oC_24 rfl dX11_write_54 ?_
        obtain ⟨q6, cq6, h⟩ := bdS h
        refine J_callV C mw_X11_takeCues ml_RX11_188 (m_X11_takeCues x.2.1 g (CxI C) 25 cues_25 q4.2 hz5.2 q6 cq6) oC_0 rfl (Nat.le_of_ble_eq_true rfl) (Nat.le_of_ble_eq_true rfl) rfl rfl (Nat.le_of_ble_eq_true rfl) dX11_write_57 (fun hz7 => ?_)
        refine J_aload_n C 0 dX11_write_60 rfl 3 rfl ?_
        refine J_getR C fl_RX11_19 oC_0 rfl dX11_write_61 ?_
        refine J_getI C fl_RX11_90 cues_19.1 rfl dX11_write_64 ?_
        have e9 := sE h
        subst e9
        exact J_iret C E ⟨(hz7 19 4 cues_19.2.1), hz7⟩ dX11_write_67
      · refine J_bipush C dX11_write_43 (bp8 (by decide) (by decide)) ?_
        refine J_iload C 4 dX11_write_45 0 rfl ?_
        refine J_isub C dX11_write_47 h (fun v8 hv9 h => ?_)
        have e9 := sE h
        subst e9
        exact J_iret C E ⟨hv9, hz5.2⟩ dX11_write_48
    · refine J_aload_n C 0 dX11_write_22 rfl 2 rfl ?_
      refine J_iload_n C 3 dX11_write_23 rfl 0 rfl ?_
      obtain ⟨q11, cq11, h⟩ := bdS h
      refine J_callV C mw_X11_refuse ml_RX11_178 (m_X11_refuse x.2.1 g (CxI C) q2 hz3 σ hσ q11 cq11) oC_0 rfl (Nat.le_of_ble_eq_true rfl) (Nat.le_of_ble_eq_true rfl) rfl rfl (Nat.le_of_ble_eq_true rfl) dX11_write_24 (fun hz12 => ?_)
      have e9 := sE h
      subst e9
      exact J_iret C E ⟨hz12.1, hz12.2⟩ dX11_write_27
  · refine J_callV C mw_X11_tapeAt ml_RX11_171 (m_X11_tapeAt0 x.2.1 g (CxI C) x1 h1 σ hσ c1) oC_0 rfl (Nat.le_of_ble_eq_true rfl) (Nat.le_of_ble_eq_true rfl) rfl rfl (Nat.le_of_ble_eq_true rfl) dX11_write_2 (fun _ => ?_)
    refine J_astore_nN (lo2 := [(2, .null), (0, .ref (gad g 0)), (1, vi x1)]) C 2 dX11_write_5 rfl (by decide) rfl ?_
    refine J_aload_nN C 2 dX11_write_6 rfl 0 rfl ?_
    refine J_nonnullN C dX11_write_7 ?_
    refine J_iconst C dX11_write_10 ?_
    have e9 := sE h
    subst e9
    exact J_iret C E ⟨rl_m1, hσ⟩ dX11_write_11
set_option maxRecDepth 100000 in
set_option maxHeartbeats 4000000 in
theorem m_X1_bargeOf (l : Launch) (g : Gm) (hg : gInj yC g) (x0 : Nat) (h0 : isCues x0) (x1 : Int) (h1 : rg x1) (σ : Sg) (hσ : wfS yC σ) (q : Int) (h : fX1_bargeOf x0 x1 σ = some q) : CJ l yC g yX1_bargeOf cX1_bargeOf 2 (some .int) 1 21 [.ref (gad g x0), vi x1] σ (some (vi q)) σ (rg q) := by
  refine CJ_of hg (by decide) rfl (Nat.le_of_ble_eq_true rfl) (lo := [(0, .ref (gad g x0)), (1, vi x1)]) rfl (fun x C E => ?_)
  unfold fX1_bargeOf at h
  refine J_aload_n C 0 dX1_bargeOf_0 rfl 0 rfl ?_
  refine J_iload_n C 1 dX1_bargeOf_1 rfl 1 rfl ?_
  obtain ⟨q1, cq1, h⟩ := bdS h
  refine J_callV C mw_X1_isCue ml_RX1_28 (m_X1_isCue x.2.1 g (CxI C) x0 h0 x1 h1 σ hσ q1 cq1) h0.1 rfl (Nat.le_of_ble_eq_true rfl) (Nat.le_of_ble_eq_true rfl) rfl rfl (Nat.le_of_ble_eq_true rfl) dX1_bargeOf_2 (fun hz2 => ?_)
  refine J_if_eq C (rg01 hz2) (tgt := 17) dX1_bargeOf_5 (by decide) h (fun h c5 => ?_) (fun h c5 => ?_)
  · refine J_iconst C dX1_bargeOf_17 ?_
    have e9 := sE h
    subst e9
    exact J_iret C E rl_m1 dX1_bargeOf_18
  · refine J_aload_n C 0 dX1_bargeOf_8 rfl 0 rfl ?_
    refine J_getR C fl_RX1_18 h0.1 rfl dX1_bargeOf_9 ?_
    refine J_iload_n C 1 dX1_bargeOf_12 rfl 1 rfl ?_
    refine J_iald C (h0).2.2.2.2.1 hσ dX1_bargeOf_13 h (fun v3 hv4 h => ?_)
    refine J_goto C (tgt := 18) dX1_bargeOf_14 (by decide) ?_
    have e9 := sE h
    subst e9
    exact J_iret C E hv4 dX1_bargeOf_18
set_option maxRecDepth 100000 in
set_option maxHeartbeats 4000000 in
theorem m_X1_angleOf (l : Launch) (g : Gm) (hg : gInj yC g) (x0 : Nat) (h0 : isCues x0) (x1 : Int) (h1 : rg x1) (σ : Sg) (hσ : wfS yC σ) (q : Int) (h : fX1_angleOf x0 x1 σ = some q) : CJ l yC g yX1_angleOf cX1_angleOf 2 (some .int) 1 21 [.ref (gad g x0), vi x1] σ (some (vi q)) σ (rg q) := by
  refine CJ_of hg (by decide) rfl (Nat.le_of_ble_eq_true rfl) (lo := [(0, .ref (gad g x0)), (1, vi x1)]) rfl (fun x C E => ?_)
  unfold fX1_angleOf at h
  refine J_aload_n C 0 dX1_angleOf_0 rfl 0 rfl ?_
  refine J_iload_n C 1 dX1_angleOf_1 rfl 1 rfl ?_
  obtain ⟨q1, cq1, h⟩ := bdS h
  refine J_callV C mw_X1_isCue ml_RX1_28 (m_X1_isCue x.2.1 g (CxI C) x0 h0 x1 h1 σ hσ q1 cq1) h0.1 rfl (Nat.le_of_ble_eq_true rfl) (Nat.le_of_ble_eq_true rfl) rfl rfl (Nat.le_of_ble_eq_true rfl) dX1_angleOf_2 (fun hz2 => ?_)
  refine J_if_eq C (rg01 hz2) (tgt := 17) dX1_angleOf_5 (by decide) h (fun h c5 => ?_) (fun h c5 => ?_)
  · refine J_iconst C dX1_angleOf_17 ?_
    have e9 := sE h
    subst e9
    exact J_iret C E rl_0 dX1_angleOf_18
  · refine J_aload_n C 0 dX1_angleOf_8 rfl 0 rfl ?_
    refine J_getR C fl_RX1_21 h0.1 rfl dX1_angleOf_9 ?_
    refine J_iload_n C 1 dX1_angleOf_12 rfl 1 rfl ?_
    refine J_iald C (h0).2.2.2.2.2 hσ dX1_angleOf_13 h (fun v3 hv4 h => ?_)
    refine J_goto C (tgt := 18) dX1_angleOf_14 (by decide) ?_
    have e9 := sE h
    subst e9
    exact J_iret C E hv4 dX1_angleOf_18
set_option maxRecDepth 100000 in
set_option maxHeartbeats 4000000 in
theorem m_X8_fireOf (l : Launch) (g : Gm) (hg : gInj yC g) (x1 : Nat) (h1 : isCues x1) (x2 : Int) (h2 : rg x2) (σ : Sg) (hσ : wfS yC σ) (q : Int) (h : fX8_fireOf x1 x2 σ = some q) : CJ l yC g yX8_fireOf cX8_fireOf 3 (some .int) 2 42 [.ref (gad g 1), .ref (gad g x1), vi x2] σ (some (vi q)) σ (rg q) := by
  refine CJ_of hg (by decide) rfl (Nat.le_of_ble_eq_true rfl) (lo := [(0, .ref (gad g 1)), (1, .ref (gad g x1)), (2, vi x2)]) rfl (fun x C E => ?_)
  unfold fX8_fireOf at h
  refine J_aload_n C 1 dX8_fireOf_0 rfl 1 rfl ?_
  refine J_iload_n C 2 dX8_fireOf_1 rfl 2 rfl ?_
  obtain ⟨q1, cq1, h⟩ := bdS h
  refine J_callV C mw_X1_burstOf ml_RX8_56 (m_X1_burstOf x.2.1 g (CxI C) x1 h1 x2 h2 σ hσ q1 cq1) h1.1 rfl (Nat.le_of_ble_eq_true rfl) (Nat.le_of_ble_eq_true rfl) rfl rfl (Nat.le_of_ble_eq_true rfl) dX8_fireOf_2 (fun hz2 => ?_)
  refine J_aload_n C 0 dX8_fireOf_5 rfl 0 rfl ?_
  refine J_getR C fl_RX8_28 oC_1 rfl dX8_fireOf_6 ?_
  refine J_aload_n C 1 dX8_fireOf_9 rfl 1 rfl ?_
  refine J_iload_n C 2 dX8_fireOf_10 rfl 2 rfl ?_
  obtain ⟨q3, cq3, h⟩ := bdS h
  refine J_callV C mw_X1_kindOf ml_RX8_62 (m_X1_kindOf x.2.1 g (CxI C) x1 h1 x2 h2 σ hσ q3 cq3) h1.1 rfl (Nat.le_of_ble_eq_true rfl) (Nat.le_of_ble_eq_true rfl) rfl rfl (Nat.le_of_ble_eq_true rfl) dX8_fireOf_11 (fun hz4 => ?_)
  obtain ⟨q5, cq5, h⟩ := bdS h
  refine J_callV C mw_X2_liftOf ml_RX8_65 (m_X2_liftOf x.2.1 g (CxI C) q3 hz4 σ hσ q5 cq5) oC_6 rfl (Nat.le_of_ble_eq_true rfl) (Nat.le_of_ble_eq_true rfl) rfl rfl (Nat.le_of_ble_eq_true rfl) dX8_fireOf_14 (fun hz6 => ?_)
  refine J_isub C dX8_fireOf_17 h (fun v7 hv8 h => ?_)
  have e9 := sE h
  subst e9
  exact J_iret C E hv8 dX8_fireOf_18
set_option maxRecDepth 100000 in
set_option maxHeartbeats 4000000 in
theorem m_X11_cue (l : Launch) (g : Gm) (hg : gInj yC g) (x1 : Int) (h1 : rg x1) (x2 : Int) (h2 : rg x2) (σ : Sg) (hσ : wfS yC σ) (q : Int) (h : fX11_cue x1 x2 σ = some q) : CJ l yC g yX11_cue cX11_cue 3 (some .int) 3 64 [.ref (gad g 0), vi x1, vi x2] σ (some (vi q)) σ (rg q) := by
  refine CJ_of hg (by decide) rfl (Nat.le_of_ble_eq_true rfl) (lo := [(0, .ref (gad g 0)), (1, vi x1), (2, vi x2)]) rfl (fun x C E => ?_)
  unfold fX11_cue at h
  have pc1 : fX11_cue_P9  σ = some q → J x yC g 3 9 [] [] σ := by
    intro h
    unfold fX11_cue_P9 at h
    exact absurd h (by intro z; cases z)
  refine J_iload_n C 2 dX11_cue_0 rfl 2 rfl ?_
  refine J_if_lt C h2 (tgt := 9) dX11_cue_1 (by decide) h (fun h c20 => ?_) (fun h c20 => ?_)
  · exact J_sub [] rfl (pc1  h)
  · refine J_iload_n C 2 dX11_cue_4 rfl 2 rfl ?_
    refine J_iconst C dX11_cue_5 ?_
    refine J_icmp_le C h2 rl_4 (tgt := 19) dX11_cue_6 (by decide) h (fun h c19 => ?_) (fun h c19 => ?_)
    · refine J_aload_n C 0 dX11_cue_19 rfl 0 rfl ?_
      refine J_getR C fl_RX11_19 oC_0 rfl dX11_cue_20 ?_
      refine J_iload_n C 1 dX11_cue_23 rfl 1 rfl ?_
      obtain ⟨q2, cq2, h⟩ := bdS h
      refine J_callV C mw_X1_isCue ml_RX11_199 (m_X1_isCue x.2.1 g (CxI C) 19 cues_19 x1 h1 σ hσ q2 cq2) cues_19.1 rfl (Nat.le_of_ble_eq_true rfl) (Nat.le_of_ble_eq_true rfl) rfl rfl (Nat.le_of_ble_eq_true rfl) dX11_cue_24 (fun hz3 => ?_)
      refine J_if_ne C (rg01 hz3) (tgt := 40) dX11_cue_27 (by decide) h (fun h c18 => ?_) (fun h c18 => ?_)
      · exact absurd h (by intro z; cases z)
      · refine J_iload_n C 2 dX11_cue_40 rfl 2 rfl ?_
        rcases lt_or h with ⟨c6, h⟩ | ⟨c6, h⟩
        · refine J_switch C (tgt := 72) h2 dX11_cue_41 (31) (fun z => absurd z (by omega)) (fun _ _ => by rw [c6]; rfl) (by decide) ?_
          refine J_aload_n C 0 dX11_cue_72 rfl 0 rfl ?_
          refine J_getR C fl_RX11_19 oC_0 rfl dX11_cue_73 ?_
          refine J_iload_n C 1 dX11_cue_76 rfl 1 rfl ?_
          obtain ⟨q16, cq16, h⟩ := bdS h
          refine J_callV C mw_X1_burstOf ml_RX11_207 (m_X1_burstOf x.2.1 g (CxI C) 19 cues_19 x1 h1 σ hσ q16 cq16) cues_19.1 rfl (Nat.le_of_ble_eq_true rfl) (Nat.le_of_ble_eq_true rfl) rfl rfl (Nat.le_of_ble_eq_true rfl) dX11_cue_77 (fun hz17 => ?_)
          have e9 := sE h
          subst e9
          exact J_iret C E hz17 dX11_cue_80
        · rcases lt_or h with ⟨c7, h⟩ | ⟨c7, h⟩
          · refine J_switch C (tgt := 81) h2 dX11_cue_41 (40) (fun z => absurd z (by omega)) (fun _ _ => by rw [c7]; rfl) (by decide) ?_
            refine J_aload_n C 0 dX11_cue_81 rfl 0 rfl ?_
            refine J_getR C fl_RX11_19 oC_0 rfl dX11_cue_82 ?_
            refine J_iload_n C 1 dX11_cue_85 rfl 1 rfl ?_
            obtain ⟨q14, cq14, h⟩ := bdS h
            refine J_callV C mw_X1_kindOf ml_RX11_210 (m_X1_kindOf x.2.1 g (CxI C) 19 cues_19 x1 h1 σ hσ q14 cq14) cues_19.1 rfl (Nat.le_of_ble_eq_true rfl) (Nat.le_of_ble_eq_true rfl) rfl rfl (Nat.le_of_ble_eq_true rfl) dX11_cue_86 (fun hz15 => ?_)
            have e9 := sE h
            subst e9
            exact J_iret C E hz15 dX11_cue_89
          · rcases lt_or h with ⟨c8, h⟩ | ⟨c8, h⟩
            · refine J_switch C (tgt := 90) h2 dX11_cue_41 (49) (fun z => absurd z (by omega)) (fun _ _ => by rw [c8]; rfl) (by decide) ?_
              refine J_aload_n C 0 dX11_cue_90 rfl 0 rfl ?_
              refine J_getR C fl_RX11_19 oC_0 rfl dX11_cue_91 ?_
              refine J_iload_n C 1 dX11_cue_94 rfl 1 rfl ?_
              obtain ⟨q12, cq12, h⟩ := bdS h
              refine J_callV C mw_X1_bargeOf ml_RX11_213 (m_X1_bargeOf x.2.1 g (CxI C) 19 cues_19 x1 h1 σ hσ q12 cq12) cues_19.1 rfl (Nat.le_of_ble_eq_true rfl) (Nat.le_of_ble_eq_true rfl) rfl rfl (Nat.le_of_ble_eq_true rfl) dX11_cue_95 (fun hz13 => ?_)
              have e9 := sE h
              subst e9
              exact J_iret C E hz13 dX11_cue_98
            · rcases lt_or h with ⟨c9, h⟩ | ⟨c9, h⟩
              · refine J_switch C (tgt := 99) h2 dX11_cue_41 (58) (fun z => absurd z (by omega)) (fun _ _ => by rw [c9]; rfl) (by decide) ?_
                refine J_aload_n C 0 dX11_cue_99 rfl 0 rfl ?_
                refine J_getR C fl_RX11_19 oC_0 rfl dX11_cue_100 ?_
                refine J_iload_n C 1 dX11_cue_103 rfl 1 rfl ?_
                obtain ⟨q10, cq10, h⟩ := bdS h
                refine J_callV C mw_X1_angleOf ml_RX11_216 (m_X1_angleOf x.2.1 g (CxI C) 19 cues_19 x1 h1 σ hσ q10 cq10) cues_19.1 rfl (Nat.le_of_ble_eq_true rfl) (Nat.le_of_ble_eq_true rfl) rfl rfl (Nat.le_of_ble_eq_true rfl) dX11_cue_104 (fun hz11 => ?_)
                have e9 := sE h
                subst e9
                exact J_iret C E hz11 dX11_cue_107
              · refine J_switch C (tgt := 108) h2 dX11_cue_41 (67) (fun _ => rfl) (fun z1 z2 => absurd z1 (by omega)) (by decide) ?_
                refine J_aload_n C 0 dX11_cue_108 rfl 0 rfl ?_
                refine J_getR C fl_RX11_10 oC_0 rfl dX11_cue_109 ?_
                refine J_aload_n C 0 dX11_cue_112 rfl 0 rfl ?_
                refine J_getR C fl_RX11_19 oC_0 rfl dX11_cue_113 ?_
                refine J_iload_n C 1 dX11_cue_116 rfl 1 rfl ?_
                obtain ⟨q4, cq4, h⟩ := bdS h
                refine J_callV C mw_X8_fireOf ml_RX11_219 (m_X8_fireOf x.2.1 g (CxI C) 19 cues_19 x1 h1 σ hσ q4 cq4) oC_1 rfl (Nat.le_of_ble_eq_true rfl) (Nat.le_of_ble_eq_true rfl) rfl rfl (Nat.le_of_ble_eq_true rfl) dX11_cue_117 (fun hz5 => ?_)
                have e9 := sE h
                subst e9
                exact J_iret C E hz5 dX11_cue_120
    · exact J_sub [] rfl (pc1  h)
set_option maxRecDepth 100000 in
set_option maxHeartbeats 4000000 in
theorem t_X11_cueT (l : Launch) (g : Gm) (hg : gInj yC g) (hlt : l.stackTraces = false) (x1 : Int) (h1 : rg x1) (x2 : Int) (h2 : rg x2) (σ : Sg) (hσ : wfS yC σ) (q : Int) (h : fX11_cueT x1 x2 σ = some q) : TJ l yC g yX11_cue cX11_cue 3 (some .int) 6 110 [.ref (gad g 0), vi x1, vi x2] σ (exName q) σ (wfS yC σ) := by
  refine TJ_of hg (by decide) rfl (Nat.le_of_ble_eq_true rfl) (lo := [(0, .ref (gad g 0)), (1, vi x1), (2, vi x2)]) rfl (fun x C E hxl => ?_)
  unfold fX11_cueT at h
  have pc1 : fX11_cueT_P9  σ = some q → J x yC g 3 9 [] [] σ := by
    intro h
    unfold fX11_cueT_P9 at h
    have e9 := sE h
    subst e9
    exact J_throwS C (by rw [hxl]; exact hlt) ew_RX11_192_196 (List.mem_of_getElem? (i := 1) rfl) E hσ (Nat.le_of_ble_eq_true rfl) (Nat.le_of_ble_eq_true rfl) (Nat.le_of_ble_eq_true rfl) dX11_cue_9 dX11_cue_12 dX11_cue_13 dX11_cue_15 dX11_cue_18
  refine J_iload_n C 2 dX11_cue_0 rfl 2 rfl ?_
  refine J_if_lt C h2 (tgt := 9) dX11_cue_1 (by decide) h (fun h c20 => ?_) (fun h c20 => ?_)
  · exact J_sub [] rfl (pc1  h)
  · refine J_iload_n C 2 dX11_cue_4 rfl 2 rfl ?_
    refine J_iconst C dX11_cue_5 ?_
    refine J_icmp_le C h2 rl_4 (tgt := 19) dX11_cue_6 (by decide) h (fun h c19 => ?_) (fun h c19 => ?_)
    · refine J_aload_n C 0 dX11_cue_19 rfl 0 rfl ?_
      refine J_getR C fl_RX11_19 oC_0 rfl dX11_cue_20 ?_
      refine J_iload_n C 1 dX11_cue_23 rfl 1 rfl ?_
      obtain ⟨q2, cq2, h⟩ := bdS h
      refine J_callV C mw_X1_isCue ml_RX11_199 (m_X1_isCue x.2.1 g (CxI C) 19 cues_19 x1 h1 σ hσ q2 cq2) cues_19.1 rfl (Nat.le_of_ble_eq_true rfl) (Nat.le_of_ble_eq_true rfl) rfl rfl (Nat.le_of_ble_eq_true rfl) dX11_cue_24 (fun hz3 => ?_)
      refine J_if_ne C (rg01 hz3) (tgt := 40) dX11_cue_27 (by decide) h (fun h c18 => ?_) (fun h c18 => ?_)
      · have e9 := sE h
        subst e9
        exact J_throwS C (by rw [hxl]; exact hlt) ew_RX11_202_206 (List.mem_of_getElem? (i := 2) rfl) E hσ (Nat.le_of_ble_eq_true rfl) (Nat.le_of_ble_eq_true rfl) (Nat.le_of_ble_eq_true rfl) dX11_cue_30 dX11_cue_33 dX11_cue_34 dX11_cue_36 dX11_cue_39
      · refine J_iload_n C 2 dX11_cue_40 rfl 2 rfl ?_
        rcases lt_or h with ⟨c6, h⟩ | ⟨c6, h⟩
        · refine J_switch C (tgt := 72) h2 dX11_cue_41 (31) (fun z => absurd z (by omega)) (fun _ _ => by rw [c6]; rfl) (by decide) ?_
          refine J_aload_n C 0 dX11_cue_72 rfl 0 rfl ?_
          refine J_getR C fl_RX11_19 oC_0 rfl dX11_cue_73 ?_
          refine J_iload_n C 1 dX11_cue_76 rfl 1 rfl ?_
          obtain ⟨q16, cq16, h⟩ := bdS h
          refine J_callV C mw_X1_burstOf ml_RX11_207 (m_X1_burstOf x.2.1 g (CxI C) 19 cues_19 x1 h1 σ hσ q16 cq16) cues_19.1 rfl (Nat.le_of_ble_eq_true rfl) (Nat.le_of_ble_eq_true rfl) rfl rfl (Nat.le_of_ble_eq_true rfl) dX11_cue_77 (fun hz17 => ?_)
          exact absurd h (by intro z; cases z)
        · rcases lt_or h with ⟨c7, h⟩ | ⟨c7, h⟩
          · refine J_switch C (tgt := 81) h2 dX11_cue_41 (40) (fun z => absurd z (by omega)) (fun _ _ => by rw [c7]; rfl) (by decide) ?_
            refine J_aload_n C 0 dX11_cue_81 rfl 0 rfl ?_
            refine J_getR C fl_RX11_19 oC_0 rfl dX11_cue_82 ?_
            refine J_iload_n C 1 dX11_cue_85 rfl 1 rfl ?_
            obtain ⟨q14, cq14, h⟩ := bdS h
            refine J_callV C mw_X1_kindOf ml_RX11_210 (m_X1_kindOf x.2.1 g (CxI C) 19 cues_19 x1 h1 σ hσ q14 cq14) cues_19.1 rfl (Nat.le_of_ble_eq_true rfl) (Nat.le_of_ble_eq_true rfl) rfl rfl (Nat.le_of_ble_eq_true rfl) dX11_cue_86 (fun hz15 => ?_)
            exact absurd h (by intro z; cases z)
          · rcases lt_or h with ⟨c8, h⟩ | ⟨c8, h⟩
            · refine J_switch C (tgt := 90) h2 dX11_cue_41 (49) (fun z => absurd z (by omega)) (fun _ _ => by rw [c8]; rfl) (by decide) ?_
              refine J_aload_n C 0 dX11_cue_90 rfl 0 rfl ?_
              refine J_getR C fl_RX11_19 oC_0 rfl dX11_cue_91 ?_
              refine J_iload_n C 1 dX11_cue_94 rfl 1 rfl ?_
              obtain ⟨q12, cq12, h⟩ := bdS h
              refine J_callV C mw_X1_bargeOf ml_RX11_213 (m_X1_bargeOf x.2.1 g (CxI C) 19 cues_19 x1 h1 σ hσ q12 cq12) cues_19.1 rfl (Nat.le_of_ble_eq_true rfl) (Nat.le_of_ble_eq_true rfl) rfl rfl (Nat.le_of_ble_eq_true rfl) dX11_cue_95 (fun hz13 => ?_)
              exact absurd h (by intro z; cases z)
            · rcases lt_or h with ⟨c9, h⟩ | ⟨c9, h⟩
              · refine J_switch C (tgt := 99) h2 dX11_cue_41 (58) (fun z => absurd z (by omega)) (fun _ _ => by rw [c9]; rfl) (by decide) ?_
                refine J_aload_n C 0 dX11_cue_99 rfl 0 rfl ?_
                refine J_getR C fl_RX11_19 oC_0 rfl dX11_cue_100 ?_
                refine J_iload_n C 1 dX11_cue_103 rfl 1 rfl ?_
                obtain ⟨q10, cq10, h⟩ := bdS h
                refine J_callV C mw_X1_angleOf ml_RX11_216 (m_X1_angleOf x.2.1 g (CxI C) 19 cues_19 x1 h1 σ hσ q10 cq10) cues_19.1 rfl (Nat.le_of_ble_eq_true rfl) (Nat.le_of_ble_eq_true rfl) rfl rfl (Nat.le_of_ble_eq_true rfl) dX11_cue_104 (fun hz11 => ?_)
                exact absurd h (by intro z; cases z)
              · refine J_switch C (tgt := 108) h2 dX11_cue_41 (67) (fun _ => rfl) (fun z1 z2 => absurd z1 (by omega)) (by decide) ?_
                refine J_aload_n C 0 dX11_cue_108 rfl 0 rfl ?_
                refine J_getR C fl_RX11_10 oC_0 rfl dX11_cue_109 ?_
                refine J_aload_n C 0 dX11_cue_112 rfl 0 rfl ?_
                refine J_getR C fl_RX11_19 oC_0 rfl dX11_cue_113 ?_
                refine J_iload_n C 1 dX11_cue_116 rfl 1 rfl ?_
                obtain ⟨q4, cq4, h⟩ := bdS h
                refine J_callV C mw_X8_fireOf ml_RX11_219 (m_X8_fireOf x.2.1 g (CxI C) 19 cues_19 x1 h1 σ hσ q4 cq4) oC_1 rfl (Nat.le_of_ble_eq_true rfl) (Nat.le_of_ble_eq_true rfl) rfl rfl (Nat.le_of_ble_eq_true rfl) dX11_cue_117 (fun hz5 => ?_)
                exact absurd h (by intro z; cases z)
    · exact J_sub [] rfl (pc1  h)
set_option maxRecDepth 100000 in
set_option maxHeartbeats 4000000 in
theorem m_X11_stretched (l : Launch) (g : Gm) (hg : gInj yC g) (x0 : Int) (h0 : rg x0) (x1 : Int) (h1 : rg x1) (x2 : Int) (h2 : rg x2) (x3 : Int) (h3 : rg x3) (σ : Sg) (hσ : wfS yC σ) (q : Int) (h : fX11_stretched x0 x1 x2 x3 σ = some q) : CJ l yC g yX11_stretched cX11_stretched 4 (some .int) 1 40 [vi x0, vi x1, vi x2, vi x3] σ (some (vi q)) σ (rg q) := by
  refine CJ_of hg (by decide) rfl (Nat.le_of_ble_eq_true rfl) (lo := [(0, vi x0), (1, vi x1), (2, vi x2), (3, vi x3)]) rfl (fun x C E => ?_)
  unfold fX11_stretched at h
  refine J_iload_n C 0 dX11_stretched_0 rfl 0 rfl ?_
  refine J_iload_n C 1 dX11_stretched_1 rfl 1 rfl ?_
  refine J_icmp_ge C h0 h1 (tgt := 9) dX11_stretched_2 (by decide) h (fun h c9 => ?_) (fun h c9 => ?_)
  · refine J_iload_n C 0 dX11_stretched_5 rfl 0 rfl ?_
    refine J_goto C (tgt := 20) dX11_stretched_6 (by decide) ?_
    have e9 := sE h
    subst e9
    exact J_iret C E h0 dX11_stretched_20
  · refine J_iload_n C 1 dX11_stretched_9 rfl 1 rfl ?_
    refine J_iload_n C 0 dX11_stretched_10 rfl 0 rfl ?_
    refine J_iload_n C 1 dX11_stretched_11 rfl 1 rfl ?_
    refine J_isub C dX11_stretched_12 h (fun v1 hv2 h => ?_)
    refine J_iload_n C 2 dX11_stretched_13 rfl 2 rfl ?_
    refine J_imul C dX11_stretched_14 h (fun v3 hv4 h => ?_)
    refine J_iload_n C 3 dX11_stretched_15 rfl 3 rfl ?_
    refine J_floorDiv C hv4 h3 ml_RX11_386 (Nat.le_of_ble_eq_true rfl) (Nat.le_of_ble_eq_true rfl) dX11_stretched_16 h (fun v5 hv6 h => ?_)
    refine J_iadd C dX11_stretched_19 h (fun v7 hv8 h => ?_)
    have e9 := sE h
    subst e9
    exact J_iret C E hv8 dX11_stretched_20
set_option maxRecDepth 100000 in
set_option maxHeartbeats 4000000 in
theorem m_X1_setBurst (l : Launch) (g : Gm) (hg : gInj yC g) (x0 : Nat) (h0 : isCues x0) (x1 : Int) (h1 : rg x1) (x2 : Int) (h2 : rg x2) (σ : Sg) (hσ : wfS yC σ) (q : Sg) (h : fX1_setBurst x0 x1 x2 σ = some q) : CJ l yC g yX1_setBurst cX1_setBurst 3 none 1 21 [.ref (gad g x0), vi x1, vi x2] σ none q (wfS yC q) := by
  refine CJ_of hg (by decide) rfl (Nat.le_of_ble_eq_true rfl) (lo := [(0, .ref (gad g x0)), (1, vi x1), (2, vi x2)]) rfl (fun x C E => ?_)
  unfold fX1_setBurst at h
  refine J_aload_n C 0 dX1_setBurst_0 rfl 0 rfl ?_
  refine J_iload_n C 1 dX1_setBurst_1 rfl 1 rfl ?_
  obtain ⟨q1, cq1, h⟩ := bdS h
  refine J_callV C mw_X1_isCue ml_RX1_28 (m_X1_isCue x.2.1 g (CxI C) x0 h0 x1 h1 σ hσ q1 cq1) h0.1 rfl (Nat.le_of_ble_eq_true rfl) (Nat.le_of_ble_eq_true rfl) rfl rfl (Nat.le_of_ble_eq_true rfl) dX1_setBurst_2 (fun hz2 => ?_)
  refine J_if_eq C (rg01 hz2) (tgt := 15) dX1_setBurst_5 (by decide) h (fun h c5 => ?_) (fun h c5 => ?_)
  · have e9 := sE h
    subst e9
    exact J_vret C E hσ dX1_setBurst_15
  · refine J_aload_n C 0 dX1_setBurst_8 rfl 0 rfl ?_
    refine J_getR C fl_RX1_9 h0.1 rfl dX1_setBurst_9 ?_
    refine J_iload_n C 1 dX1_setBurst_12 rfl 1 rfl ?_
    refine J_iload_n C 2 dX1_setBurst_13 rfl 2 rfl ?_
    refine J_iast C (h0).2.2.1 hσ h2 dX1_setBurst_14 h (fun σ3 hσ4 h => ?_)
    have e9 := sE h
    subst e9
    exact J_vret C E hσ4 dX1_setBurst_15
set_option maxRecDepth 100000 in
set_option maxHeartbeats 4000000 in
theorem wX11_stretch_L41 {x : Ct} {g : Gm} (C : Cx x yC g 8 cX11_stretch RX11 2 63) : ∀ (n : Nat) (x1 : Int) (h1 : rg x1) (x2 : Int) (h2 : rg x2) (x3 : Int) (h3 : rg x3) (x4 : Int) (h4 : rg x4) (x5 : Int) (h5 : rg x5) (σ : Sg) (hσ : wfS yC σ) (q : (Unit) ⊕ (Int)) (h : fX11_stretch_L41 n x1 x2 x3 x4 x5 σ = some q) (k0 : ∀ a : Unit, q = .inl a → J x yC g 8 94 [] [] σ) (k1 : ∀ a : Int, q = .inr a → rg a → J x yC g 8 123 [(0, .ref (gad g 0)), (1, vi x1), (2, vi x2), (3, vi x3), (4, vi a)] [] σ), J x yC g 8 41 [(0, .ref (gad g 0)), (1, vi x1), (2, vi x2), (3, vi x3), (4, vi x4), (5, vi x5)] [] σ := by
  intro n
  induction n with
  | zero =>
    intro x1 h1 x2 h2 x3 h3 x4 h4 x5 h5 σ hσ q h k0 k1
    exact absurd h (by intro z; cases z)
  | succ n ih =>
    intro x1 h1 x2 h2 x3 h3 x4 h4 x5 h5 σ hσ q h k0 k1
    rw [fX11_stretch_L41] at h
    have pc10 : ∀ (x5 : Int) (h5 : rg x5) (y0 : Int) (g0 : rg y0), fX11_stretch_L41P115 (fX11_stretch_L41 n) x1 x2 x3 x5 y0 σ = some q → J x yC g 8 115 [(0, .ref (gad g 0)), (1, vi x1), (2, vi x2), (3, vi x3), (5, vi x5)] [vi y0] σ := by
      intro x5 h5 y0 g0 h
      unfold fX11_stretch_L41P115 at h
      refine J_istore (lo2 := [(4, vi y0), (0, .ref (gad g 0)), (1, vi x1), (2, vi x2), (3, vi x3), (5, vi x5)]) C 4 dX11_stretch_115 (by decide) rfl ?_
      refine J_iinc C 5 5 dX11_stretch_117 rfl (by decide) h (fun v11 hv12 h => ?_)
      refine J_goto C (tgt := 41) dX11_stretch_120 (by decide) ?_
      exact J_sub [2, 3, 4, 5, 1, 0] rfl (ih x1 h1 x2 h2 x3 h3 y0 g0 v11 hv12 σ hσ q h k0 k1)
    have pc9 : ∀ (x5 : Int) (h5 : rg x5), fX11_stretch_L41P110 (fX11_stretch_L41 n) x1 x2 x3 x5 σ = some q → J x yC g 8 110 [(0, .ref (gad g 0)), (1, vi x1), (2, vi x2), (3, vi x3), (5, vi x5)] [] σ := by
      intro x5 h5 h
      unfold fX11_stretch_L41P110 at h
      refine J_iconst C dX11_stretch_110 ?_
      refine J_goto C (tgt := 115) dX11_stretch_111 (by decide) ?_
      exact J_sub [0, 1, 2, 3, 4] rfl (pc10 x5 h5 1 rl_1 h)
    refine J_iload C 5 dX11_stretch_41 5 rfl ?_
    refine J_aload_n C 0 dX11_stretch_43 rfl 0 rfl ?_
    refine J_getR C fl_RX11_19 oC_0 rfl dX11_stretch_44 ?_
    refine J_getI C fl_RX11_90 cues_19.1 rfl dX11_stretch_47 ?_
    refine J_icmp_ge C h5 (hσ 19 4 cues_19.2.1) (tgt := 123) dX11_stretch_50 (by decide) h (fun h c18 => ?_) (fun h c18 => ?_)
    · refine J_aload_n C 0 dX11_stretch_53 rfl 0 rfl ?_
      refine J_getR C fl_RX11_19 oC_0 rfl dX11_stretch_54 ?_
      refine J_iload C 5 dX11_stretch_57 5 rfl ?_
      obtain ⟨q1, cq1, h⟩ := bdS h
      refine J_callV C mw_X1_burstOf ml_RX11_207 (m_X1_burstOf x.2.1 g (CxI C) 19 cues_19 x5 h5 σ hσ q1 cq1) cues_19.1 rfl (Nat.le_of_ble_eq_true rfl) (Nat.le_of_ble_eq_true rfl) rfl rfl (Nat.le_of_ble_eq_true rfl) dX11_stretch_59 (fun hz2 => ?_)
      refine J_iload_n C 1 dX11_stretch_62 rfl 1 rfl ?_
      refine J_iload_n C 2 dX11_stretch_63 rfl 2 rfl ?_
      refine J_iload_n C 3 dX11_stretch_64 rfl 3 rfl ?_
      obtain ⟨q3, cq3, h⟩ := bdS h
      refine J_callS C mw_X11_stretched ml_RX11_223 (m_X11_stretched x.2.1 g (CxI C) q1 hz2 x1 h1 x2 h2 x3 h3 σ hσ q3 cq3) (Nat.le_of_ble_eq_true rfl) (Nat.le_of_ble_eq_true rfl) rfl rfl (Nat.le_of_ble_eq_true rfl) dX11_stretch_65 (fun hz4 => ?_)
      refine J_istore (lo2 := [(6, vi q3), (0, .ref (gad g 0)), (1, vi x1), (2, vi x2), (3, vi x3), (4, vi x4), (5, vi x5)]) C 6 dX11_stretch_68 (by decide) rfl ?_
      refine J_iload C 6 dX11_stretch_70 0 rfl ?_
      refine J_aload_n C 0 dX11_stretch_72 rfl 1 rfl ?_
      refine J_getR C fl_RX11_10 oC_0 rfl dX11_stretch_73 ?_
      refine J_getR C fl_RX11_115 oC_1 rfl dX11_stretch_76 ?_
      refine J_aload_n C 0 dX11_stretch_79 rfl 1 rfl ?_
      refine J_getR C fl_RX11_19 oC_0 rfl dX11_stretch_80 ?_
      refine J_iload C 5 dX11_stretch_83 6 rfl ?_
      obtain ⟨q5, cq5, h⟩ := bdS h
      refine J_callV C mw_X1_kindOf ml_RX11_210 (m_X1_kindOf x.2.1 g (CxI C) 19 cues_19 x5 h5 σ hσ q5 cq5) cues_19.1 rfl (Nat.le_of_ble_eq_true rfl) (Nat.le_of_ble_eq_true rfl) rfl rfl (Nat.le_of_ble_eq_true rfl) dX11_stretch_85 (fun hz6 => ?_)
      obtain ⟨q7, cq7, h⟩ := bdS h
      refine J_callV C mw_X2_liftOf ml_RX11_227 (m_X2_liftOf x.2.1 g (CxI C) q5 hz6 σ hσ q7 cq7) oC_6 rfl (Nat.le_of_ble_eq_true rfl) (Nat.le_of_ble_eq_true rfl) rfl rfl (Nat.le_of_ble_eq_true rfl) dX11_stretch_88 (fun hz8 => ?_)
      refine J_icmp_ge C hz4 hz8 (tgt := 97) dX11_stretch_91 (by decide) h (fun h c17 => ?_) (fun h c17 => ?_)
      · have e9 := sE h
        exact J_sub [] rfl (k0 () e9.symm)
      · refine J_iload C 4 dX11_stretch_97 5 rfl ?_
        refine J_if_ne C h4 (tgt := 110) dX11_stretch_99 (by decide) h (fun h c16 => ?_) (fun h c16 => ?_)
        · refine J_iload C 6 dX11_stretch_102 0 rfl ?_
          refine J_sipush C dX11_stretch_104 (bp16 (by decide) (by decide)) ?_
          refine J_icmp_le C hz4 rl_20000 (tgt := 114) dX11_stretch_107 (by decide) h (fun h c15 => ?_) (fun h c15 => ?_)
          · refine J_iconst C dX11_stretch_114 ?_
            exact J_sub [1, 2, 3, 4, 6] rfl (pc10 x5 h5 0 rl_0 h)
          · exact J_sub [1, 2, 3, 4, 6] rfl (pc9 x5 h5 h)
        · exact J_sub [1, 2, 3, 4, 6] rfl (pc9 x5 h5 h)
    · have e9 := sE h
      exact J_sub [0, 1, 2, 3, 4] rfl (k1 x4 e9.symm h4)
set_option maxRecDepth 100000 in
set_option maxHeartbeats 4000000 in
theorem wX11_stretch_L137 {x : Ct} {g : Gm} (C : Cx x yC g 8 cX11_stretch RX11 2 63) : ∀ (n : Nat) (x1 : Int) (h1 : rg x1) (x2 : Int) (h2 : rg x2) (x3 : Int) (h3 : rg x3) (x5 : Int) (h5 : rg x5) (x6 : Int) (h6 : rg x6) (σ : Sg) (hσ : wfS yC σ) (q : Int × Sg) (h : fX11_stretch_L137 n x1 x2 x3 x5 x6 σ = some q) (k : rg q.1 → wfS yC q.2 → J x yC g 8 200 [(5, vi q.1)] [] q.2), J x yC g 8 137 [(0, .ref (gad g 0)), (1, vi x1), (2, vi x2), (3, vi x3), (5, vi x5), (6, vi x6)] [] σ := by
  intro n
  induction n with
  | zero =>
    intro x1 h1 x2 h2 x3 h3 x5 h5 x6 h6 σ hσ q h k
    exact absurd h (by intro z; cases z)
  | succ n ih =>
    intro x1 h1 x2 h2 x3 h3 x5 h5 x6 h6 σ hσ q h k
    rw [fX11_stretch_L137] at h
    have pc29 : ∀ (x5 : Int) (h5 : rg x5) (x6 : Int) (h6 : rg x6) (σ : Sg) (hσ : wfS yC σ), fX11_stretch_L137P194 (fX11_stretch_L137 n) x1 x2 x3 x5 x6 σ = some q → J x yC g 8 194 [(0, .ref (gad g 0)), (1, vi x1), (2, vi x2), (3, vi x3), (5, vi x5), (6, vi x6)] [] σ := by
      intro x5 h5 x6 h6 σ hσ h
      unfold fX11_stretch_L137P194 at h
      refine J_iinc C 6 5 dX11_stretch_194 rfl (by decide) h (fun v30 hv31 h => ?_)
      refine J_goto C (tgt := 137) dX11_stretch_197 (by decide) ?_
      exact J_sub [1, 2, 3, 4, 5, 0] rfl (ih x1 h1 x2 h2 x3 h3 x5 h5 v30 hv31 σ hσ q h k)
    refine J_iload C 6 dX11_stretch_137 5 rfl ?_
    refine J_aload_n C 0 dX11_stretch_139 rfl 0 rfl ?_
    refine J_getR C fl_RX11_19 oC_0 rfl dX11_stretch_140 ?_
    refine J_getI C fl_RX11_90 cues_19.1 rfl dX11_stretch_143 ?_
    refine J_icmp_ge C h6 (hσ 19 4 cues_19.2.1) (tgt := 200) dX11_stretch_146 (by decide) h (fun h c39 => ?_) (fun h c39 => ?_)
    · refine J_aload_n C 0 dX11_stretch_149 rfl 0 rfl ?_
      refine J_getR C fl_RX11_19 oC_0 rfl dX11_stretch_150 ?_
      refine J_iload C 6 dX11_stretch_153 5 rfl ?_
      obtain ⟨q23, cq23, h⟩ := bdS h
      refine J_callV C mw_X1_burstOf ml_RX11_207 (m_X1_burstOf x.2.1 g (CxI C) 19 cues_19 x6 h6 σ hσ q23 cq23) cues_19.1 rfl (Nat.le_of_ble_eq_true rfl) (Nat.le_of_ble_eq_true rfl) rfl rfl (Nat.le_of_ble_eq_true rfl) dX11_stretch_155 (fun hz24 => ?_)
      refine J_iload_n C 1 dX11_stretch_158 rfl 1 rfl ?_
      refine J_iload_n C 2 dX11_stretch_159 rfl 2 rfl ?_
      refine J_iload_n C 3 dX11_stretch_160 rfl 3 rfl ?_
      obtain ⟨q25, cq25, h⟩ := bdS h
      refine J_callS C mw_X11_stretched ml_RX11_223 (m_X11_stretched x.2.1 g (CxI C) q23 hz24 x1 h1 x2 h2 x3 h3 σ hσ q25 cq25) (Nat.le_of_ble_eq_true rfl) (Nat.le_of_ble_eq_true rfl) rfl rfl (Nat.le_of_ble_eq_true rfl) dX11_stretch_161 (fun hz26 => ?_)
      refine J_istore (lo2 := [(7, vi q25), (0, .ref (gad g 0)), (1, vi x1), (2, vi x2), (3, vi x3), (5, vi x5), (6, vi x6)]) C 7 dX11_stretch_164 (by decide) rfl ?_
      refine J_iload C 7 dX11_stretch_166 0 rfl ?_
      refine J_aload_n C 0 dX11_stretch_168 rfl 1 rfl ?_
      refine J_getR C fl_RX11_19 oC_0 rfl dX11_stretch_169 ?_
      refine J_iload C 6 dX11_stretch_172 6 rfl ?_
      obtain ⟨q27, cq27, h⟩ := bdS h
      refine J_callV C mw_X1_burstOf ml_RX11_207 (m_X1_burstOf x.2.1 g (CxI C) 19 cues_19 x6 h6 σ hσ q27 cq27) cues_19.1 rfl (Nat.le_of_ble_eq_true rfl) (Nat.le_of_ble_eq_true rfl) rfl rfl (Nat.le_of_ble_eq_true rfl) dX11_stretch_174 (fun hz28 => ?_)
      refine J_icmp_eq C hz26 hz28 (tgt := 194) dX11_stretch_177 (by decide) h (fun h c38 => ?_) (fun h c38 => ?_)
      · exact J_sub [1, 2, 3, 4, 5, 6] rfl (pc29 x5 h5 x6 h6 σ hσ h)
      · refine J_aload_n C 0 dX11_stretch_180 rfl 1 rfl ?_
        refine J_getR C fl_RX11_19 oC_0 rfl dX11_stretch_181 ?_
        refine J_iload C 6 dX11_stretch_184 6 rfl ?_
        refine J_iload C 7 dX11_stretch_186 0 rfl ?_
        obtain ⟨q34, cq34, h⟩ := bdS h
        refine J_callV C mw_X1_setBurst ml_RX11_230 (m_X1_setBurst x.2.1 g (CxI C) 19 cues_19 x6 h6 q25 hz26 σ hσ q34 cq34) cues_19.1 rfl (Nat.le_of_ble_eq_true rfl) (Nat.le_of_ble_eq_true rfl) rfl rfl (Nat.le_of_ble_eq_true rfl) dX11_stretch_188 (fun hz35 => ?_)
        refine J_iinc C 5 5 dX11_stretch_191 rfl (by decide) h (fun v36 hv37 h => ?_)
        exact J_sub [2, 3, 4, 5, 0, 6] rfl (pc29 v36 hv37 x6 h6 q34 hz35 h)
    · have e9 := sE h
      subst e9
      exact J_sub [4] rfl (k h5 hσ)
set_option maxRecDepth 100000 in
set_option maxHeartbeats 4000000 in
theorem m_X11_stretch (l : Launch) (g : Gm) (hg : gInj yC g) (x1 : Int) (h1 : rg x1) (x2 : Int) (h2 : rg x2) (x3 : Int) (h3 : rg x3) (σ : Sg) (hσ : wfS yC σ) (q : Int × Sg) (h : fX11_stretch x1 x2 x3 σ = some q) : CJ l yC g yX11_stretch cX11_stretch 8 (some .int) 2 63 [.ref (gad g 0), vi x1, vi x2, vi x3] σ (some (vi q.1)) q.2 ((rg q.1) ∧ wfS yC q.2) := by
  refine CJ_of hg (by decide) rfl (Nat.le_of_ble_eq_true rfl) (lo := [(0, .ref (gad g 0)), (1, vi x1), (2, vi x2), (3, vi x3)]) rfl (fun x C E => ?_)
  unfold fX11_stretch at h
  refine J_iload_n C 1 dX11_stretch_0 rfl 1 rfl ?_
  refine J_if_lt C h1 (tgt := 33) dX11_stretch_1 (by decide) h (fun h c49 => ?_) (fun h c49 => ?_)
  · refine J_iconst C dX11_stretch_33 ?_
    have e9 := sE h
    subst e9
    exact J_iret C E ⟨rl_m1, hσ⟩ dX11_stretch_34
  · refine J_iload_n C 1 dX11_stretch_4 rfl 1 rfl ?_
    refine J_sipush C dX11_stretch_5 (bp16 (by decide) (by decide)) ?_
    refine J_icmp_gt C h1 rl_20000 (tgt := 33) dX11_stretch_8 (by decide) h (fun h c48 => ?_) (fun h c48 => ?_)
    · refine J_iload_n C 2 dX11_stretch_11 rfl 2 rfl ?_
      refine J_iconst C dX11_stretch_12 ?_
      refine J_icmp_lt C h2 rl_1 (tgt := 33) dX11_stretch_13 (by decide) h (fun h c47 => ?_) (fun h c47 => ?_)
      · refine J_iconst C dX11_stretch_33 ?_
        have e9 := sE h
        subst e9
        exact J_iret C E ⟨rl_m1, hσ⟩ dX11_stretch_34
      · refine J_iload_n C 2 dX11_stretch_16 rfl 2 rfl ?_
        refine J_bipush C dX11_stretch_17 (bp8 (by decide) (by decide)) ?_
        refine J_icmp_gt C h2 rl_100 (tgt := 33) dX11_stretch_19 (by decide) h (fun h c46 => ?_) (fun h c46 => ?_)
        · refine J_iload_n C 3 dX11_stretch_22 rfl 3 rfl ?_
          refine J_iconst C dX11_stretch_23 ?_
          refine J_icmp_lt C h3 rl_1 (tgt := 33) dX11_stretch_24 (by decide) h (fun h c45 => ?_) (fun h c45 => ?_)
          · refine J_iconst C dX11_stretch_33 ?_
            have e9 := sE h
            subst e9
            exact J_iret C E ⟨rl_m1, hσ⟩ dX11_stretch_34
          · refine J_iload_n C 3 dX11_stretch_27 rfl 3 rfl ?_
            refine J_bipush C dX11_stretch_28 (bp8 (by decide) (by decide)) ?_
            refine J_icmp_le C h3 rl_100 (tgt := 35) dX11_stretch_30 (by decide) h (fun h c44 => ?_) (fun h c44 => ?_)
            · refine J_iconst C dX11_stretch_35 ?_
              refine J_istore (lo2 := [(4, vi 0), (0, .ref (gad g 0)), (1, vi x1), (2, vi x2), (3, vi x3)]) C 4 dX11_stretch_36 (by decide) rfl ?_
              refine J_iconst C dX11_stretch_38 ?_
              refine J_istore (lo2 := [(5, vi 0), (4, vi 0), (0, .ref (gad g 0)), (1, vi x1), (2, vi x2), (3, vi x3)]) C 5 dX11_stretch_39 (by decide) rfl ?_
              obtain ⟨q19, cq19, h⟩ := bdS h
              refine J_sub [2, 3, 4, 5, 1, 0] rfl (wX11_stretch_L41 C fu x1 h1 x2 h2 x3 h3 0 rl_0 0 rl_0 σ hσ q19 cq19 (fun a20 ea20 => ?_) (fun a21 ea21 hr22 => ?_))
              · subst ea20
                have h := elL h
                refine J_bipush C dX11_stretch_94 (bp8 (by decide) (by decide)) ?_
                have e9 := sE h
                subst e9
                exact J_iret C E ⟨rl_m5, hσ⟩ dX11_stretch_96
              · subst ea21
                have h := elR h
                refine J_iload C 4 dX11_stretch_123 4 rfl ?_
                refine J_if_eq C hr22 (tgt := 131) dX11_stretch_125 (by decide) h (fun h c43 => ?_) (fun h c43 => ?_)
                · refine J_iconst C dX11_stretch_131 ?_
                  refine J_istore (lo2 := [(5, vi 0), (0, .ref (gad g 0)), (1, vi x1), (2, vi x2), (3, vi x3), (4, vi a21)]) C 5 dX11_stretch_132 (by decide) rfl ?_
                  refine J_iconst C dX11_stretch_134 ?_
                  refine J_istore (lo2 := [(6, vi 0), (5, vi 0), (0, .ref (gad g 0)), (1, vi x1), (2, vi x2), (3, vi x3), (4, vi a21)]) C 6 dX11_stretch_135 (by decide) rfl ?_
                  obtain ⟨q40, cq40, h⟩ := bdS h
                  refine J_sub [2, 3, 4, 5, 1, 0] rfl (wX11_stretch_L137 C fu x1 h1 x2 h2 x3 h3 0 rl_0 0 rl_0 σ hσ q40 cq40 (fun hr41 hσ42 => ?_))
                  refine J_iload C 5 dX11_stretch_200 0 rfl ?_
                  have e9 := sE h
                  subst e9
                  exact J_iret C E ⟨hr41, hσ42⟩ dX11_stretch_202
                · refine J_bipush C dX11_stretch_128 (bp8 (by decide) (by decide)) ?_
                  have e9 := sE h
                  subst e9
                  exact J_iret C E ⟨rl_m2, hσ⟩ dX11_stretch_130
            · refine J_iconst C dX11_stretch_33 ?_
              have e9 := sE h
              subst e9
              exact J_iret C E ⟨rl_m1, hσ⟩ dX11_stretch_34
        · refine J_iconst C dX11_stretch_33 ?_
          have e9 := sE h
          subst e9
          exact J_iret C E ⟨rl_m1, hσ⟩ dX11_stretch_34
    · refine J_iconst C dX11_stretch_33 ?_
      have e9 := sE h
      subst e9
      exact J_iret C E ⟨rl_m1, hσ⟩ dX11_stretch_34
set_option maxRecDepth 100000 in
set_option maxHeartbeats 4000000 in
theorem wX1_openOnes_L4 {x : Ct} {g : Gm} (C : Cx x yC g 3 cX1_openOnes RX1 2 42) : ∀ (n : Nat) (x0 : Nat) (h0 : isCues x0) (x1 : Int) (h1 : rg x1) (x2 : Int) (h2 : rg x2) (σ : Sg) (hσ : wfS yC σ) (q : Int) (h : fX1_openOnes_L4 n x0 x1 x2 σ = some q) (k : rg q → J x yC g 3 30 [(1, vi q)] [] σ), J x yC g 3 4 [(0, .ref (gad g x0)), (1, vi x1), (2, vi x2)] [] σ := by
  intro n
  induction n with
  | zero =>
    intro x0 h0 x1 h1 x2 h2 σ hσ q h k
    exact absurd h (by intro z; cases z)
  | succ n ih =>
    intro x0 h0 x1 h1 x2 h2 σ hσ q h k
    rw [fX1_openOnes_L4] at h
    have pc3 : ∀ (x1 : Int) (h1 : rg x1) (x2 : Int) (h2 : rg x2), fX1_openOnes_L4P24 (fX1_openOnes_L4 n) x0 x1 x2 σ = some q → J x yC g 3 24 [(0, .ref (gad g x0)), (1, vi x1), (2, vi x2)] [] σ := by
      intro x1 h1 x2 h2 h
      unfold fX1_openOnes_L4P24 at h
      refine J_iinc C 2 2 dX1_openOnes_24 rfl (by decide) h (fun v4 hv5 h => ?_)
      refine J_goto C (tgt := 4) dX1_openOnes_27 (by decide) ?_
      exact J_sub [1, 2, 0] rfl (ih x0 h0 x1 h1 v4 hv5 σ hσ q h k)
    refine J_iload_n C 2 dX1_openOnes_4 rfl 2 rfl ?_
    refine J_aload_n C 0 dX1_openOnes_5 rfl 0 rfl ?_
    refine J_getI C fl_RX1_24 h0.1 rfl dX1_openOnes_6 ?_
    refine J_icmp_ge C h2 (hσ x0 4 h0.2.1) (tgt := 30) dX1_openOnes_9 (by decide) h (fun h c11 => ?_) (fun h c11 => ?_)
    · refine J_aload_n C 0 dX1_openOnes_12 rfl 0 rfl ?_
      refine J_iload_n C 2 dX1_openOnes_13 rfl 2 rfl ?_
      obtain ⟨q1, cq1, h⟩ := bdS h
      refine J_callV C mw_X1_bargeOf ml_RX1_38 (m_X1_bargeOf x.2.1 g (CxI C) x0 h0 x2 h2 σ hσ q1 cq1) h0.1 rfl (Nat.le_of_ble_eq_true rfl) (Nat.le_of_ble_eq_true rfl) rfl rfl (Nat.le_of_ble_eq_true rfl) dX1_openOnes_14 (fun hz2 => ?_)
      refine J_iconst C dX1_openOnes_17 ?_
      refine J_icmp_ne C hz2 rl_m1 (tgt := 24) dX1_openOnes_18 (by decide) h (fun h c10 => ?_) (fun h c10 => ?_)
      · refine J_iinc C 1 1 dX1_openOnes_21 rfl (by decide) h (fun v8 hv9 h => ?_)
        exact J_sub [1, 0, 2] rfl (pc3 v8 hv9 x2 h2 h)
      · exact J_sub [0, 1, 2] rfl (pc3 x1 h1 x2 h2 h)
    · have e9 := sE h
      subst e9
      exact J_sub [1] rfl (k h1)
set_option maxRecDepth 100000 in
set_option maxHeartbeats 4000000 in
theorem m_X1_openOnes (l : Launch) (g : Gm) (hg : gInj yC g) (x0 : Nat) (h0 : isCues x0) (σ : Sg) (hσ : wfS yC σ) (q : Int) (h : fX1_openOnes x0 σ = some q) : CJ l yC g yX1_openOnes cX1_openOnes 3 (some .int) 2 42 [.ref (gad g x0)] σ (some (vi q)) σ (rg q) := by
  refine CJ_of hg (by decide) rfl (Nat.le_of_ble_eq_true rfl) (lo := [(0, .ref (gad g x0))]) rfl (fun x C E => ?_)
  unfold fX1_openOnes at h
  refine J_iconst C dX1_openOnes_0 ?_
  refine J_istore_n (lo2 := [(1, vi 0), (0, .ref (gad g x0))]) C 1 dX1_openOnes_1 rfl (by decide) rfl ?_
  refine J_iconst C dX1_openOnes_2 ?_
  refine J_istore_n (lo2 := [(2, vi 0), (1, vi 0), (0, .ref (gad g x0))]) C 2 dX1_openOnes_3 rfl (by decide) rfl ?_
  obtain ⟨q12, cq12, h⟩ := bdS h
  refine J_sub [2, 1, 0] rfl (wX1_openOnes_L4 C fu x0 h0 0 rl_0 0 rl_0 σ hσ q12 cq12 (fun hr13 => ?_))
  refine J_iload_n C 1 dX1_openOnes_30 rfl 0 rfl ?_
  have e9 := sE h
  subst e9
  exact J_iret C E hr13 dX1_openOnes_31
set_option maxRecDepth 100000 in
set_option maxHeartbeats 4000000 in
theorem m_X3_areApart (l : Launch) (g : Gm) (hg : gInj yC g) (x1 : Int) (h1 : rg x1) (x2 : Int) (h2 : rg x2) (σ : Sg) (hσ : wfS yC σ) (q : Int) (h : fX3_areApart x1 x2 σ = some q) : CJ l yC g yX3_areApart cX3_areApart 3 (some .boolean) 3 64 [.ref (gad g 32), vi x1, vi x2] σ (some (vi q)) σ (q = 0 ∨ q = 1) := by
  refine CJ_of hg (by decide) rfl (Nat.le_of_ble_eq_true rfl) (lo := [(0, .ref (gad g 32)), (1, vi x1), (2, vi x2)]) rfl (fun x C E => ?_)
  unfold fX3_areApart at h
  refine J_aload_n C 0 dX3_areApart_0 rfl 0 rfl ?_
  refine J_getR C fl_RX3_34 oC_32 rfl dX3_areApart_1 ?_
  refine J_aload_n C 0 dX3_areApart_4 rfl 0 rfl ?_
  refine J_getR C fl_RX3_38 oC_32 rfl dX3_areApart_5 ?_
  refine J_iload_n C 1 dX3_areApart_8 rfl 1 rfl ?_
  obtain ⟨q1, cq1, h⟩ := bdS h
  refine J_callV C mw_X8_fireOf ml_RX3_90 (m_X8_fireOf x.2.1 g (CxI C) 19 cues_19 x1 h1 σ hσ q1 cq1) oC_1 rfl (Nat.le_of_ble_eq_true rfl) (Nat.le_of_ble_eq_true rfl) rfl rfl (Nat.le_of_ble_eq_true rfl) dX3_areApart_9 (fun hz2 => ?_)
  refine J_aload_n C 0 dX3_areApart_12 rfl 0 rfl ?_
  refine J_getR C fl_RX3_34 oC_32 rfl dX3_areApart_13 ?_
  refine J_aload_n C 0 dX3_areApart_16 rfl 0 rfl ?_
  refine J_getR C fl_RX3_38 oC_32 rfl dX3_areApart_17 ?_
  refine J_iload_n C 2 dX3_areApart_20 rfl 2 rfl ?_
  obtain ⟨q3, cq3, h⟩ := bdS h
  refine J_callV C mw_X8_fireOf ml_RX3_90 (m_X8_fireOf x.2.1 g (CxI C) 19 cues_19 x2 h2 σ hσ q3 cq3) oC_1 rfl (Nat.le_of_ble_eq_true rfl) (Nat.le_of_ble_eq_true rfl) rfl rfl (Nat.le_of_ble_eq_true rfl) dX3_areApart_21 (fun hz4 => ?_)
  refine J_isub C dX3_areApart_24 h (fun v5 hv6 h => ?_)
  refine J_abs C hv6 mth_abs ml_RX3_94 (Nat.le_of_ble_eq_true rfl) (Nat.le_of_ble_eq_true rfl) dX3_areApart_25 h (fun v7 hv8 h => ?_)
  refine J_aload_n C 0 dX3_areApart_28 rfl 0 rfl ?_
  refine J_getI C fl_RX3_42 oC_32 rfl dX3_areApart_29 ?_
  refine J_icmp_lt C hv8 (hσ 32 9 lC_32) (tgt := 39) dX3_areApart_32 (by decide) h (fun h c9 => ?_) (fun h c9 => ?_)
  · refine J_iconst C dX3_areApart_39 ?_
    have e9 := sE h
    subst e9
    exact J_zret C (Or.inl rfl) E (Or.inl rfl) dX3_areApart_40
  · refine J_iconst C dX3_areApart_35 ?_
    refine J_goto C (tgt := 40) dX3_areApart_36 (by decide) ?_
    have e9 := sE h
    subst e9
    exact J_zret C (Or.inr rfl) E (Or.inr rfl) dX3_areApart_40
set_option maxRecDepth 100000 in
set_option maxHeartbeats 4000000 in
theorem wX3_fitsAlone_L28 {x : Ct} {g : Gm} (C : Cx x yC g 6 cX3_fitsAlone RX3 4 101) : ∀ (n : Nat) (x1 : Int) (h1 : rg x1) (x2 : Int) (h2 : rg x2) (x3 : Int) (h3 : rg x3) (x4 : Int) (h4 : rg x4) (x5 : Int) (h5 : rg x5) (σ : Sg) (hσ : wfS yC σ) (q : (Unit) ⊕ (Unit)) (h : fX3_fitsAlone_L28 n x1 x2 x3 x4 x5 σ = some q) (k0 : ∀ a : Unit, q = .inl a → J x yC g 6 57 [] [] σ) (k1 : ∀ a : Unit, q = .inr a → J x yC g 6 65 [(0, .ref (gad g 32)), (1, vi x1), (2, vi x2)] [] σ), J x yC g 6 28 [(0, .ref (gad g 32)), (1, vi x1), (2, vi x2), (3, vi x3), (4, vi x4), (5, vi x5)] [] σ := by
  intro n
  induction n with
  | zero =>
    intro x1 h1 x2 h2 x3 h3 x4 h4 x5 h5 σ hσ q h k0 k1
    exact absurd h (by intro z; cases z)
  | succ n ih =>
    intro x1 h1 x2 h2 x3 h3 x4 h4 x5 h5 σ hσ q h k0 k1
    rw [fX3_fitsAlone_L28] at h
    refine J_iload C 5 dX3_fitsAlone_28 5 rfl ?_
    refine J_iload_n C 3 dX3_fitsAlone_30 rfl 3 rfl ?_
    refine J_icmp_ge C h5 h3 (tgt := 65) dX3_fitsAlone_31 (by decide) h (fun h c12 => ?_) (fun h c12 => ?_)
    · refine J_aload_n C 0 dX3_fitsAlone_34 rfl 0 rfl ?_
      refine J_getR C fl_RX3_34 oC_32 rfl dX3_fitsAlone_35 ?_
      refine J_iload C 4 dX3_fitsAlone_38 4 rfl ?_
      refine J_iload_n C 2 dX3_fitsAlone_40 rfl 2 rfl ?_
      refine J_aload_n C 0 dX3_fitsAlone_41 rfl 0 rfl ?_
      refine J_getR C fl_RX3_38 oC_32 rfl dX3_fitsAlone_42 ?_
      refine J_iload_n C 1 dX3_fitsAlone_45 rfl 1 rfl ?_
      obtain ⟨q5, cq5, h⟩ := bdS h
      refine J_callV C mw_X1_angleOf ml_RX3_83 (m_X1_angleOf x.2.1 g (CxI C) 19 cues_19 x1 h1 σ hσ q5 cq5) cues_19.1 rfl (Nat.le_of_ble_eq_true rfl) (Nat.le_of_ble_eq_true rfl) rfl rfl (Nat.le_of_ble_eq_true rfl) dX3_fitsAlone_46 (fun hz6 => ?_)
      refine J_iload C 5 dX3_fitsAlone_49 5 rfl ?_
      obtain ⟨q7, cq7, h⟩ := bdS h
      refine J_callV C mw_X8_isSafe ml_RX3_86 (m_X8_isSafe x.2.1 g (CxI C) x4 h4 x2 h2 q5 hz6 x5 h5 σ hσ q7 cq7) oC_1 rfl (Nat.le_of_ble_eq_true rfl) (Nat.le_of_ble_eq_true rfl) rfl rfl (Nat.le_of_ble_eq_true rfl) dX3_fitsAlone_51 (fun hz8 => ?_)
      refine J_if_ne C (rg01 hz8) (tgt := 59) dX3_fitsAlone_54 (by decide) h (fun h c11 => ?_) (fun h c11 => ?_)
      · have e9 := sE h
        exact J_sub [] rfl (k0 () e9.symm)
      · refine J_iinc C 5 5 dX3_fitsAlone_59 rfl (by decide) h (fun v9 hv10 h => ?_)
        refine J_goto C (tgt := 28) dX3_fitsAlone_62 (by decide) ?_
        exact J_sub [1, 2, 3, 4, 5, 0] rfl (ih x1 h1 x2 h2 x3 h3 x4 h4 v9 hv10 σ hσ q h k0 k1)
    · have e9 := sE h
      exact J_sub [0, 1, 2] rfl (k1 () e9.symm)
set_option maxRecDepth 100000 in
set_option maxHeartbeats 4000000 in
theorem wX3_fitsAlone_L68 {x : Ct} {g : Gm} (C : Cx x yC g 6 cX3_fitsAlone RX3 4 101) : ∀ (n : Nat) (x1 : Int) (h1 : rg x1) (x2 : Int) (h2 : rg x2) (x5 : Int) (h5 : rg x5) (σ : Sg) (hσ : wfS yC σ) (q : (Unit) ⊕ (Unit)) (h : fX3_fitsAlone_L68 n x1 x2 x5 σ = some q) (k0 : ∀ a : Unit, q = .inl a → J x yC g 6 103 [] [] σ) (k1 : ∀ a : Unit, q = .inr a → J x yC g 6 111 [] [] σ), J x yC g 6 68 [(0, .ref (gad g 32)), (1, vi x1), (2, vi x2), (5, vi x5)] [] σ := by
  intro n
  induction n with
  | zero =>
    intro x1 h1 x2 h2 x5 h5 σ hσ q h k0 k1
    exact absurd h (by intro z; cases z)
  | succ n ih =>
    intro x1 h1 x2 h2 x5 h5 σ hσ q h k0 k1
    rw [fX3_fitsAlone_L68] at h
    have pc18 : ∀ (x5 : Int) (h5 : rg x5), fX3_fitsAlone_L68P105 (fX3_fitsAlone_L68 n) x1 x2 x5 σ = some q → J x yC g 6 105 [(0, .ref (gad g 32)), (1, vi x1), (2, vi x2), (5, vi x5)] [] σ := by
      intro x5 h5 h
      unfold fX3_fitsAlone_L68P105 at h
      refine J_iinc C 5 3 dX3_fitsAlone_105 rfl (by decide) h (fun v19 hv20 h => ?_)
      refine J_goto C (tgt := 68) dX3_fitsAlone_108 (by decide) ?_
      exact J_sub [1, 2, 3, 0] rfl (ih x1 h1 x2 h2 v19 hv20 σ hσ q h k0 k1)
    refine J_iload C 5 dX3_fitsAlone_68 3 rfl ?_
    refine J_aload_n C 0 dX3_fitsAlone_70 rfl 0 rfl ?_
    refine J_getR C fl_RX3_38 oC_32 rfl dX3_fitsAlone_71 ?_
    refine J_getI C fl_RX3_55 cues_19.1 rfl dX3_fitsAlone_74 ?_
    refine J_icmp_ge C h5 (hσ 19 4 cues_19.2.1) (tgt := 111) dX3_fitsAlone_77 (by decide) h (fun h c27 => ?_) (fun h c27 => ?_)
    · refine J_aload_n C 0 dX3_fitsAlone_80 rfl 0 rfl ?_
      refine J_getR C fl_RX3_38 oC_32 rfl dX3_fitsAlone_81 ?_
      refine J_iload C 5 dX3_fitsAlone_84 3 rfl ?_
      obtain ⟨q16, cq16, h⟩ := bdS h
      refine J_callV C mw_X1_bargeOf ml_RX3_60 (m_X1_bargeOf x.2.1 g (CxI C) 19 cues_19 x5 h5 σ hσ q16 cq16) cues_19.1 rfl (Nat.le_of_ble_eq_true rfl) (Nat.le_of_ble_eq_true rfl) rfl rfl (Nat.le_of_ble_eq_true rfl) dX3_fitsAlone_86 (fun hz17 => ?_)
      refine J_iload_n C 2 dX3_fitsAlone_89 rfl 2 rfl ?_
      refine J_icmp_ne C hz17 h2 (tgt := 105) dX3_fitsAlone_90 (by decide) h (fun h c26 => ?_) (fun h c26 => ?_)
      · refine J_aload_n C 0 dX3_fitsAlone_93 rfl 0 rfl ?_
        refine J_iload_n C 1 dX3_fitsAlone_94 rfl 1 rfl ?_
        refine J_iload C 5 dX3_fitsAlone_95 3 rfl ?_
        obtain ⟨q23, cq23, h⟩ := bdS h
        refine J_callV C mw_X3_areApart ml_RX3_71 (m_X3_areApart x.2.1 g (CxI C) x1 h1 x5 h5 σ hσ q23 cq23) oC_32 rfl (Nat.le_of_ble_eq_true rfl) (Nat.le_of_ble_eq_true rfl) rfl rfl (Nat.le_of_ble_eq_true rfl) dX3_fitsAlone_97 (fun hz24 => ?_)
        refine J_if_ne C (rg01 hz24) (tgt := 105) dX3_fitsAlone_100 (by decide) h (fun h c25 => ?_) (fun h c25 => ?_)
        · have e9 := sE h
          exact J_sub [] rfl (k0 () e9.symm)
        · exact J_sub [0, 1, 2, 3] rfl (pc18 x5 h5 h)
      · exact J_sub [0, 1, 2, 3] rfl (pc18 x5 h5 h)
    · have e9 := sE h
      exact J_sub [] rfl (k1 () e9.symm)
set_option maxRecDepth 100000 in
set_option maxHeartbeats 4000000 in
theorem m_X3_fitsAlone (l : Launch) (g : Gm) (hg : gInj yC g) (x1 : Int) (h1 : rg x1) (x2 : Int) (h2 : rg x2) (x3 : Int) (h3 : rg x3) (σ : Sg) (hσ : wfS yC σ) (q : Int) (h : fX3_fitsAlone x1 x2 x3 σ = some q) : CJ l yC g yX3_fitsAlone cX3_fitsAlone 6 (some .boolean) 4 101 [.ref (gad g 32), vi x1, vi x2, vi x3] σ (some (vi q)) σ (q = 0 ∨ q = 1) := by
  refine CJ_of hg (by decide) rfl (Nat.le_of_ble_eq_true rfl) (lo := [(0, .ref (gad g 32)), (1, vi x1), (2, vi x2), (3, vi x3)]) rfl (fun x C E => ?_)
  unfold fX3_fitsAlone at h
  refine J_aload_n C 0 dX3_fitsAlone_0 rfl 0 rfl ?_
  refine J_getR C fl_RX3_38 oC_32 rfl dX3_fitsAlone_1 ?_
  refine J_iload_n C 1 dX3_fitsAlone_4 rfl 1 rfl ?_
  obtain ⟨q1, cq1, h⟩ := bdS h
  refine J_callV C mw_X1_kindOf ml_RX3_75 (m_X1_kindOf x.2.1 g (CxI C) 19 cues_19 x1 h1 σ hσ q1 cq1) cues_19.1 rfl (Nat.le_of_ble_eq_true rfl) (Nat.le_of_ble_eq_true rfl) rfl rfl (Nat.le_of_ble_eq_true rfl) dX3_fitsAlone_5 (fun hz2 => ?_)
  refine J_istore (lo2 := [(4, vi q1), (0, .ref (gad g 32)), (1, vi x1), (2, vi x2), (3, vi x3)]) C 4 dX3_fitsAlone_8 (by decide) rfl ?_
  refine J_aload_n C 0 dX3_fitsAlone_10 rfl 1 rfl ?_
  refine J_getR C fl_RX3_34 oC_32 rfl dX3_fitsAlone_11 ?_
  refine J_iload_n C 2 dX3_fitsAlone_14 rfl 3 rfl ?_
  refine J_iload C 4 dX3_fitsAlone_15 0 rfl ?_
  obtain ⟨q3, cq3, h⟩ := bdS h
  refine J_callV C mw_X8_holds ml_RX3_78 (m_X8_holds x.2.1 g (CxI C) x2 h2 q1 hz2 σ hσ q3 cq3) oC_1 rfl (Nat.le_of_ble_eq_true rfl) (Nat.le_of_ble_eq_true rfl) rfl rfl (Nat.le_of_ble_eq_true rfl) dX3_fitsAlone_17 (fun hz4 => ?_)
  refine J_if_ne C (rg01 hz4) (tgt := 25) dX3_fitsAlone_20 (by decide) h (fun h c31 => ?_) (fun h c31 => ?_)
  · refine J_iconst C dX3_fitsAlone_23 ?_
    have e9 := sE h
    subst e9
    exact J_zret C (Or.inl rfl) E (Or.inl rfl) dX3_fitsAlone_24
  · refine J_iconst C dX3_fitsAlone_25 ?_
    refine J_istore (lo2 := [(5, vi 0), (4, vi q1), (0, .ref (gad g 32)), (1, vi x1), (2, vi x2), (3, vi x3)]) C 5 dX3_fitsAlone_26 (by decide) rfl ?_
    obtain ⟨q13, cq13, h⟩ := bdS h
    refine J_sub [2, 3, 4, 5, 1, 0] rfl (wX3_fitsAlone_L28 C fu x1 h1 x2 h2 x3 h3 q1 hz2 0 rl_0 σ hσ q13 cq13 (fun a14 ea14 => ?_) (fun a15 ea15 => ?_))
    · subst ea14
      have h := elL h
      refine J_iconst C dX3_fitsAlone_57 ?_
      have e9 := sE h
      subst e9
      exact J_zret C (Or.inl rfl) E (Or.inl rfl) dX3_fitsAlone_58
    · subst ea15
      have h := elR h
      refine J_iconst C dX3_fitsAlone_65 ?_
      refine J_istore (lo2 := [(5, vi 0), (0, .ref (gad g 32)), (1, vi x1), (2, vi x2)]) C 5 dX3_fitsAlone_66 (by decide) rfl ?_
      obtain ⟨q28, cq28, h⟩ := bdS h
      refine J_sub [1, 2, 3, 0] rfl (wX3_fitsAlone_L68 C fu x1 h1 x2 h2 0 rl_0 σ hσ q28 cq28 (fun a29 ea29 => ?_) (fun a30 ea30 => ?_))
      · subst ea29
        have h := elL h
        refine J_iconst C dX3_fitsAlone_103 ?_
        have e9 := sE h
        subst e9
        exact J_zret C (Or.inl rfl) E (Or.inl rfl) dX3_fitsAlone_104
      · subst ea30
        have h := elR h
        refine J_iconst C dX3_fitsAlone_111 ?_
        have e9 := sE h
        subst e9
        exact J_zret C (Or.inr rfl) E (Or.inr rfl) dX3_fitsAlone_112
set_option maxRecDepth 100000 in
set_option maxHeartbeats 4000000 in
theorem wX3_clashesOf_L4 {x : Ct} {g : Gm} (C : Cx x yC g 4 cX3_clashesOf RX3 4 86) : ∀ (n : Nat) (x1 : Int) (h1 : rg x1) (x2 : Int) (h2 : rg x2) (x3 : Int) (h3 : rg x3) (σ : Sg) (hσ : wfS yC σ) (q : Int) (h : fX3_clashesOf_L4 n x1 x2 x3 σ = some q) (k : rg q → J x yC g 4 59 [(2, vi q)] [] σ), J x yC g 4 4 [(0, .ref (gad g 32)), (1, vi x1), (2, vi x2), (3, vi x3)] [] σ := by
  intro n
  induction n with
  | zero =>
    intro x1 h1 x2 h2 x3 h3 σ hσ q h k
    exact absurd h (by intro z; cases z)
  | succ n ih =>
    intro x1 h1 x2 h2 x3 h3 σ hσ q h k
    rw [fX3_clashesOf_L4] at h
    have pc1 : ∀ (x2 : Int) (h2 : rg x2) (x3 : Int) (h3 : rg x3), fX3_clashesOf_L4P53 (fX3_clashesOf_L4 n) x1 x2 x3 σ = some q → J x yC g 4 53 [(0, .ref (gad g 32)), (1, vi x1), (2, vi x2), (3, vi x3)] [] σ := by
      intro x2 h2 x3 h3 h
      unfold fX3_clashesOf_L4P53 at h
      refine J_iinc C 3 3 dX3_clashesOf_53 rfl (by decide) h (fun v2 hv3 h => ?_)
      refine J_goto C (tgt := 4) dX3_clashesOf_56 (by decide) ?_
      exact J_sub [1, 2, 3, 0] rfl (ih x1 h1 x2 h2 v2 hv3 σ hσ q h k)
    refine J_iload_n C 3 dX3_clashesOf_4 rfl 3 rfl ?_
    refine J_aload_n C 0 dX3_clashesOf_5 rfl 0 rfl ?_
    refine J_getI C fl_RX3_46 oC_32 rfl dX3_clashesOf_6 ?_
    refine J_icmp_ge C h3 (hσ 32 10 lC_32) (tgt := 59) dX3_clashesOf_9 (by decide) h (fun h c16 => ?_) (fun h c16 => ?_)
    · refine J_iload_n C 3 dX3_clashesOf_12 rfl 3 rfl ?_
      refine J_bipush C dX3_clashesOf_13 (bp8 (by decide) (by decide)) ?_
      refine J_icmp_ge C h3 rl_8 (tgt := 59) dX3_clashesOf_15 (by decide) h (fun h c15 => ?_) (fun h c15 => ?_)
      · refine J_iload_n C 1 dX3_clashesOf_18 rfl 1 rfl ?_
        refine J_if_lt C h1 (tgt := 53) dX3_clashesOf_19 (by decide) h (fun h c14 => ?_) (fun h c14 => ?_)
        · exact J_sub [0, 1, 2, 3] rfl (pc1 x2 h2 x3 h3 h)
        · refine J_iload_n C 1 dX3_clashesOf_22 rfl 1 rfl ?_
          refine J_bipush C dX3_clashesOf_23 (bp8 (by decide) (by decide)) ?_
          refine J_icmp_ge C h1 rl_8 (tgt := 53) dX3_clashesOf_25 (by decide) h (fun h c13 => ?_) (fun h c13 => ?_)
          · refine J_aload_n C 0 dX3_clashesOf_28 rfl 0 rfl ?_
            refine J_aload_n C 0 dX3_clashesOf_29 rfl 0 rfl ?_
            refine J_getR C fl_RX3_9 oC_32 rfl dX3_clashesOf_30 ?_
            refine J_iload_n C 1 dX3_clashesOf_33 rfl 1 rfl ?_
            refine J_iald C aC_33 hσ dX3_clashesOf_34 h (fun v6 hv7 h => ?_)
            refine J_aload_n C 0 dX3_clashesOf_35 rfl 0 rfl ?_
            refine J_getR C fl_RX3_9 oC_32 rfl dX3_clashesOf_36 ?_
            refine J_iload_n C 3 dX3_clashesOf_39 rfl 3 rfl ?_
            refine J_iald C aC_33 hσ dX3_clashesOf_40 h (fun v8 hv9 h => ?_)
            obtain ⟨q10, cq10, h⟩ := bdS h
            refine J_callV C mw_X3_areApart ml_RX3_71 (m_X3_areApart x.2.1 g (CxI C) v6 hv7 v8 hv9 σ hσ q10 cq10) oC_32 rfl (Nat.le_of_ble_eq_true rfl) (Nat.le_of_ble_eq_true rfl) rfl rfl (Nat.le_of_ble_eq_true rfl) dX3_clashesOf_41 (fun hz11 => ?_)
            refine J_if_ne C (rg01 hz11) (tgt := 53) dX3_clashesOf_44 (by decide) h (fun h c12 => ?_) (fun h c12 => ?_)
            · refine J_iload_n C 2 dX3_clashesOf_47 rfl 2 rfl ?_
              refine J_iconst C dX3_clashesOf_48 ?_
              refine J_iload_n C 3 dX3_clashesOf_49 rfl 3 rfl ?_
              refine J_ishl C dX3_clashesOf_50 ?_
              refine J_ior C dX3_clashesOf_51 ?_
              refine J_istore_n (lo2 := [(2, vi (bOr x2 (bShl 1 x3))), (0, .ref (gad g 32)), (1, vi x1), (3, vi x3)]) C 2 dX3_clashesOf_52 rfl (by decide) rfl ?_
              exact J_sub [1, 2, 0, 3] rfl (pc1 (bOr x2 (bShl 1 x3)) (rg_toInt _) x3 h3 h)
            · exact J_sub [0, 1, 2, 3] rfl (pc1 x2 h2 x3 h3 h)
          · exact J_sub [0, 1, 2, 3] rfl (pc1 x2 h2 x3 h3 h)
      · have e9 := sE h
        subst e9
        exact J_sub [2] rfl (k h2)
    · have e9 := sE h
      subst e9
      exact J_sub [2] rfl (k h2)
set_option maxRecDepth 100000 in
set_option maxHeartbeats 4000000 in
theorem m_X3_clashesOf (l : Launch) (g : Gm) (hg : gInj yC g) (x1 : Int) (h1 : rg x1) (σ : Sg) (hσ : wfS yC σ) (q : Int) (h : fX3_clashesOf x1 σ = some q) : CJ l yC g yX3_clashesOf cX3_clashesOf 4 (some .int) 4 86 [.ref (gad g 32), vi x1] σ (some (vi q)) σ (rg q) := by
  refine CJ_of hg (by decide) rfl (Nat.le_of_ble_eq_true rfl) (lo := [(0, .ref (gad g 32)), (1, vi x1)]) rfl (fun x C E => ?_)
  unfold fX3_clashesOf at h
  refine J_iconst C dX3_clashesOf_0 ?_
  refine J_istore_n (lo2 := [(2, vi 0), (0, .ref (gad g 32)), (1, vi x1)]) C 2 dX3_clashesOf_1 rfl (by decide) rfl ?_
  refine J_iconst C dX3_clashesOf_2 ?_
  refine J_istore_n (lo2 := [(3, vi 0), (2, vi 0), (0, .ref (gad g 32)), (1, vi x1)]) C 3 dX3_clashesOf_3 rfl (by decide) rfl ?_
  obtain ⟨q17, cq17, h⟩ := bdS h
  refine J_sub [2, 3, 1, 0] rfl (wX3_clashesOf_L4 C fu x1 h1 0 rl_0 0 rl_0 σ hσ q17 cq17 (fun hr18 => ?_))
  refine J_iload_n C 2 dX3_clashesOf_59 rfl 0 rfl ?_
  have e9 := sE h
  subst e9
  exact J_iret C E hr18 dX3_clashesOf_60
set_option maxRecDepth 100000 in
set_option maxHeartbeats 4000000 in
theorem wX3_prepare_L28 {x : Ct} {g : Gm} (C : Cx x yC g 5 cX3_prepare RX3 5 126) : ∀ (n : Nat) (x2 : Int) (h2 : rg x2) (x3 : Int) (h3 : rg x3) (σ : Sg) (hσ : wfS yC σ) (q : Sg) (h : fX3_prepare_L28 n x2 x3 σ = some q) (k : wfS yC q → J x yC g 5 117 [(0, .ref (gad g 32)), (2, vi x2)] [] q), J x yC g 5 28 [(0, .ref (gad g 32)), (2, vi x2), (3, vi x3)] [] σ := by
  intro n
  induction n with
  | zero =>
    intro x2 h2 x3 h3 σ hσ q h k
    exact absurd h (by intro z; cases z)
  | succ n ih =>
    intro x2 h2 x3 h3 σ hσ q h k
    rw [fX3_prepare_L28] at h
    have pc12 : ∀ (x3 : Int) (h3 : rg x3) (σ : Sg) (hσ : wfS yC σ), fX3_prepare_L28P111 (fX3_prepare_L28 n) x2 x3 σ = some q → J x yC g 5 111 [(0, .ref (gad g 32)), (2, vi x2), (3, vi x3)] [] σ := by
      intro x3 h3 σ hσ h
      unfold fX3_prepare_L28P111 at h
      refine J_iinc C 3 2 dX3_prepare_111 rfl (by decide) h (fun v13 hv14 h => ?_)
      refine J_goto C (tgt := 28) dX3_prepare_114 (by decide) ?_
      exact J_sub [1, 2, 0] rfl (ih x2 h2 v13 hv14 σ hσ q h k)
    have pc11 : ∀ (x3 : Int) (h3 : rg x3) (σ : Sg) (hσ : wfS yC σ), fX3_prepare_L28P75 (fX3_prepare_L28 n) x2 x3 σ = some q → J x yC g 5 75 [(0, .ref (gad g 32)), (2, vi x2), (3, vi x3)] [] σ := by
      intro x3 h3 σ hσ h
      unfold fX3_prepare_L28P75 at h
      refine J_aload_n C 0 dX3_prepare_75 rfl 0 rfl ?_
      refine J_getI C fl_RX3_46 oC_32 rfl dX3_prepare_76 ?_
      refine J_if_lt C (hσ 32 10 lC_32) (tgt := 111) dX3_prepare_79 (by decide) h (fun h c24 => ?_) (fun h c24 => ?_)
      · exact J_sub [0, 1, 2] rfl (pc12 x3 h3 σ hσ h)
      · refine J_aload_n C 0 dX3_prepare_82 rfl 0 rfl ?_
        refine J_getI C fl_RX3_46 oC_32 rfl dX3_prepare_83 ?_
        refine J_bipush C dX3_prepare_86 (bp8 (by decide) (by decide)) ?_
        refine J_icmp_ge C (hσ 32 10 lC_32) rl_8 (tgt := 111) dX3_prepare_88 (by decide) h (fun h c23 => ?_) (fun h c23 => ?_)
        · refine J_aload_n C 0 dX3_prepare_91 rfl 0 rfl ?_
          refine J_getR C fl_RX3_9 oC_32 rfl dX3_prepare_92 ?_
          refine J_aload_n C 0 dX3_prepare_95 rfl 0 rfl ?_
          refine J_getI C fl_RX3_46 oC_32 rfl dX3_prepare_96 ?_
          refine J_iload_n C 3 dX3_prepare_99 rfl 2 rfl ?_
          refine J_iast C aC_33 hσ h3 dX3_prepare_100 h (fun σ17 hσ18 h => ?_)
          refine J_aload_n C 0 dX3_prepare_101 rfl 0 rfl ?_
          refine J_dup C rfl dX3_prepare_102 ?_
          refine J_getI C fl_RX3_46 oC_32 rfl dX3_prepare_103 ?_
          refine J_iconst C dX3_prepare_106 ?_
          refine J_iadd C dX3_prepare_107 h (fun v19 hv20 h => ?_)
          refine J_putI C fl_RX3_46 fp_RX3_10 oC_32 rfl rfl lC_32 hσ18 hv20 dX3_prepare_108 h (fun σ21 hσ22 h => ?_)
          exact J_sub [0, 1, 2] rfl (pc12 x3 h3 σ21 hσ22 h)
        · exact J_sub [0, 1, 2] rfl (pc12 x3 h3 σ hσ h)
    refine J_iload_n C 3 dX3_prepare_28 rfl 2 rfl ?_
    refine J_aload_n C 0 dX3_prepare_29 rfl 0 rfl ?_
    refine J_getR C fl_RX3_38 oC_32 rfl dX3_prepare_30 ?_
    refine J_getI C fl_RX3_55 cues_19.1 rfl dX3_prepare_33 ?_
    refine J_icmp_ge C h3 (hσ 19 4 cues_19.2.1) (tgt := 117) dX3_prepare_36 (by decide) h (fun h c41 => ?_) (fun h c41 => ?_)
    · refine J_aload_n C 0 dX3_prepare_39 rfl 0 rfl ?_
      refine J_getR C fl_RX3_38 oC_32 rfl dX3_prepare_40 ?_
      refine J_iload_n C 3 dX3_prepare_43 rfl 2 rfl ?_
      obtain ⟨q9, cq9, h⟩ := bdS h
      refine J_callV C mw_X1_bargeOf ml_RX3_60 (m_X1_bargeOf x.2.1 g (CxI C) 19 cues_19 x3 h3 σ hσ q9 cq9) cues_19.1 rfl (Nat.le_of_ble_eq_true rfl) (Nat.le_of_ble_eq_true rfl) rfl rfl (Nat.le_of_ble_eq_true rfl) dX3_prepare_44 (fun hz10 => ?_)
      refine J_istore (lo2 := [(4, vi q9), (0, .ref (gad g 32)), (2, vi x2), (3, vi x3)]) C 4 dX3_prepare_47 (by decide) rfl ?_
      refine J_iload C 4 dX3_prepare_49 0 rfl ?_
      refine J_if_lt C hz10 (tgt := 75) dX3_prepare_51 (by decide) h (fun h c40 => ?_) (fun h c40 => ?_)
      · exact J_sub [1, 2, 3] rfl (pc11 x3 h3 σ hσ h)
      · refine J_iload C 4 dX3_prepare_54 0 rfl ?_
        refine J_bipush C dX3_prepare_56 (bp8 (by decide) (by decide)) ?_
        refine J_icmp_ge C hz10 rl_6 (tgt := 75) dX3_prepare_58 (by decide) h (fun h c39 => ?_) (fun h c39 => ?_)
        · refine J_aload_n C 0 dX3_prepare_61 rfl 1 rfl ?_
          refine J_getR C fl_RX3_22 oC_32 rfl dX3_prepare_62 ?_
          refine J_iload C 4 dX3_prepare_65 0 rfl ?_
          refine J_dup2 C rfl rfl dX3_prepare_67 ?_
          refine J_iald C aC_36 hσ dX3_prepare_68 h (fun v33 hv34 h => ?_)
          refine J_iconst C dX3_prepare_69 ?_
          refine J_iadd C dX3_prepare_70 h (fun v35 hv36 h => ?_)
          refine J_iast C aC_36 hσ hv36 dX3_prepare_71 h (fun σ37 hσ38 h => ?_)
          refine J_goto C (tgt := 111) dX3_prepare_72 (by decide) ?_
          exact J_sub [1, 2, 3] rfl (pc12 x3 h3 σ37 hσ38 h)
        · exact J_sub [1, 2, 3] rfl (pc11 x3 h3 σ hσ h)
    · have e9 := sE h
      subst e9
      exact J_sub [0, 1] rfl (k hσ)
set_option maxRecDepth 100000 in
set_option maxHeartbeats 4000000 in
theorem wX3_prepare_L136 {x : Ct} {g : Gm} (C : Cx x yC g 5 cX3_prepare RX3 5 126) : ∀ (n : Nat) (x2 : Int) (h2 : rg x2) (x3 : Int) (h3 : rg x3) (x4 : Int) (h4 : rg x4) (σ : Sg) (hσ : wfS yC σ) (q : Sg) (h : fX3_prepare_L136 n x2 x3 x4 σ = some q) (k : wfS yC q → J x yC g 5 174 [(0, .ref (gad g 32)), (2, vi x2), (3, vi x3)] [] q), J x yC g 5 136 [(0, .ref (gad g 32)), (2, vi x2), (3, vi x3), (4, vi x4)] [] σ := by
  intro n
  induction n with
  | zero =>
    intro x2 h2 x3 h3 x4 h4 σ hσ q h k
    exact absurd h (by intro z; cases z)
  | succ n ih =>
    intro x2 h2 x3 h3 x4 h4 σ hσ q h k
    rw [fX3_prepare_L136] at h
    refine J_iload C 4 dX3_prepare_136 3 rfl ?_
    refine J_bipush C dX3_prepare_138 (bp8 (by decide) (by decide)) ?_
    refine J_icmp_ge C h4 rl_6 (tgt := 174) dX3_prepare_140 (by decide) h (fun h c56 => ?_) (fun h c56 => ?_)
    · refine J_aload_n C 0 dX3_prepare_143 rfl 0 rfl ?_
      refine J_getR C fl_RX3_15 oC_32 rfl dX3_prepare_144 ?_
      refine J_iload_n C 3 dX3_prepare_147 rfl 2 rfl ?_
      refine J_bipush C dX3_prepare_148 (bp8 (by decide) (by decide)) ?_
      refine J_imul C dX3_prepare_150 h (fun v44 hv45 h => ?_)
      refine J_iload C 4 dX3_prepare_151 3 rfl ?_
      refine J_iadd C dX3_prepare_153 h (fun v46 hv47 h => ?_)
      refine J_aload_n C 0 dX3_prepare_154 rfl 0 rfl ?_
      refine J_aload_n C 0 dX3_prepare_155 rfl 0 rfl ?_
      refine J_getR C fl_RX3_9 oC_32 rfl dX3_prepare_156 ?_
      refine J_iload_n C 3 dX3_prepare_159 rfl 2 rfl ?_
      refine J_iald C aC_33 hσ dX3_prepare_160 h (fun v48 hv49 h => ?_)
      refine J_iload C 4 dX3_prepare_161 3 rfl ?_
      refine J_iload_n C 2 dX3_prepare_163 rfl 1 rfl ?_
      obtain ⟨q50, cq50, h⟩ := bdS h
      refine J_callV C mw_X3_fitsAlone ml_RX3_64 (m_X3_fitsAlone x.2.1 g (CxI C) v48 hv49 x4 h4 x2 h2 σ hσ q50 cq50) oC_32 rfl (Nat.le_of_ble_eq_true rfl) (Nat.le_of_ble_eq_true rfl) rfl rfl (Nat.le_of_ble_eq_true rfl) dX3_prepare_164 (fun hz51 => ?_)
      refine J_zast C aC_34 hσ dX3_prepare_167 h (fun σ52 hσ53 h => ?_)
      refine J_iinc C 4 3 dX3_prepare_168 rfl (by decide) h (fun v54 hv55 h => ?_)
      refine J_goto C (tgt := 136) dX3_prepare_171 (by decide) ?_
      exact J_sub [1, 2, 3, 0] rfl (ih x2 h2 x3 h3 v54 hv55 σ52 hσ53 q h k)
    · have e9 := sE h
      subst e9
      exact J_sub [0, 1, 2] rfl (k hσ)
set_option maxRecDepth 100000 in
set_option maxHeartbeats 4000000 in
theorem wX3_prepare_L119 {x : Ct} {g : Gm} (C : Cx x yC g 5 cX3_prepare RX3 5 126) : ∀ (n : Nat) (x2 : Int) (h2 : rg x2) (x3 : Int) (h3 : rg x3) (σ : Sg) (hσ : wfS yC σ) (q : Sg) (h : fX3_prepare_L119 n x2 x3 σ = some q) (k : wfS yC q → J x yC g 5 191 [] [] q), J x yC g 5 119 [(0, .ref (gad g 32)), (2, vi x2), (3, vi x3)] [] σ := by
  intro n
  induction n with
  | zero =>
    intro x2 h2 x3 h3 σ hσ q h k
    exact absurd h (by intro z; cases z)
  | succ n ih =>
    intro x2 h2 x3 h3 σ hσ q h k
    rw [fX3_prepare_L119] at h
    refine J_iload_n C 3 dX3_prepare_119 rfl 2 rfl ?_
    refine J_aload_n C 0 dX3_prepare_120 rfl 0 rfl ?_
    refine J_getI C fl_RX3_46 oC_32 rfl dX3_prepare_121 ?_
    refine J_icmp_ge C h3 (hσ 32 10 lC_32) (tgt := 191) dX3_prepare_124 (by decide) h (fun h c66 => ?_) (fun h c66 => ?_)
    · refine J_iload_n C 3 dX3_prepare_127 rfl 2 rfl ?_
      refine J_bipush C dX3_prepare_128 (bp8 (by decide) (by decide)) ?_
      refine J_icmp_ge C h3 rl_8 (tgt := 191) dX3_prepare_130 (by decide) h (fun h c65 => ?_) (fun h c65 => ?_)
      · refine J_iconst C dX3_prepare_133 ?_
        refine J_istore (lo2 := [(4, vi 0), (0, .ref (gad g 32)), (2, vi x2), (3, vi x3)]) C 4 dX3_prepare_134 (by decide) rfl ?_
        obtain ⟨q57, cq57, h⟩ := bdS h
        refine J_sub [1, 2, 3, 0] rfl (wX3_prepare_L136 C fu x2 h2 x3 h3 0 rl_0 σ hσ q57 cq57 (fun hσ58 => ?_))
        refine J_aload_n C 0 dX3_prepare_174 rfl 0 rfl ?_
        refine J_getR C fl_RX3_19 oC_32 rfl dX3_prepare_175 ?_
        refine J_iload_n C 3 dX3_prepare_178 rfl 2 rfl ?_
        refine J_aload_n C 0 dX3_prepare_179 rfl 0 rfl ?_
        refine J_iload_n C 3 dX3_prepare_180 rfl 2 rfl ?_
        obtain ⟨q59, cq59, h⟩ := bdS h
        refine J_callV C mw_X3_clashesOf ml_RX3_68 (m_X3_clashesOf x.2.1 g (CxI C) x3 h3 q57 hσ58 q59 cq59) oC_32 rfl (Nat.le_of_ble_eq_true rfl) (Nat.le_of_ble_eq_true rfl) rfl rfl (Nat.le_of_ble_eq_true rfl) dX3_prepare_181 (fun hz60 => ?_)
        refine J_iast C aC_35 hσ58 hz60 dX3_prepare_184 h (fun σ61 hσ62 h => ?_)
        refine J_iinc C 3 2 dX3_prepare_185 rfl (by decide) h (fun v63 hv64 h => ?_)
        refine J_goto C (tgt := 119) dX3_prepare_188 (by decide) ?_
        exact J_sub [1, 2, 0] rfl (ih x2 h2 v63 hv64 σ61 hσ62 q h k)
      · have e9 := sE h
        subst e9
        exact J_sub [] rfl (k hσ)
    · have e9 := sE h
      subst e9
      exact J_sub [] rfl (k hσ)
set_option maxRecDepth 100000 in
set_option maxHeartbeats 4000000 in
theorem m_X3_prepare (l : Launch) (g : Gm) (hg : gInj yC g) (x1 : Int) (h1 : rg x1) (x2 : Int) (h2 : rg x2) (σ : Sg) (hσ : wfS yC σ) (q : Sg) (h : fX3_prepare x1 x2 σ = some q) : CJ l yC g yX3_prepare cX3_prepare 5 none 5 126 [.ref (gad g 32), vi x1, vi x2] σ none q (wfS yC q) := by
  refine CJ_of hg (by decide) rfl (Nat.le_of_ble_eq_true rfl) (lo := [(0, .ref (gad g 32)), (1, vi x1), (2, vi x2)]) rfl (fun x C E => ?_)
  unfold fX3_prepare at h
  refine J_aload_n C 0 dX3_prepare_0 rfl 0 rfl ?_
  refine J_iload_n C 1 dX3_prepare_1 rfl 1 rfl ?_
  refine J_putI C fl_RX3_42 fp_RX3_9 oC_32 rfl rfl lC_32 hσ h1 dX3_prepare_2 h (fun σ1 hσ2 h => ?_)
  refine J_aload_n C 0 dX3_prepare_5 rfl 0 rfl ?_
  refine J_iconst C dX3_prepare_6 ?_
  refine J_putI C fl_RX3_46 fp_RX3_10 oC_32 rfl rfl lC_32 hσ2 rl_0 dX3_prepare_7 h (fun σ3 hσ4 h => ?_)
  refine J_aload_n C 0 dX3_prepare_10 rfl 0 rfl ?_
  refine J_getR C fl_RX3_22 oC_32 rfl dX3_prepare_11 ?_
  refine J_iconst C dX3_prepare_14 ?_
  refine J_fillI C aC_36 hσ4 rl_0 ml_RX3_49 (Nat.le_of_ble_eq_true rfl) (Nat.le_of_ble_eq_true rfl) dX3_prepare_15 h (fun σ5 hσ6 h => ?_)
  refine J_aload_n C 0 dX3_prepare_18 rfl 0 rfl ?_
  refine J_getR C fl_RX3_25 oC_32 rfl dX3_prepare_19 ?_
  refine J_iconst C dX3_prepare_22 ?_
  refine J_fillI C aC_37 hσ6 rl_0 ml_RX3_49 (Nat.le_of_ble_eq_true rfl) (Nat.le_of_ble_eq_true rfl) dX3_prepare_23 h (fun σ7 hσ8 h => ?_)
  refine J_iconst C dX3_prepare_26 ?_
  refine J_istore_n (lo2 := [(3, vi 0), (0, .ref (gad g 32)), (1, vi x1), (2, vi x2)]) C 3 dX3_prepare_27 rfl (by decide) rfl ?_
  obtain ⟨q42, cq42, h⟩ := bdS h
  refine J_sub [1, 3, 0] rfl (wX3_prepare_L28 C fu x2 h2 0 rl_0 σ7 hσ8 q42 cq42 (fun hσ43 => ?_))
  refine J_iconst C dX3_prepare_117 ?_
  refine J_istore_n (lo2 := [(3, vi 0), (0, .ref (gad g 32)), (2, vi x2)]) C 3 dX3_prepare_118 rfl (by decide) rfl ?_
  obtain ⟨q67, cq67, h⟩ := bdS h
  refine J_sub [1, 2, 0] rfl (wX3_prepare_L119 C fu x2 h2 0 rl_0 q42 hσ43 q67 cq67 (fun hσ68 => ?_))
  have e9 := sE h
  subst e9
  exact J_vret C E hσ68 dX3_prepare_191
set_option maxRecDepth 100000 in
set_option maxHeartbeats 4000000 in
theorem wX3_mostLoad_L4 {x : Ct} {g : Gm} (C : Cx x yC g 3 cX3_mostLoad RX3 1 40) : ∀ (n : Nat) (x1 : Int) (h1 : rg x1) (x2 : Int) (h2 : rg x2) (σ : Sg) (hσ : wfS yC σ) (q : Int) (h : fX3_mostLoad_L4 n x1 x2 σ = some q) (k : rg q → J x yC g 3 27 [(1, vi q)] [] σ), J x yC g 3 4 [(0, .ref (gad g 32)), (1, vi x1), (2, vi x2)] [] σ := by
  intro n
  induction n with
  | zero =>
    intro x1 h1 x2 h2 σ hσ q h k
    exact absurd h (by intro z; cases z)
  | succ n ih =>
    intro x1 h1 x2 h2 σ hσ q h k
    rw [fX3_mostLoad_L4] at h
    refine J_iload_n C 2 dX3_mostLoad_4 rfl 2 rfl ?_
    refine J_bipush C dX3_mostLoad_5 (bp8 (by decide) (by decide)) ?_
    refine J_icmp_ge C h2 rl_6 (tgt := 27) dX3_mostLoad_7 (by decide) h (fun h c5 => ?_) (fun h c5 => ?_)
    · refine J_iload_n C 1 dX3_mostLoad_10 rfl 1 rfl ?_
      refine J_aload_n C 0 dX3_mostLoad_11 rfl 0 rfl ?_
      refine J_getR C fl_RX3_22 oC_32 rfl dX3_mostLoad_12 ?_
      refine J_iload_n C 2 dX3_mostLoad_15 rfl 2 rfl ?_
      refine J_iald C aC_36 hσ dX3_mostLoad_16 h (fun v1 hv2 h => ?_)
      refine J_max C h1 hv2 mth_max ml_RX3_102 (Nat.le_of_ble_eq_true rfl) (Nat.le_of_ble_eq_true rfl) dX3_mostLoad_17 ?_
      refine J_istore_n (lo2 := [(1, vi (mxI x1 v1)), (0, .ref (gad g 32)), (2, vi x2)]) C 1 dX3_mostLoad_20 rfl (by decide) rfl ?_
      refine J_iinc C 2 2 dX3_mostLoad_21 rfl (by decide) h (fun v3 hv4 h => ?_)
      refine J_goto C (tgt := 4) dX3_mostLoad_24 (by decide) ?_
      exact J_sub [2, 1, 0] rfl (ih (mxI x1 v1) (rg_mx h1 hv2) v3 hv4 σ hσ q h k)
    · have e9 := sE h
      subst e9
      exact J_sub [1] rfl (k h1)
set_option maxRecDepth 100000 in
set_option maxHeartbeats 4000000 in
theorem m_X3_mostLoad (l : Launch) (g : Gm) (hg : gInj yC g)  (σ : Sg) (hσ : wfS yC σ) (q : Int) (h : fX3_mostLoad  σ = some q) : CJ l yC g yX3_mostLoad cX3_mostLoad 3 (some .int) 1 40 [.ref (gad g 32)] σ (some (vi q)) σ (rg q) := by
  refine CJ_of hg (by decide) rfl (Nat.le_of_ble_eq_true rfl) (lo := [(0, .ref (gad g 32))]) rfl (fun x C E => ?_)
  unfold fX3_mostLoad at h
  refine J_iconst C dX3_mostLoad_0 ?_
  refine J_istore_n (lo2 := [(1, vi 0), (0, .ref (gad g 32))]) C 1 dX3_mostLoad_1 rfl (by decide) rfl ?_
  refine J_iconst C dX3_mostLoad_2 ?_
  refine J_istore_n (lo2 := [(2, vi 0), (1, vi 0), (0, .ref (gad g 32))]) C 2 dX3_mostLoad_3 rfl (by decide) rfl ?_
  obtain ⟨q6, cq6, h⟩ := bdS h
  refine J_sub [2, 1, 0] rfl (wX3_mostLoad_L4 C fu 0 rl_0 0 rl_0 σ hσ q6 cq6 (fun hr7 => ?_))
  refine J_iload_n C 1 dX3_mostLoad_27 rfl 0 rfl ?_
  have e9 := sE h
  subst e9
  exact J_iret C E hr7 dX3_mostLoad_28
set_option maxRecDepth 100000 in
set_option maxHeartbeats 4000000 in
theorem m_X8_channelsOf (l : Launch) (g : Gm) (hg : gInj yC g) (x1 : Int) (h1 : rg x1) (σ : Sg) (hσ : wfS yC σ) (q : Int) (h : fX8_channelsOf x1 σ = some q) : CJ l yC g yX8_channelsOf cX8_channelsOf 2 (some .int) 1 21 [.ref (gad g 1), vi x1] σ (some (vi q)) σ (rg q) := by
  refine CJ_of hg (by decide) rfl (Nat.le_of_ble_eq_true rfl) (lo := [(0, .ref (gad g 1)), (1, vi x1)]) rfl (fun x C E => ?_)
  unfold fX8_channelsOf at h
  refine J_aload_n C 0 dX8_channelsOf_0 rfl 0 rfl ?_
  refine J_iload_n C 1 dX8_channelsOf_1 rfl 1 rfl ?_
  obtain ⟨q1, cq1, h⟩ := bdS h
  refine J_callV C mw_X8_isBarge ml_RX8_52 (m_X8_isBarge x.2.1 g (CxI C) x1 h1 σ hσ q1 cq1) oC_1 rfl (Nat.le_of_ble_eq_true rfl) (Nat.le_of_ble_eq_true rfl) rfl rfl (Nat.le_of_ble_eq_true rfl) dX8_channelsOf_2 (fun hz2 => ?_)
  refine J_if_eq C (rg01 hz2) (tgt := 17) dX8_channelsOf_5 (by decide) h (fun h c5 => ?_) (fun h c5 => ?_)
  · refine J_iconst C dX8_channelsOf_17 ?_
    have e9 := sE h
    subst e9
    exact J_iret C E rl_0 dX8_channelsOf_18
  · refine J_aload_n C 0 dX8_channelsOf_8 rfl 0 rfl ?_
    refine J_getR C fl_RX8_22 oC_1 rfl dX8_channelsOf_9 ?_
    refine J_iload_n C 1 dX8_channelsOf_12 rfl 1 rfl ?_
    refine J_iald C aC_5 hσ dX8_channelsOf_13 h (fun v3 hv4 h => ?_)
    refine J_goto C (tgt := 18) dX8_channelsOf_14 (by decide) ?_
    have e9 := sE h
    subst e9
    exact J_iret C E hv4 dX8_channelsOf_18
set_option maxRecDepth 100000 in
set_option maxHeartbeats 4000000 in
theorem m_X3_mayChoose (l : Launch) (g : Gm) (hg : gInj yC g) (x1 : Int) (h1 : rg x1) (x2 : Int) (h2 : rg x2) (σ : Sg) (hσ : wfS yC σ) (q : Int) (h : fX3_mayChoose x1 x2 σ = some q) : CJ l yC g yX3_mayChoose cX3_mayChoose 3 (some .boolean) 2 42 [.ref (gad g 32), vi x1, vi x2] σ (some (vi q)) σ (q = 0 ∨ q = 1) := by
  refine CJ_of hg (by decide) rfl (Nat.le_of_ble_eq_true rfl) (lo := [(0, .ref (gad g 32)), (1, vi x1), (2, vi x2)]) rfl (fun x C E => ?_)
  unfold fX3_mayChoose at h
  refine J_iload_n C 1 dX3_mayChoose_0 rfl 1 rfl ?_
  refine J_if_lt C h1 (tgt := 20) dX3_mayChoose_1 (by decide) h (fun h c21 => ?_) (fun h c21 => ?_)
  · refine J_iconst C dX3_mayChoose_20 ?_
    have e9 := sE h
    subst e9
    exact J_zret C (Or.inl rfl) E (Or.inl rfl) dX3_mayChoose_21
  · refine J_iload_n C 1 dX3_mayChoose_4 rfl 1 rfl ?_
    refine J_bipush C dX3_mayChoose_5 (bp8 (by decide) (by decide)) ?_
    refine J_icmp_ge C h1 rl_8 (tgt := 20) dX3_mayChoose_7 (by decide) h (fun h c20 => ?_) (fun h c20 => ?_)
    · refine J_iload_n C 2 dX3_mayChoose_10 rfl 2 rfl ?_
      refine J_if_lt C h2 (tgt := 20) dX3_mayChoose_11 (by decide) h (fun h c19 => ?_) (fun h c19 => ?_)
      · refine J_iconst C dX3_mayChoose_20 ?_
        have e9 := sE h
        subst e9
        exact J_zret C (Or.inl rfl) E (Or.inl rfl) dX3_mayChoose_21
      · refine J_iload_n C 2 dX3_mayChoose_14 rfl 2 rfl ?_
        refine J_bipush C dX3_mayChoose_15 (bp8 (by decide) (by decide)) ?_
        refine J_icmp_lt C h2 rl_6 (tgt := 22) dX3_mayChoose_17 (by decide) h (fun h c18 => ?_) (fun h c18 => ?_)
        · refine J_aload_n C 0 dX3_mayChoose_22 rfl 0 rfl ?_
          refine J_getR C fl_RX3_15 oC_32 rfl dX3_mayChoose_23 ?_
          refine J_iload_n C 1 dX3_mayChoose_26 rfl 1 rfl ?_
          refine J_bipush C dX3_mayChoose_27 (bp8 (by decide) (by decide)) ?_
          refine J_imul C dX3_mayChoose_29 h (fun v1 hv2 h => ?_)
          refine J_iload_n C 2 dX3_mayChoose_30 rfl 2 rfl ?_
          refine J_iadd C dX3_mayChoose_31 h (fun v3 hv4 h => ?_)
          refine J_zald C aC_34 hσ dX3_mayChoose_32 h (fun v5 hv6 h => ?_)
          refine J_if_eq C hv6 (tgt := 73) dX3_mayChoose_33 (by decide) h (fun h c17 => ?_) (fun h c17 => ?_)
          · refine J_iconst C dX3_mayChoose_73 ?_
            have e9 := sE h
            subst e9
            exact J_zret C (Or.inl rfl) E (Or.inl rfl) dX3_mayChoose_74
          · refine J_aload_n C 0 dX3_mayChoose_36 rfl 0 rfl ?_
            refine J_getR C fl_RX3_22 oC_32 rfl dX3_mayChoose_37 ?_
            refine J_iload_n C 2 dX3_mayChoose_40 rfl 2 rfl ?_
            refine J_iald C aC_36 hσ dX3_mayChoose_41 h (fun v7 hv8 h => ?_)
            refine J_aload_n C 0 dX3_mayChoose_42 rfl 0 rfl ?_
            refine J_getR C fl_RX3_34 oC_32 rfl dX3_mayChoose_43 ?_
            refine J_iload_n C 2 dX3_mayChoose_46 rfl 2 rfl ?_
            obtain ⟨q9, cq9, h⟩ := bdS h
            refine J_callV C mw_X8_channelsOf ml_RX3_99 (m_X8_channelsOf x.2.1 g (CxI C) x2 h2 σ hσ q9 cq9) oC_1 rfl (Nat.le_of_ble_eq_true rfl) (Nat.le_of_ble_eq_true rfl) rfl rfl (Nat.le_of_ble_eq_true rfl) dX3_mayChoose_47 (fun hz10 => ?_)
            refine J_icmp_ge C hv8 hz10 (tgt := 73) dX3_mayChoose_50 (by decide) h (fun h c16 => ?_) (fun h c16 => ?_)
            · refine J_aload_n C 0 dX3_mayChoose_53 rfl 0 rfl ?_
              refine J_getR C fl_RX3_19 oC_32 rfl dX3_mayChoose_54 ?_
              refine J_iload_n C 1 dX3_mayChoose_57 rfl 1 rfl ?_
              refine J_iald C aC_35 hσ dX3_mayChoose_58 h (fun v11 hv12 h => ?_)
              refine J_aload_n C 0 dX3_mayChoose_59 rfl 0 rfl ?_
              refine J_getR C fl_RX3_25 oC_32 rfl dX3_mayChoose_60 ?_
              refine J_iload_n C 2 dX3_mayChoose_63 rfl 2 rfl ?_
              refine J_iald C aC_37 hσ dX3_mayChoose_64 h (fun v13 hv14 h => ?_)
              refine J_iand C dX3_mayChoose_65 ?_
              refine J_if_ne C (rg_toInt _) (tgt := 73) dX3_mayChoose_66 (by decide) h (fun h c15 => ?_) (fun h c15 => ?_)
              · refine J_iconst C dX3_mayChoose_69 ?_
                refine J_goto C (tgt := 74) dX3_mayChoose_70 (by decide) ?_
                have e9 := sE h
                subst e9
                exact J_zret C (Or.inr rfl) E (Or.inr rfl) dX3_mayChoose_74
              · refine J_iconst C dX3_mayChoose_73 ?_
                have e9 := sE h
                subst e9
                exact J_zret C (Or.inl rfl) E (Or.inl rfl) dX3_mayChoose_74
            · refine J_iconst C dX3_mayChoose_73 ?_
              have e9 := sE h
              subst e9
              exact J_zret C (Or.inl rfl) E (Or.inl rfl) dX3_mayChoose_74
        · refine J_iconst C dX3_mayChoose_20 ?_
          have e9 := sE h
          subst e9
          exact J_zret C (Or.inl rfl) E (Or.inl rfl) dX3_mayChoose_21
    · refine J_iconst C dX3_mayChoose_20 ?_
      have e9 := sE h
      subst e9
      exact J_zret C (Or.inl rfl) E (Or.inl rfl) dX3_mayChoose_21
set_option maxRecDepth 100000 in
set_option maxHeartbeats 4000000 in
theorem m_X3_choose (l : Launch) (g : Gm) (hg : gInj yC g) (x1 : Int) (h1 : rg x1) (x2 : Int) (h2 : rg x2) (σ : Sg) (hσ : wfS yC σ) (q : Sg) (h : fX3_choose x1 x2 σ = some q) : CJ l yC g yX3_choose cX3_choose 3 none 0 0 [.ref (gad g 32), vi x1, vi x2] σ none q (wfS yC q) := by
  refine CJ_of hg (by decide) rfl (Nat.le_of_ble_eq_true rfl) (lo := [(0, .ref (gad g 32)), (1, vi x1), (2, vi x2)]) rfl (fun x C E => ?_)
  unfold fX3_choose at h
  refine J_iload_n C 1 dX3_choose_0 rfl 1 rfl ?_
  refine J_if_lt C h1 (tgt := 49) dX3_choose_1 (by decide) h (fun h c16 => ?_) (fun h c16 => ?_)
  · have e9 := sE h
    subst e9
    exact J_vret C E hσ dX3_choose_49
  · refine J_iload_n C 1 dX3_choose_4 rfl 1 rfl ?_
    refine J_bipush C dX3_choose_5 (bp8 (by decide) (by decide)) ?_
    refine J_icmp_ge C h1 rl_8 (tgt := 49) dX3_choose_7 (by decide) h (fun h c15 => ?_) (fun h c15 => ?_)
    · refine J_iload_n C 2 dX3_choose_10 rfl 2 rfl ?_
      refine J_if_lt C h2 (tgt := 49) dX3_choose_11 (by decide) h (fun h c14 => ?_) (fun h c14 => ?_)
      · have e9 := sE h
        subst e9
        exact J_vret C E hσ dX3_choose_49
      · refine J_iload_n C 2 dX3_choose_14 rfl 2 rfl ?_
        refine J_bipush C dX3_choose_15 (bp8 (by decide) (by decide)) ?_
        refine J_icmp_ge C h2 rl_6 (tgt := 49) dX3_choose_17 (by decide) h (fun h c13 => ?_) (fun h c13 => ?_)
        · refine J_aload_n C 0 dX3_choose_20 rfl 0 rfl ?_
          refine J_getR C fl_RX3_28 oC_32 rfl dX3_choose_21 ?_
          refine J_iload_n C 1 dX3_choose_24 rfl 1 rfl ?_
          refine J_iload_n C 2 dX3_choose_25 rfl 2 rfl ?_
          refine J_iast C aC_38 hσ h2 dX3_choose_26 h (fun σ1 hσ2 h => ?_)
          refine J_aload_n C 0 dX3_choose_27 rfl 0 rfl ?_
          refine J_getR C fl_RX3_22 oC_32 rfl dX3_choose_28 ?_
          refine J_iload_n C 2 dX3_choose_31 rfl 2 rfl ?_
          refine J_dup2 C rfl rfl dX3_choose_32 ?_
          refine J_iald C aC_36 hσ2 dX3_choose_33 h (fun v3 hv4 h => ?_)
          refine J_iconst C dX3_choose_34 ?_
          refine J_iadd C dX3_choose_35 h (fun v5 hv6 h => ?_)
          refine J_iast C aC_36 hσ2 hv6 dX3_choose_36 h (fun σ7 hσ8 h => ?_)
          refine J_aload_n C 0 dX3_choose_37 rfl 0 rfl ?_
          refine J_getR C fl_RX3_25 oC_32 rfl dX3_choose_38 ?_
          refine J_iload_n C 2 dX3_choose_41 rfl 2 rfl ?_
          refine J_dup2 C rfl rfl dX3_choose_42 ?_
          refine J_iald C aC_37 hσ8 dX3_choose_43 h (fun v9 hv10 h => ?_)
          refine J_iconst C dX3_choose_44 ?_
          refine J_iload_n C 1 dX3_choose_45 rfl 1 rfl ?_
          refine J_ishl C dX3_choose_46 ?_
          refine J_ior C dX3_choose_47 ?_
          refine J_iast C aC_37 hσ8 (rg_toInt _) dX3_choose_48 h (fun σ11 hσ12 h => ?_)
          have e9 := sE h
          subst e9
          exact J_vret C E hσ12 dX3_choose_49
        · have e9 := sE h
          subst e9
          exact J_vret C E hσ dX3_choose_49
    · have e9 := sE h
      subst e9
      exact J_vret C E hσ dX3_choose_49
set_option maxRecDepth 100000 in
set_option maxHeartbeats 4000000 in
theorem m_X3_loadOf (l : Launch) (g : Gm) (hg : gInj yC g) (x1 : Int) (h1 : rg x1) (σ : Sg) (hσ : wfS yC σ) (q : Int) (h : fX3_loadOf x1 σ = some q) : CJ l yC g yX3_loadOf cX3_loadOf 2 (some .int) 0 0 [.ref (gad g 32), vi x1] σ (some (vi q)) σ (rg q) := by
  refine CJ_of hg (by decide) rfl (Nat.le_of_ble_eq_true rfl) (lo := [(0, .ref (gad g 32)), (1, vi x1)]) rfl (fun x C E => ?_)
  unfold fX3_loadOf at h
  refine J_iload_n C 1 dX3_loadOf_0 rfl 1 rfl ?_
  refine J_if_lt C h1 (tgt := 19) dX3_loadOf_1 (by decide) h (fun h c4 => ?_) (fun h c4 => ?_)
  · refine J_iconst C dX3_loadOf_19 ?_
    have e9 := sE h
    subst e9
    exact J_iret C E rl_0 dX3_loadOf_20
  · refine J_iload_n C 1 dX3_loadOf_4 rfl 1 rfl ?_
    refine J_bipush C dX3_loadOf_5 (bp8 (by decide) (by decide)) ?_
    refine J_icmp_ge C h1 rl_6 (tgt := 19) dX3_loadOf_7 (by decide) h (fun h c3 => ?_) (fun h c3 => ?_)
    · refine J_aload_n C 0 dX3_loadOf_10 rfl 0 rfl ?_
      refine J_getR C fl_RX3_22 oC_32 rfl dX3_loadOf_11 ?_
      refine J_iload_n C 1 dX3_loadOf_14 rfl 1 rfl ?_
      refine J_iald C aC_36 hσ dX3_loadOf_15 h (fun v1 hv2 h => ?_)
      refine J_goto C (tgt := 20) dX3_loadOf_16 (by decide) ?_
      have e9 := sE h
      subst e9
      exact J_iret C E hv2 dX3_loadOf_20
    · refine J_iconst C dX3_loadOf_19 ?_
      have e9 := sE h
      subst e9
      exact J_iret C E rl_0 dX3_loadOf_20
set_option maxRecDepth 100000 in
set_option maxHeartbeats 4000000 in
theorem m_X3_unchoose (l : Launch) (g : Gm) (hg : gInj yC g) (x1 : Int) (h1 : rg x1) (x2 : Int) (h2 : rg x2) (σ : Sg) (hσ : wfS yC σ) (q : Sg) (h : fX3_unchoose x1 x2 σ = some q) : CJ l yC g yX3_unchoose cX3_unchoose 3 none 0 0 [.ref (gad g 32), vi x1, vi x2] σ none q (wfS yC q) := by
  refine CJ_of hg (by decide) rfl (Nat.le_of_ble_eq_true rfl) (lo := [(0, .ref (gad g 32)), (1, vi x1), (2, vi x2)]) rfl (fun x C E => ?_)
  unfold fX3_unchoose at h
  refine J_iload_n C 1 dX3_unchoose_0 rfl 1 rfl ?_
  refine J_if_lt C h1 (tgt := 44) dX3_unchoose_1 (by decide) h (fun h c14 => ?_) (fun h c14 => ?_)
  · have e9 := sE h
    subst e9
    exact J_vret C E hσ dX3_unchoose_44
  · refine J_iload_n C 1 dX3_unchoose_4 rfl 1 rfl ?_
    refine J_bipush C dX3_unchoose_5 (bp8 (by decide) (by decide)) ?_
    refine J_icmp_ge C h1 rl_8 (tgt := 44) dX3_unchoose_7 (by decide) h (fun h c13 => ?_) (fun h c13 => ?_)
    · refine J_iload_n C 2 dX3_unchoose_10 rfl 2 rfl ?_
      refine J_if_lt C h2 (tgt := 44) dX3_unchoose_11 (by decide) h (fun h c12 => ?_) (fun h c12 => ?_)
      · have e9 := sE h
        subst e9
        exact J_vret C E hσ dX3_unchoose_44
      · refine J_iload_n C 2 dX3_unchoose_14 rfl 2 rfl ?_
        refine J_bipush C dX3_unchoose_15 (bp8 (by decide) (by decide)) ?_
        refine J_icmp_ge C h2 rl_6 (tgt := 44) dX3_unchoose_17 (by decide) h (fun h c11 => ?_) (fun h c11 => ?_)
        · refine J_aload_n C 0 dX3_unchoose_20 rfl 0 rfl ?_
          refine J_getR C fl_RX3_22 oC_32 rfl dX3_unchoose_21 ?_
          refine J_iload_n C 2 dX3_unchoose_24 rfl 2 rfl ?_
          refine J_dup2 C rfl rfl dX3_unchoose_25 ?_
          refine J_iald C aC_36 hσ dX3_unchoose_26 h (fun v1 hv2 h => ?_)
          refine J_iconst C dX3_unchoose_27 ?_
          refine J_isub C dX3_unchoose_28 h (fun v3 hv4 h => ?_)
          refine J_iast C aC_36 hσ hv4 dX3_unchoose_29 h (fun σ5 hσ6 h => ?_)
          refine J_aload_n C 0 dX3_unchoose_30 rfl 0 rfl ?_
          refine J_getR C fl_RX3_25 oC_32 rfl dX3_unchoose_31 ?_
          refine J_iload_n C 2 dX3_unchoose_34 rfl 2 rfl ?_
          refine J_dup2 C rfl rfl dX3_unchoose_35 ?_
          refine J_iald C aC_37 hσ6 dX3_unchoose_36 h (fun v7 hv8 h => ?_)
          refine J_iconst C dX3_unchoose_37 ?_
          refine J_iload_n C 1 dX3_unchoose_38 rfl 1 rfl ?_
          refine J_ishl C dX3_unchoose_39 ?_
          refine J_iconst C dX3_unchoose_40 ?_
          refine J_ixor C dX3_unchoose_41 ?_
          refine J_iand C dX3_unchoose_42 ?_
          refine J_iast C aC_37 hσ6 (rg_toInt _) dX3_unchoose_43 h (fun σ9 hσ10 h => ?_)
          have e9 := sE h
          subst e9
          exact J_vret C E hσ10 dX3_unchoose_44
        · have e9 := sE h
          subst e9
          exact J_vret C E hσ dX3_unchoose_44
    · have e9 := sE h
      subst e9
      exact J_vret C E hσ dX3_unchoose_44
