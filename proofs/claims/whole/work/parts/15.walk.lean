set_option maxRecDepth 100000 in
set_option maxHeartbeats 4000000 in
theorem m_X12_cue (l : Launch) (g : Gm) (hg : gInj yR g) (x1 : Int) (h1 : rg x1) (x2 : Int) (h2 : rg x2) (σ : Sg) (hσ : wfS yR σ) (q : Int × Sg) (h : fX12_cue x1 x2 σ = some q) : CJ l yR g yX12_cue cX12_cue 3 (some .int) 2 43 [.ref (gad g 0), vi x1, vi x2] σ (some (vi q.1)) q.2 ((rg q.1) ∧ wfS yR q.2) := by
  refine CJ_of hg (by decide) rfl (Nat.le_of_ble_eq_true rfl) (lo := [(0, .ref (gad g 0)), (1, vi x1), (2, vi x2)]) rfl (fun x C E => ?_)
  unfold fX12_cue at h
  have pc5 : ∀ (y0 : Int) (g0 : rg y0) (σ : Sg) (hσ : wfS yR σ), fX12_cue_P27 x1 x2 y0 σ = some q → J x yR g 3 27 [(0, .ref (gad g 0)), (1, vi x1), (2, vi x2)] [vi y0, .ref (gad g 0)] σ := by
    intro y0 g0 σ hσ h
    unfold fX12_cue_P27 at h
    refine J_putI C fl_RX12_148 fp_RX12_38 oR_0 rfl rfl lR_0 hσ g0 dX12_cue_27 h (fun σ6 hσ7 h => ?_)
    refine J_aload_n C 0 dX12_cue_30 rfl 0 rfl ?_
    refine J_getI C fl_RX12_148 oR_0 rfl dX12_cue_31 ?_
    refine J_if_eq C (hσ7 0 38 lR_0) (tgt := 39) dX12_cue_34 (by decide) h (fun h c28 => ?_) (fun h c28 => ?_)
    · refine J_iload_n C 2 dX12_cue_39 rfl 2 rfl ?_
      refine J_if_ne C h2 (tgt := 52) dX12_cue_40 (by decide) h (fun h c27 => ?_) (fun h c27 => ?_)
      · refine J_aload_n C 0 dX12_cue_43 rfl 0 rfl ?_
        refine J_getR C fl_RX12_46 oR_0 rfl dX12_cue_44 ?_
        refine J_iload_n C 1 dX12_cue_47 rfl 1 rfl ?_
        refine J_iald C aR_13 hσ7 dX12_cue_48 h (fun v25 hv26 h => ?_)
        refine J_goto C (tgt := 112) dX12_cue_49 (by decide) ?_
        have e9 := sE h
        subst e9
        exact J_iret C E ⟨hv26, hσ7⟩ dX12_cue_112
      · refine J_iload_n C 2 dX12_cue_52 rfl 2 rfl ?_
        refine J_iconst C dX12_cue_53 ?_
        refine J_icmp_ne C h2 rl_1 (tgt := 66) dX12_cue_54 (by decide) h (fun h c24 => ?_) (fun h c24 => ?_)
        · refine J_aload_n C 0 dX12_cue_57 rfl 0 rfl ?_
          refine J_getR C fl_RX12_49 oR_0 rfl dX12_cue_58 ?_
          refine J_iload_n C 1 dX12_cue_61 rfl 1 rfl ?_
          refine J_iald C aR_14 hσ7 dX12_cue_62 h (fun v22 hv23 h => ?_)
          refine J_goto C (tgt := 112) dX12_cue_63 (by decide) ?_
          have e9 := sE h
          subst e9
          exact J_iret C E ⟨hv23, hσ7⟩ dX12_cue_112
        · refine J_iload_n C 2 dX12_cue_66 rfl 2 rfl ?_
          refine J_iconst C dX12_cue_67 ?_
          refine J_icmp_ne C h2 rl_2 (tgt := 80) dX12_cue_68 (by decide) h (fun h c21 => ?_) (fun h c21 => ?_)
          · refine J_aload_n C 0 dX12_cue_71 rfl 0 rfl ?_
            refine J_getR C fl_RX12_52 oR_0 rfl dX12_cue_72 ?_
            refine J_iload_n C 1 dX12_cue_75 rfl 1 rfl ?_
            refine J_iald C aR_15 hσ7 dX12_cue_76 h (fun v19 hv20 h => ?_)
            refine J_goto C (tgt := 112) dX12_cue_77 (by decide) ?_
            have e9 := sE h
            subst e9
            exact J_iret C E ⟨hv20, hσ7⟩ dX12_cue_112
          · refine J_iload_n C 2 dX12_cue_80 rfl 2 rfl ?_
            refine J_iconst C dX12_cue_81 ?_
            refine J_icmp_ne C h2 rl_3 (tgt := 94) dX12_cue_82 (by decide) h (fun h c18 => ?_) (fun h c18 => ?_)
            · refine J_aload_n C 0 dX12_cue_85 rfl 0 rfl ?_
              refine J_getR C fl_RX12_55 oR_0 rfl dX12_cue_86 ?_
              refine J_iload_n C 1 dX12_cue_89 rfl 1 rfl ?_
              refine J_iald C aR_16 hσ7 dX12_cue_90 h (fun v16 hv17 h => ?_)
              refine J_goto C (tgt := 112) dX12_cue_91 (by decide) ?_
              have e9 := sE h
              subst e9
              exact J_iret C E ⟨hv17, hσ7⟩ dX12_cue_112
            · refine J_aload_n C 0 dX12_cue_94 rfl 0 rfl ?_
              refine J_getR C fl_RX12_46 oR_0 rfl dX12_cue_95 ?_
              refine J_iload_n C 1 dX12_cue_98 rfl 1 rfl ?_
              refine J_iald C aR_13 hσ7 dX12_cue_99 h (fun v8 hv9 h => ?_)
              refine J_aload_n C 0 dX12_cue_100 rfl 0 rfl ?_
              refine J_getR C fl_RX12_13 oR_0 rfl dX12_cue_101 ?_
              refine J_aload_n C 0 dX12_cue_104 rfl 0 rfl ?_
              refine J_getR C fl_RX12_49 oR_0 rfl dX12_cue_105 ?_
              refine J_iload_n C 1 dX12_cue_108 rfl 1 rfl ?_
              refine J_iald C aR_14 hσ7 dX12_cue_109 h (fun v10 hv11 h => ?_)
              refine J_iald C aR_2 hσ7 dX12_cue_110 h (fun v12 hv13 h => ?_)
              refine J_isub C dX12_cue_111 h (fun v14 hv15 h => ?_)
              have e9 := sE h
              subst e9
              exact J_iret C E ⟨hv15, hσ7⟩ dX12_cue_112
    · refine J_iconst C dX12_cue_37 ?_
      have e9 := sE h
      subst e9
      exact J_iret C E ⟨rl_0, hσ7⟩ dX12_cue_38
  refine J_aload_n C 0 dX12_cue_0 rfl 0 rfl ?_
  refine J_iload_n C 2 dX12_cue_1 rfl 2 rfl ?_
  refine J_iconst C dX12_cue_2 ?_
  refine J_iconst C dX12_cue_3 ?_
  obtain ⟨q1, cq1, h⟩ := bdS h
  refine J_callS C mw_X12_isIn ml_RX12_177 (m_X12_isIn x.2.1 g (CxI C) x2 h2 0 rl_0 4 rl_4 σ hσ q1 cq1) (Nat.le_of_ble_eq_true rfl) (Nat.le_of_ble_eq_true rfl) rfl rfl (Nat.le_of_ble_eq_true rfl) dX12_cue_4 (fun hz2 => ?_)
  refine J_if_ne C (rg01 hz2) (tgt := 14) dX12_cue_7 (by decide) h (fun h c53 => ?_) (fun h c53 => ?_)
  · refine J_iconst C dX12_cue_10 ?_
    refine J_goto C (tgt := 27) dX12_cue_11 (by decide) ?_
    exact J_sub [0, 1, 2] rfl (pc5 1 rl_1 σ hσ h)
  · refine J_aload_n C 0 dX12_cue_14 rfl 0 rfl ?_
    refine J_iload_n C 1 dX12_cue_15 rfl 1 rfl ?_
    obtain ⟨q3, cq3, h⟩ := bdS h
    refine J_callV C mw_X12_isCue ml_RX12_244 (m_X12_isCue x.2.1 g (CxI C) x1 h1 σ hσ q3 cq3) oR_0 rfl (Nat.le_of_ble_eq_true rfl) (Nat.le_of_ble_eq_true rfl) rfl rfl (Nat.le_of_ble_eq_true rfl) dX12_cue_16 (fun hz4 => ?_)
    refine J_if_ne C (rg01 hz4) (tgt := 26) dX12_cue_19 (by decide) h (fun h c52 => ?_) (fun h c52 => ?_)
    · refine J_iconst C dX12_cue_22 ?_
      refine J_goto C (tgt := 27) dX12_cue_23 (by decide) ?_
      exact J_sub [0, 1, 2] rfl (pc5 2 rl_2 σ hσ h)
    · refine J_iconst C dX12_cue_26 ?_
      exact J_sub [0, 1, 2] rfl (pc5 0 rl_0 σ hσ h)
set_option maxRecDepth 100000 in
set_option maxHeartbeats 4000000 in
theorem m_X12_stretched (l : Launch) (g : Gm) (hg : gInj yR g) (x0 : Int) (h0 : rg x0) (x1 : Int) (h1 : rg x1) (x2 : Int) (h2 : rg x2) (x3 : Int) (h3 : rg x3) (σ : Sg) (hσ : wfS yR σ) (q : Int) (h : fX12_stretched x0 x1 x2 x3 σ = some q) : CJ l yR g yX12_stretched cX12_stretched 4 (some .int) 0 0 [vi x0, vi x1, vi x2, vi x3] σ (some (vi q)) σ (rg q) := by
  refine CJ_of hg (by decide) rfl (Nat.le_of_ble_eq_true rfl) (lo := [(0, vi x0), (1, vi x1), (2, vi x2), (3, vi x3)]) rfl (fun x C E => ?_)
  unfold fX12_stretched at h
  refine J_iload_n C 0 dX12_stretched_0 rfl 0 rfl ?_
  refine J_iload_n C 1 dX12_stretched_1 rfl 1 rfl ?_
  refine J_icmp_ge C h0 h1 (tgt := 9) dX12_stretched_2 (by decide) h (fun h c9 => ?_) (fun h c9 => ?_)
  · refine J_iload_n C 0 dX12_stretched_5 rfl 0 rfl ?_
    refine J_goto C (tgt := 18) dX12_stretched_6 (by decide) ?_
    have e9 := sE h
    subst e9
    exact J_iret C E h0 dX12_stretched_18
  · refine J_iload_n C 1 dX12_stretched_9 rfl 1 rfl ?_
    refine J_iload_n C 0 dX12_stretched_10 rfl 0 rfl ?_
    refine J_iload_n C 1 dX12_stretched_11 rfl 1 rfl ?_
    refine J_isub C dX12_stretched_12 h (fun v1 hv2 h => ?_)
    refine J_iload_n C 2 dX12_stretched_13 rfl 2 rfl ?_
    refine J_imul C dX12_stretched_14 h (fun v3 hv4 h => ?_)
    refine J_iload_n C 3 dX12_stretched_15 rfl 3 rfl ?_
    refine J_idiv C hv4 h3 dX12_stretched_16 h (fun v5 hv6 h => ?_)
    refine J_iadd C dX12_stretched_17 h (fun v7 hv8 h => ?_)
    have e9 := sE h
    subst e9
    exact J_iret C E hv8 dX12_stretched_18
set_option maxRecDepth 100000 in
set_option maxHeartbeats 4000000 in
theorem wX12_stretch_L41 {x : Ct} {g : Gm} (C : Cx x yR g 7 cX12_stretch RX12 1 23) : ∀ (n : Nat) (x1 : Int) (h1 : rg x1) (x2 : Int) (h2 : rg x2) (x3 : Int) (h3 : rg x3) (x4 : Int) (h4 : rg x4) (σ : Sg) (hσ : wfS yR σ) (q : (Unit) ⊕ (Unit)) (h : fX12_stretch_L41 n x1 x2 x3 x4 σ = some q) (k0 : ∀ a : Unit, q = .inl a → J x yR g 7 78 [] [] σ) (k1 : ∀ a : Unit, q = .inr a → J x yR g 7 87 [(0, .ref (gad g 0)), (1, vi x1), (2, vi x2), (3, vi x3)] [] σ), J x yR g 7 41 [(0, .ref (gad g 0)), (1, vi x1), (2, vi x2), (3, vi x3), (4, vi x4)] [] σ := by
  intro n
  induction n with
  | zero =>
    intro x1 h1 x2 h2 x3 h3 x4 h4 σ hσ q h k0 k1
    exact absurd h (by intro z; cases z)
  | succ n ih =>
    intro x1 h1 x2 h2 x3 h3 x4 h4 σ hσ q h k0 k1
    rw [fX12_stretch_L41] at h
    refine J_iload C 4 dX12_stretch_41 4 rfl ?_
    refine J_aload_n C 0 dX12_stretch_43 rfl 0 rfl ?_
    refine J_getI C fl_RX12_159 oR_0 rfl dX12_stretch_44 ?_
    refine J_icmp_ge C h4 (hσ 0 32 lR_0) (tgt := 87) dX12_stretch_47 (by decide) h (fun h c20 => ?_) (fun h c20 => ?_)
    · refine J_aload_n C 0 dX12_stretch_50 rfl 0 rfl ?_
      refine J_getR C fl_RX12_46 oR_0 rfl dX12_stretch_51 ?_
      refine J_iload C 4 dX12_stretch_54 4 rfl ?_
      refine J_iald C aR_13 hσ dX12_stretch_56 h (fun v9 hv10 h => ?_)
      refine J_iload_n C 1 dX12_stretch_57 rfl 1 rfl ?_
      refine J_iload_n C 2 dX12_stretch_58 rfl 2 rfl ?_
      refine J_iload_n C 3 dX12_stretch_59 rfl 3 rfl ?_
      obtain ⟨q11, cq11, h⟩ := bdS h
      refine J_callS C mw_X12_stretched ml_RX12_247 (m_X12_stretched x.2.1 g (CxI C) v9 hv10 x1 h1 x2 h2 x3 h3 σ hσ q11 cq11) (Nat.le_of_ble_eq_true rfl) (Nat.le_of_ble_eq_true rfl) rfl rfl (Nat.le_of_ble_eq_true rfl) dX12_stretch_60 (fun hz12 => ?_)
      refine J_aload_n C 0 dX12_stretch_63 rfl 0 rfl ?_
      refine J_getR C fl_RX12_13 oR_0 rfl dX12_stretch_64 ?_
      refine J_aload_n C 0 dX12_stretch_67 rfl 0 rfl ?_
      refine J_getR C fl_RX12_49 oR_0 rfl dX12_stretch_68 ?_
      refine J_iload C 4 dX12_stretch_71 4 rfl ?_
      refine J_iald C aR_14 hσ dX12_stretch_73 h (fun v13 hv14 h => ?_)
      refine J_iald C aR_2 hσ dX12_stretch_74 h (fun v15 hv16 h => ?_)
      refine J_icmp_ge C hz12 hv16 (tgt := 81) dX12_stretch_75 (by decide) h (fun h c19 => ?_) (fun h c19 => ?_)
      · have e9 := sE h
        exact J_sub [] rfl (k0 () e9.symm)
      · refine J_iinc C 4 4 dX12_stretch_81 rfl (by decide) h (fun v17 hv18 h => ?_)
        refine J_goto C (tgt := 41) dX12_stretch_84 (by decide) ?_
        exact J_sub [1, 2, 3, 4, 0] rfl (ih x1 h1 x2 h2 x3 h3 v17 hv18 σ hσ q h k0 k1)
    · have e9 := sE h
      exact J_sub [0, 1, 2, 3] rfl (k1 () e9.symm)
set_option maxRecDepth 100000 in
set_option maxHeartbeats 4000000 in
theorem wX12_stretch_L90 {x : Ct} {g : Gm} (C : Cx x yR g 7 cX12_stretch RX12 1 23) : ∀ (n : Nat) (x1 : Int) (h1 : rg x1) (x2 : Int) (h2 : rg x2) (x3 : Int) (h3 : rg x3) (x4 : Int) (h4 : rg x4) (σ : Sg) (hσ : wfS yR σ) (q : (Unit) ⊕ (Unit)) (h : fX12_stretch_L90 n x1 x2 x3 x4 σ = some q) (k0 : ∀ a : Unit, q = .inl a → J x yR g 7 118 [] [] σ) (k1 : ∀ a : Unit, q = .inr a → J x yR g 7 127 [(0, .ref (gad g 0)), (1, vi x1), (2, vi x2), (3, vi x3)] [] σ), J x yR g 7 90 [(0, .ref (gad g 0)), (1, vi x1), (2, vi x2), (3, vi x3), (4, vi x4)] [] σ := by
  intro n
  induction n with
  | zero =>
    intro x1 h1 x2 h2 x3 h3 x4 h4 σ hσ q h k0 k1
    exact absurd h (by intro z; cases z)
  | succ n ih =>
    intro x1 h1 x2 h2 x3 h3 x4 h4 σ hσ q h k0 k1
    rw [fX12_stretch_L90] at h
    refine J_iload C 4 dX12_stretch_90 4 rfl ?_
    refine J_aload_n C 0 dX12_stretch_92 rfl 0 rfl ?_
    refine J_getI C fl_RX12_159 oR_0 rfl dX12_stretch_93 ?_
    refine J_icmp_ge C h4 (hσ 0 32 lR_0) (tgt := 127) dX12_stretch_96 (by decide) h (fun h c31 => ?_) (fun h c31 => ?_)
    · refine J_aload_n C 0 dX12_stretch_99 rfl 0 rfl ?_
      refine J_getR C fl_RX12_46 oR_0 rfl dX12_stretch_100 ?_
      refine J_iload C 4 dX12_stretch_103 4 rfl ?_
      refine J_iald C aR_13 hσ dX12_stretch_105 h (fun v24 hv25 h => ?_)
      refine J_iload_n C 1 dX12_stretch_106 rfl 1 rfl ?_
      refine J_iload_n C 2 dX12_stretch_107 rfl 2 rfl ?_
      refine J_iload_n C 3 dX12_stretch_108 rfl 3 rfl ?_
      obtain ⟨q26, cq26, h⟩ := bdS h
      refine J_callS C mw_X12_stretched ml_RX12_247 (m_X12_stretched x.2.1 g (CxI C) v24 hv25 x1 h1 x2 h2 x3 h3 σ hσ q26 cq26) (Nat.le_of_ble_eq_true rfl) (Nat.le_of_ble_eq_true rfl) rfl rfl (Nat.le_of_ble_eq_true rfl) dX12_stretch_109 (fun hz27 => ?_)
      refine J_sipush C dX12_stretch_112 (bp16 (by decide) (by decide)) ?_
      refine J_icmp_le C hz27 rl_20000 (tgt := 121) dX12_stretch_115 (by decide) h (fun h c30 => ?_) (fun h c30 => ?_)
      · refine J_iinc C 4 4 dX12_stretch_121 rfl (by decide) h (fun v28 hv29 h => ?_)
        refine J_goto C (tgt := 90) dX12_stretch_124 (by decide) ?_
        exact J_sub [1, 2, 3, 4, 0] rfl (ih x1 h1 x2 h2 x3 h3 v28 hv29 σ hσ q h k0 k1)
      · have e9 := sE h
        exact J_sub [] rfl (k0 () e9.symm)
    · have e9 := sE h
      exact J_sub [0, 1, 2, 3] rfl (k1 () e9.symm)
set_option maxRecDepth 100000 in
set_option maxHeartbeats 4000000 in
theorem wX12_stretch_L133 {x : Ct} {g : Gm} (C : Cx x yR g 7 cX12_stretch RX12 1 23) : ∀ (n : Nat) (x1 : Int) (h1 : rg x1) (x2 : Int) (h2 : rg x2) (x3 : Int) (h3 : rg x3) (x4 : Int) (h4 : rg x4) (x5 : Int) (h5 : rg x5) (σ : Sg) (hσ : wfS yR σ) (q : Int × Sg) (h : fX12_stretch_L133 n x1 x2 x3 x4 x5 σ = some q) (k : rg q.1 → wfS yR q.2 → J x yR g 7 194 [(4, vi q.1)] [] q.2), J x yR g 7 133 [(0, .ref (gad g 0)), (1, vi x1), (2, vi x2), (3, vi x3), (4, vi x4), (5, vi x5)] [] σ := by
  intro n
  induction n with
  | zero =>
    intro x1 h1 x2 h2 x3 h3 x4 h4 x5 h5 σ hσ q h k
    exact absurd h (by intro z; cases z)
  | succ n ih =>
    intro x1 h1 x2 h2 x3 h3 x4 h4 x5 h5 σ hσ q h k
    rw [fX12_stretch_L133] at h
    have pc41 : ∀ (x5 : Int) (h5 : rg x5) (x6 : Int) (h6 : rg x6) (y0 : Int) (g0 : rg y0) (y1 : Int) (g1 : rg y1) (σ : Sg) (hσ : wfS yR σ), fX12_stretch_L133P176 (fX12_stretch_L133 n) x1 x2 x3 x5 x6 y0 y1 σ = some q → J x yR g 7 176 [(0, .ref (gad g 0)), (1, vi x1), (2, vi x2), (3, vi x3), (5, vi x5), (6, vi x6)] [vi y0, vi y1] σ := by
      intro x5 h5 x6 h6 y0 g0 y1 g1 σ hσ h
      unfold fX12_stretch_L133P176 at h
      refine J_iadd C dX12_stretch_176 h (fun v42 hv43 h => ?_)
      refine J_istore (lo2 := [(4, vi v42), (0, .ref (gad g 0)), (1, vi x1), (2, vi x2), (3, vi x3), (5, vi x5), (6, vi x6)]) C 4 dX12_stretch_177 (by decide) rfl ?_
      refine J_aload_n C 0 dX12_stretch_179 rfl 1 rfl ?_
      refine J_getR C fl_RX12_46 oR_0 rfl dX12_stretch_180 ?_
      refine J_iload C 5 dX12_stretch_183 5 rfl ?_
      refine J_iload C 6 dX12_stretch_185 6 rfl ?_
      refine J_iast C aR_13 hσ h6 dX12_stretch_187 h (fun σ44 hσ45 h => ?_)
      refine J_iinc C 5 5 dX12_stretch_188 rfl (by decide) h (fun v46 hv47 h => ?_)
      refine J_goto C (tgt := 133) dX12_stretch_191 (by decide) ?_
      exact J_sub [2, 3, 4, 5, 1, 0] rfl (ih x1 h1 x2 h2 x3 h3 v42 hv43 v46 hv47 σ44 hσ45 q h k)
    refine J_iload C 5 dX12_stretch_133 5 rfl ?_
    refine J_aload_n C 0 dX12_stretch_135 rfl 0 rfl ?_
    refine J_getI C fl_RX12_159 oR_0 rfl dX12_stretch_136 ?_
    refine J_icmp_ge C h5 (hσ 0 32 lR_0) (tgt := 194) dX12_stretch_139 (by decide) h (fun h c55 => ?_) (fun h c55 => ?_)
    · refine J_aload_n C 0 dX12_stretch_142 rfl 0 rfl ?_
      refine J_getR C fl_RX12_46 oR_0 rfl dX12_stretch_143 ?_
      refine J_iload C 5 dX12_stretch_146 5 rfl ?_
      refine J_iald C aR_13 hσ dX12_stretch_148 h (fun v35 hv36 h => ?_)
      refine J_iload_n C 1 dX12_stretch_149 rfl 1 rfl ?_
      refine J_iload_n C 2 dX12_stretch_150 rfl 2 rfl ?_
      refine J_iload_n C 3 dX12_stretch_151 rfl 3 rfl ?_
      obtain ⟨q37, cq37, h⟩ := bdS h
      refine J_callS C mw_X12_stretched ml_RX12_247 (m_X12_stretched x.2.1 g (CxI C) v35 hv36 x1 h1 x2 h2 x3 h3 σ hσ q37 cq37) (Nat.le_of_ble_eq_true rfl) (Nat.le_of_ble_eq_true rfl) rfl rfl (Nat.le_of_ble_eq_true rfl) dX12_stretch_152 (fun hz38 => ?_)
      refine J_istore (lo2 := [(6, vi q37), (0, .ref (gad g 0)), (1, vi x1), (2, vi x2), (3, vi x3), (4, vi x4), (5, vi x5)]) C 6 dX12_stretch_155 (by decide) rfl ?_
      refine J_iload C 4 dX12_stretch_157 5 rfl ?_
      refine J_iload C 6 dX12_stretch_159 0 rfl ?_
      refine J_aload_n C 0 dX12_stretch_161 rfl 1 rfl ?_
      refine J_getR C fl_RX12_46 oR_0 rfl dX12_stretch_162 ?_
      refine J_iload C 5 dX12_stretch_165 6 rfl ?_
      refine J_iald C aR_13 hσ dX12_stretch_167 h (fun v39 hv40 h => ?_)
      refine J_icmp_eq C hz38 hv40 (tgt := 175) dX12_stretch_168 (by decide) h (fun h c54 => ?_) (fun h c54 => ?_)
      · refine J_iconst C dX12_stretch_175 ?_
        exact J_sub [1, 2, 3, 4, 6, 0] rfl (pc41 x5 h5 q37 hz38 0 rl_0 x4 h4 σ hσ h)
      · refine J_iconst C dX12_stretch_171 ?_
        refine J_goto C (tgt := 176) dX12_stretch_172 (by decide) ?_
        exact J_sub [1, 2, 3, 4, 6, 0] rfl (pc41 x5 h5 q37 hz38 1 rl_1 x4 h4 σ hσ h)
    · have e9 := sE h
      subst e9
      exact J_sub [4] rfl (k h4 hσ)
set_option maxRecDepth 100000 in
set_option maxHeartbeats 4000000 in
theorem m_X12_stretch (l : Launch) (g : Gm) (hg : gInj yR g) (x1 : Int) (h1 : rg x1) (x2 : Int) (h2 : rg x2) (x3 : Int) (h3 : rg x3) (σ : Sg) (hσ : wfS yR σ) (q : Int × Sg) (h : fX12_stretch x1 x2 x3 σ = some q) : CJ l yR g yX12_stretch cX12_stretch 7 (some .int) 1 23 [.ref (gad g 0), vi x1, vi x2, vi x3] σ (some (vi q.1)) q.2 ((rg q.1) ∧ wfS yR q.2) := by
  refine CJ_of hg (by decide) rfl (Nat.le_of_ble_eq_true rfl) (lo := [(0, .ref (gad g 0)), (1, vi x1), (2, vi x2), (3, vi x3)]) rfl (fun x C E => ?_)
  unfold fX12_stretch at h
  refine J_aload_n C 0 dX12_stretch_0 rfl 0 rfl ?_
  refine J_iconst C dX12_stretch_1 ?_
  refine J_putZ C fl_RX12_155 fp_RX12_54 oR_0 rfl rfl lR_0 hσ (Or.inl rfl) dX12_stretch_2 h (fun σ1 hσ2 h => ?_)
  refine J_iload_n C 1 dX12_stretch_5 rfl 1 rfl ?_
  refine J_iconst C dX12_stretch_6 ?_
  refine J_sipush C dX12_stretch_7 (bp16 (by decide) (by decide)) ?_
  obtain ⟨q3, cq3, h⟩ := bdS h
  refine J_callS C mw_X12_isIn ml_RX12_177 (m_X12_isIn x.2.1 g (CxI C) x1 h1 0 rl_0 20000 rl_20000 σ1 hσ2 q3 cq3) (Nat.le_of_ble_eq_true rfl) (Nat.le_of_ble_eq_true rfl) rfl rfl (Nat.le_of_ble_eq_true rfl) dX12_stretch_10 (fun hz4 => ?_)
  refine J_if_eq C (rg01 hz4) (tgt := 36) dX12_stretch_13 (by decide) h (fun h c61 => ?_) (fun h c61 => ?_)
  · refine J_iconst C dX12_stretch_36 ?_
    have e9 := sE h
    subst e9
    exact J_iret C E ⟨rl_m1, hσ2⟩ dX12_stretch_37
  · refine J_iload_n C 2 dX12_stretch_16 rfl 2 rfl ?_
    refine J_iconst C dX12_stretch_17 ?_
    refine J_bipush C dX12_stretch_18 (bp8 (by decide) (by decide)) ?_
    obtain ⟨q5, cq5, h⟩ := bdS h
    refine J_callS C mw_X12_isIn ml_RX12_177 (m_X12_isIn x.2.1 g (CxI C) x2 h2 1 rl_1 100 rl_100 σ1 hσ2 q5 cq5) (Nat.le_of_ble_eq_true rfl) (Nat.le_of_ble_eq_true rfl) rfl rfl (Nat.le_of_ble_eq_true rfl) dX12_stretch_20 (fun hz6 => ?_)
    refine J_if_eq C (rg01 hz6) (tgt := 36) dX12_stretch_23 (by decide) h (fun h c60 => ?_) (fun h c60 => ?_)
    · refine J_iconst C dX12_stretch_36 ?_
      have e9 := sE h
      subst e9
      exact J_iret C E ⟨rl_m1, hσ2⟩ dX12_stretch_37
    · refine J_iload_n C 3 dX12_stretch_26 rfl 3 rfl ?_
      refine J_iconst C dX12_stretch_27 ?_
      refine J_bipush C dX12_stretch_28 (bp8 (by decide) (by decide)) ?_
      obtain ⟨q7, cq7, h⟩ := bdS h
      refine J_callS C mw_X12_isIn ml_RX12_177 (m_X12_isIn x.2.1 g (CxI C) x3 h3 1 rl_1 100 rl_100 σ1 hσ2 q7 cq7) (Nat.le_of_ble_eq_true rfl) (Nat.le_of_ble_eq_true rfl) rfl rfl (Nat.le_of_ble_eq_true rfl) dX12_stretch_30 (fun hz8 => ?_)
      refine J_if_ne C (rg01 hz8) (tgt := 38) dX12_stretch_33 (by decide) h (fun h c59 => ?_) (fun h c59 => ?_)
      · refine J_iconst C dX12_stretch_36 ?_
        have e9 := sE h
        subst e9
        exact J_iret C E ⟨rl_m1, hσ2⟩ dX12_stretch_37
      · refine J_iconst C dX12_stretch_38 ?_
        refine J_istore (lo2 := [(4, vi 0), (0, .ref (gad g 0)), (1, vi x1), (2, vi x2), (3, vi x3)]) C 4 dX12_stretch_39 (by decide) rfl ?_
        obtain ⟨q21, cq21, h⟩ := bdS h
        refine J_sub [1, 2, 3, 4, 0] rfl (wX12_stretch_L41 C fu x1 h1 x2 h2 x3 h3 0 rl_0 σ1 hσ2 q21 cq21 (fun a22 ea22 => ?_) (fun a23 ea23 => ?_))
        · subst ea22
          have h := elL h
          refine J_bipush C dX12_stretch_78 (bp8 (by decide) (by decide)) ?_
          have e9 := sE h
          subst e9
          exact J_iret C E ⟨rl_m5, hσ2⟩ dX12_stretch_80
        · subst ea23
          have h := elR h
          refine J_iconst C dX12_stretch_87 ?_
          refine J_istore (lo2 := [(4, vi 0), (0, .ref (gad g 0)), (1, vi x1), (2, vi x2), (3, vi x3)]) C 4 dX12_stretch_88 (by decide) rfl ?_
          obtain ⟨q32, cq32, h⟩ := bdS h
          refine J_sub [1, 2, 3, 4, 0] rfl (wX12_stretch_L90 C fu x1 h1 x2 h2 x3 h3 0 rl_0 σ1 hσ2 q32 cq32 (fun a33 ea33 => ?_) (fun a34 ea34 => ?_))
          · subst ea33
            have h := elL h
            refine J_bipush C dX12_stretch_118 (bp8 (by decide) (by decide)) ?_
            have e9 := sE h
            subst e9
            exact J_iret C E ⟨rl_m2, hσ2⟩ dX12_stretch_120
          · subst ea34
            have h := elR h
            refine J_iconst C dX12_stretch_127 ?_
            refine J_istore (lo2 := [(4, vi 0), (0, .ref (gad g 0)), (1, vi x1), (2, vi x2), (3, vi x3)]) C 4 dX12_stretch_128 (by decide) rfl ?_
            refine J_iconst C dX12_stretch_130 ?_
            refine J_istore (lo2 := [(5, vi 0), (4, vi 0), (0, .ref (gad g 0)), (1, vi x1), (2, vi x2), (3, vi x3)]) C 5 dX12_stretch_131 (by decide) rfl ?_
            obtain ⟨q56, cq56, h⟩ := bdS h
            refine J_sub [2, 3, 4, 5, 1, 0] rfl (wX12_stretch_L133 C fu x1 h1 x2 h2 x3 h3 0 rl_0 0 rl_0 σ1 hσ2 q56 cq56 (fun hr57 hσ58 => ?_))
            refine J_iload C 4 dX12_stretch_194 0 rfl ?_
            have e9 := sE h
            subst e9
            exact J_iret C E ⟨hr57, hσ58⟩ dX12_stretch_196
set_option maxRecDepth 100000 in
set_option maxHeartbeats 4000000 in
theorem m_X12_fire (l : Launch) (g : Gm) (hg : gInj yR g) (x1 : Int) (h1 : rg x1) (σ : Sg) (hσ : wfS yR σ) (q : Int) (h : fX12_fire x1 σ = some q) : CJ l yR g yX12_fire cX12_fire 2 (some .int) 0 0 [.ref (gad g 0), vi x1] σ (some (vi q)) σ (rg q) := by
  refine CJ_of hg (by decide) rfl (Nat.le_of_ble_eq_true rfl) (lo := [(0, .ref (gad g 0)), (1, vi x1)]) rfl (fun x C E => ?_)
  unfold fX12_fire at h
  refine J_aload_n C 0 dX12_fire_0 rfl 0 rfl ?_
  refine J_getR C fl_RX12_46 oR_0 rfl dX12_fire_1 ?_
  refine J_iload_n C 1 dX12_fire_4 rfl 1 rfl ?_
  refine J_iald C aR_13 hσ dX12_fire_5 h (fun v1 hv2 h => ?_)
  refine J_aload_n C 0 dX12_fire_6 rfl 0 rfl ?_
  refine J_getR C fl_RX12_13 oR_0 rfl dX12_fire_7 ?_
  refine J_aload_n C 0 dX12_fire_10 rfl 0 rfl ?_
  refine J_getR C fl_RX12_49 oR_0 rfl dX12_fire_11 ?_
  refine J_iload_n C 1 dX12_fire_14 rfl 1 rfl ?_
  refine J_iald C aR_14 hσ dX12_fire_15 h (fun v3 hv4 h => ?_)
  refine J_iald C aR_2 hσ dX12_fire_16 h (fun v5 hv6 h => ?_)
  refine J_isub C dX12_fire_17 h (fun v7 hv8 h => ?_)
  have e9 := sE h
  subst e9
  exact J_iret C E hv8 dX12_fire_18
set_option maxRecDepth 100000 in
set_option maxHeartbeats 4000000 in
theorem wX12_gathers_L7 {x : Ct} {g : Gm} (C : Cx x yR g 2 cX12_gathers RX12 0 0) : ∀ (n : Nat) (x1 : Int) (h1 : rg x1) (σ : Sg) (hσ : wfS yR σ) (q : Sg) (h : fX12_gathers_L7 n x1 σ = some q) (k : wfS yR q → J x yR g 2 26 [(0, .ref (gad g 0))] [] q), J x yR g 2 7 [(0, .ref (gad g 0)), (1, vi x1)] [] σ := by
  intro n
  induction n with
  | zero =>
    intro x1 h1 σ hσ q h k
    exact absurd h (by intro z; cases z)
  | succ n ih =>
    intro x1 h1 σ hσ q h k
    rw [fX12_gathers_L7] at h
    refine J_iload_n C 1 dX12_gathers_7 rfl 1 rfl ?_
    refine J_bipush C dX12_gathers_8 (bp8 (by decide) (by decide)) ?_
    refine J_icmp_ge C h1 rl_6 (tgt := 26) dX12_gathers_10 (by decide) h (fun h c7 => ?_) (fun h c7 => ?_)
    · refine J_aload_n C 0 dX12_gathers_13 rfl 0 rfl ?_
      refine J_getR C fl_RX12_119 oR_0 rfl dX12_gathers_14 ?_
      refine J_iload_n C 1 dX12_gathers_17 rfl 1 rfl ?_
      refine J_iconst C dX12_gathers_18 ?_
      refine J_iast C aR_37 hσ rl_0 dX12_gathers_19 h (fun σ3 hσ4 h => ?_)
      refine J_iinc C 1 1 dX12_gathers_20 rfl (by decide) h (fun v5 hv6 h => ?_)
      refine J_goto C (tgt := 7) dX12_gathers_23 (by decide) ?_
      exact J_sub [1, 0] rfl (ih v5 hv6 σ3 hσ4 q h k)
    · have e9 := sE h
      subst e9
      exact J_sub [0] rfl (k hσ)
set_option maxRecDepth 100000 in
set_option maxHeartbeats 4000000 in
theorem wX12_gathers_L28 {x : Ct} {g : Gm} (C : Cx x yR g 2 cX12_gathers RX12 0 0) : ∀ (n : Nat) (x1 : Int) (h1 : rg x1) (σ : Sg) (hσ : wfS yR σ) (q : Sg) (h : fX12_gathers_L28 n x1 σ = some q) (k : wfS yR q → J x yR g 2 89 [] [] q), J x yR g 2 28 [(0, .ref (gad g 0)), (1, vi x1)] [] σ := by
  intro n
  induction n with
  | zero =>
    intro x1 h1 σ hσ q h k
    exact absurd h (by intro z; cases z)
  | succ n ih =>
    intro x1 h1 σ hσ q h k
    rw [fX12_gathers_L28] at h
    have pc18 : ∀ (x1 : Int) (h1 : rg x1) (σ : Sg) (hσ : wfS yR σ), fX12_gathers_L28P83 (fX12_gathers_L28 n) x1 σ = some q → J x yR g 2 83 [(0, .ref (gad g 0)), (1, vi x1)] [] σ := by
      intro x1 h1 σ hσ h
      unfold fX12_gathers_L28P83 at h
      refine J_iinc C 1 1 dX12_gathers_83 rfl (by decide) h (fun v19 hv20 h => ?_)
      refine J_goto C (tgt := 28) dX12_gathers_86 (by decide) ?_
      exact J_sub [1, 0] rfl (ih v19 hv20 σ hσ q h k)
    refine J_iload_n C 1 dX12_gathers_28 rfl 1 rfl ?_
    refine J_aload_n C 0 dX12_gathers_29 rfl 0 rfl ?_
    refine J_getI C fl_RX12_159 oR_0 rfl dX12_gathers_30 ?_
    refine J_icmp_ge C h1 (hσ 0 32 lR_0) (tgt := 89) dX12_gathers_33 (by decide) h (fun h c32 => ?_) (fun h c32 => ?_)
    · refine J_aload_n C 0 dX12_gathers_36 rfl 0 rfl ?_
      refine J_getR C fl_RX12_52 oR_0 rfl dX12_gathers_37 ?_
      refine J_iload_n C 1 dX12_gathers_40 rfl 1 rfl ?_
      refine J_iald C aR_15 hσ dX12_gathers_41 h (fun v10 hv11 h => ?_)
      refine J_if_lt C hv11 (tgt := 63) dX12_gathers_42 (by decide) h (fun h c31 => ?_) (fun h c31 => ?_)
      · refine J_aload_n C 0 dX12_gathers_63 rfl 0 rfl ?_
        refine J_getR C fl_RX12_110 oR_0 rfl dX12_gathers_64 ?_
        refine J_aload_n C 0 dX12_gathers_67 rfl 0 rfl ?_
        refine J_getI C fl_RX12_251 oR_0 rfl dX12_gathers_68 ?_
        refine J_iload_n C 1 dX12_gathers_71 rfl 1 rfl ?_
        refine J_iast C aR_34 hσ h1 dX12_gathers_72 h (fun σ12 hσ13 h => ?_)
        refine J_aload_n C 0 dX12_gathers_73 rfl 0 rfl ?_
        refine J_dup C rfl dX12_gathers_74 ?_
        refine J_getI C fl_RX12_251 oR_0 rfl dX12_gathers_75 ?_
        refine J_iconst C dX12_gathers_78 ?_
        refine J_iadd C dX12_gathers_79 h (fun v14 hv15 h => ?_)
        refine J_putI C fl_RX12_251 fp_RX12_47 oR_0 rfl rfl lR_0 hσ13 hv15 dX12_gathers_80 h (fun σ16 hσ17 h => ?_)
        exact J_sub [0, 1] rfl (pc18 x1 h1 σ16 hσ17 h)
      · refine J_aload_n C 0 dX12_gathers_45 rfl 0 rfl ?_
        refine J_getR C fl_RX12_119 oR_0 rfl dX12_gathers_46 ?_
        refine J_aload_n C 0 dX12_gathers_49 rfl 0 rfl ?_
        refine J_getR C fl_RX12_52 oR_0 rfl dX12_gathers_50 ?_
        refine J_iload_n C 1 dX12_gathers_53 rfl 1 rfl ?_
        refine J_iald C aR_15 hσ dX12_gathers_54 h (fun v23 hv24 h => ?_)
        refine J_dup2 C rfl rfl dX12_gathers_55 ?_
        refine J_iald C aR_37 hσ dX12_gathers_56 h (fun v25 hv26 h => ?_)
        refine J_iconst C dX12_gathers_57 ?_
        refine J_iadd C dX12_gathers_58 h (fun v27 hv28 h => ?_)
        refine J_iast C aR_37 hσ hv28 dX12_gathers_59 h (fun σ29 hσ30 h => ?_)
        refine J_goto C (tgt := 83) dX12_gathers_60 (by decide) ?_
        exact J_sub [0, 1] rfl (pc18 x1 h1 σ29 hσ30 h)
    · have e9 := sE h
      subst e9
      exact J_sub [] rfl (k hσ)
set_option maxRecDepth 100000 in
set_option maxHeartbeats 4000000 in
theorem m_X12_gathers (l : Launch) (g : Gm) (hg : gInj yR g)  (σ : Sg) (hσ : wfS yR σ) (q : Sg) (h : fX12_gathers  σ = some q) : CJ l yR g yX12_gathers cX12_gathers 2 none 0 0 [.ref (gad g 0)] σ none q (wfS yR q) := by
  refine CJ_of hg (by decide) rfl (Nat.le_of_ble_eq_true rfl) (lo := [(0, .ref (gad g 0))]) rfl (fun x C E => ?_)
  unfold fX12_gathers at h
  refine J_aload_n C 0 dX12_gathers_0 rfl 0 rfl ?_
  refine J_iconst C dX12_gathers_1 ?_
  refine J_putI C fl_RX12_251 fp_RX12_47 oR_0 rfl rfl lR_0 hσ rl_0 dX12_gathers_2 h (fun σ1 hσ2 h => ?_)
  refine J_iconst C dX12_gathers_5 ?_
  refine J_istore_n (lo2 := [(1, vi 0), (0, .ref (gad g 0))]) C 1 dX12_gathers_6 rfl (by decide) rfl ?_
  obtain ⟨q8, cq8, h⟩ := bdS h
  refine J_sub [1, 0] rfl (wX12_gathers_L7 C fu 0 rl_0 σ1 hσ2 q8 cq8 (fun hσ9 => ?_))
  refine J_iconst C dX12_gathers_26 ?_
  refine J_istore_n (lo2 := [(1, vi 0), (0, .ref (gad g 0))]) C 1 dX12_gathers_27 rfl (by decide) rfl ?_
  obtain ⟨q33, cq33, h⟩ := bdS h
  refine J_sub [1, 0] rfl (wX12_gathers_L28 C fu 0 rl_0 q8 hσ9 q33 cq33 (fun hσ34 => ?_))
  have e9 := sE h
  subst e9
  exact J_vret C E hσ34 dX12_gathers_89
set_option maxRecDepth 100000 in
set_option maxHeartbeats 4000000 in
theorem wX12_mayStand_L27 {x : Ct} {g : Gm} (C : Cx x yR g 5 cX12_mayStand RX12 2 58) : ∀ (n : Nat) (x1 : Int) (h1 : rg x1) (x2 : Int) (h2 : rg x2) (x3 : Int) (h3 : rg x3) (x4 : Int) (h4 : rg x4) (σ : Sg) (hσ : wfS yR σ) (q : (Unit) ⊕ (Unit)) (h : fX12_mayStand_L27 n x1 x2 x3 x4 σ = some q) (k0 : ∀ a : Unit, q = .inl a → J x yR g 5 55 [] [] σ) (k1 : ∀ a : Unit, q = .inr a → J x yR g 5 63 [(0, .ref (gad g 0)), (1, vi x1), (2, vi x2)] [] σ), J x yR g 5 27 [(0, .ref (gad g 0)), (1, vi x1), (2, vi x2), (3, vi x3), (4, vi x4)] [] σ := by
  intro n
  induction n with
  | zero =>
    intro x1 h1 x2 h2 x3 h3 x4 h4 σ hσ q h k0 k1
    exact absurd h (by intro z; cases z)
  | succ n ih =>
    intro x1 h1 x2 h2 x3 h3 x4 h4 σ hσ q h k0 k1
    rw [fX12_mayStand_L27] at h
    refine J_iload C 4 dX12_mayStand_27 4 rfl ?_
    refine J_iload_n C 3 dX12_mayStand_29 rfl 3 rfl ?_
    refine J_icmp_ge C h4 h3 (tgt := 63) dX12_mayStand_30 (by decide) h (fun h c16 => ?_) (fun h c16 => ?_)
    · refine J_aload_n C 0 dX12_mayStand_33 rfl 0 rfl ?_
      refine J_aload_n C 0 dX12_mayStand_34 rfl 0 rfl ?_
      refine J_getR C fl_RX12_49 oR_0 rfl dX12_mayStand_35 ?_
      refine J_iload_n C 1 dX12_mayStand_38 rfl 1 rfl ?_
      refine J_iald C aR_14 hσ dX12_mayStand_39 h (fun v7 hv8 h => ?_)
      refine J_iload_n C 2 dX12_mayStand_40 rfl 2 rfl ?_
      refine J_aload_n C 0 dX12_mayStand_41 rfl 0 rfl ?_
      refine J_getR C fl_RX12_55 oR_0 rfl dX12_mayStand_42 ?_
      refine J_iload_n C 1 dX12_mayStand_45 rfl 1 rfl ?_
      refine J_iald C aR_16 hσ dX12_mayStand_46 h (fun v9 hv10 h => ?_)
      refine J_iload C 4 dX12_mayStand_47 4 rfl ?_
      obtain ⟨q11, cq11, h⟩ := bdS h
      refine J_callV C mw_X12_isSafe ml_RX12_205 (m_X12_isSafe x.2.1 g (CxI C) v7 hv8 x2 h2 v9 hv10 x4 h4 σ hσ q11 cq11) oR_0 rfl (Nat.le_of_ble_eq_true rfl) (Nat.le_of_ble_eq_true rfl) rfl rfl (Nat.le_of_ble_eq_true rfl) dX12_mayStand_49 (fun hz12 => ?_)
      refine J_if_ne C (rg01 hz12) (tgt := 57) dX12_mayStand_52 (by decide) h (fun h c15 => ?_) (fun h c15 => ?_)
      · have e9 := sE h
        exact J_sub [] rfl (k0 () e9.symm)
      · refine J_iinc C 4 4 dX12_mayStand_57 rfl (by decide) h (fun v13 hv14 h => ?_)
        refine J_goto C (tgt := 27) dX12_mayStand_60 (by decide) ?_
        exact J_sub [1, 2, 3, 4, 0] rfl (ih x1 h1 x2 h2 x3 h3 v13 hv14 σ hσ q h k0 k1)
    · have e9 := sE h
      exact J_sub [0, 1, 2] rfl (k1 () e9.symm)
set_option maxRecDepth 100000 in
set_option maxHeartbeats 4000000 in
theorem wX12_mayStand_L66 {x : Ct} {g : Gm} (C : Cx x yR g 5 cX12_mayStand RX12 2 58) : ∀ (n : Nat) (x1 : Int) (h1 : rg x1) (x2 : Int) (h2 : rg x2) (x4 : Int) (h4 : rg x4) (σ : Sg) (hσ : wfS yR σ) (q : (Unit) ⊕ (Unit)) (h : fX12_mayStand_L66 n x1 x2 x4 σ = some q) (k0 : ∀ a : Unit, q = .inl a → J x yR g 5 108 [] [] σ) (k1 : ∀ a : Unit, q = .inr a → J x yR g 5 116 [] [] σ), J x yR g 5 66 [(0, .ref (gad g 0)), (1, vi x1), (2, vi x2), (4, vi x4)] [] σ := by
  intro n
  induction n with
  | zero =>
    intro x1 h1 x2 h2 x4 h4 σ hσ q h k0 k1
    exact absurd h (by intro z; cases z)
  | succ n ih =>
    intro x1 h1 x2 h2 x4 h4 σ hσ q h k0 k1
    rw [fX12_mayStand_L66] at h
    have pc22 : ∀ (x4 : Int) (h4 : rg x4), fX12_mayStand_L66P110 (fX12_mayStand_L66 n) x1 x2 x4 σ = some q → J x yR g 5 110 [(0, .ref (gad g 0)), (1, vi x1), (2, vi x2), (4, vi x4)] [] σ := by
      intro x4 h4 h
      unfold fX12_mayStand_L66P110 at h
      refine J_iinc C 4 3 dX12_mayStand_110 rfl (by decide) h (fun v23 hv24 h => ?_)
      refine J_goto C (tgt := 66) dX12_mayStand_113 (by decide) ?_
      exact J_sub [1, 2, 3, 0] rfl (ih x1 h1 x2 h2 v23 hv24 σ hσ q h k0 k1)
    refine J_iload C 4 dX12_mayStand_66 3 rfl ?_
    refine J_aload_n C 0 dX12_mayStand_68 rfl 0 rfl ?_
    refine J_getI C fl_RX12_159 oR_0 rfl dX12_mayStand_69 ?_
    refine J_icmp_ge C h4 (hσ 0 32 lR_0) (tgt := 116) dX12_mayStand_72 (by decide) h (fun h c37 => ?_) (fun h c37 => ?_)
    · refine J_aload_n C 0 dX12_mayStand_75 rfl 0 rfl ?_
      refine J_getR C fl_RX12_52 oR_0 rfl dX12_mayStand_76 ?_
      refine J_iload C 4 dX12_mayStand_79 3 rfl ?_
      refine J_iald C aR_15 hσ dX12_mayStand_81 h (fun v20 hv21 h => ?_)
      refine J_iload_n C 2 dX12_mayStand_82 rfl 2 rfl ?_
      refine J_icmp_ne C hv21 h2 (tgt := 110) dX12_mayStand_83 (by decide) h (fun h c36 => ?_) (fun h c36 => ?_)
      · refine J_aload_n C 0 dX12_mayStand_86 rfl 0 rfl ?_
        refine J_iload C 4 dX12_mayStand_87 3 rfl ?_
        obtain ⟨q27, cq27, h⟩ := bdS h
        refine J_callV C mw_X12_fire ml_RX12_254 (m_X12_fire x.2.1 g (CxI C) x4 h4 σ hσ q27 cq27) oR_0 rfl (Nat.le_of_ble_eq_true rfl) (Nat.le_of_ble_eq_true rfl) rfl rfl (Nat.le_of_ble_eq_true rfl) dX12_mayStand_89 (fun hz28 => ?_)
        refine J_aload_n C 0 dX12_mayStand_92 rfl 0 rfl ?_
        refine J_iload_n C 1 dX12_mayStand_93 rfl 1 rfl ?_
        obtain ⟨q29, cq29, h⟩ := bdS h
        refine J_callV C mw_X12_fire ml_RX12_254 (m_X12_fire x.2.1 g (CxI C) x1 h1 σ hσ q29 cq29) oR_0 rfl (Nat.le_of_ble_eq_true rfl) (Nat.le_of_ble_eq_true rfl) rfl rfl (Nat.le_of_ble_eq_true rfl) dX12_mayStand_94 (fun hz30 => ?_)
        refine J_isub C dX12_mayStand_97 h (fun v31 hv32 h => ?_)
        obtain ⟨q33, cq33, h⟩ := bdS h
        refine J_callS C mw_X12_amount ml_RX12_182 (m_X12_amount x.2.1 g (CxI C) v31 hv32 σ hσ q33 cq33) (Nat.le_of_ble_eq_true rfl) (Nat.le_of_ble_eq_true rfl) rfl rfl (Nat.le_of_ble_eq_true rfl) dX12_mayStand_98 (fun hz34 => ?_)
        refine J_aload_n C 0 dX12_mayStand_101 rfl 0 rfl ?_
        refine J_getI C fl_RX12_174 oR_0 rfl dX12_mayStand_102 ?_
        refine J_icmp_ge C hz34 (hσ 0 31 lR_0) (tgt := 110) dX12_mayStand_105 (by decide) h (fun h c35 => ?_) (fun h c35 => ?_)
        · have e9 := sE h
          exact J_sub [] rfl (k0 () e9.symm)
        · exact J_sub [0, 1, 2, 3] rfl (pc22 x4 h4 h)
      · exact J_sub [0, 1, 2, 3] rfl (pc22 x4 h4 h)
    · have e9 := sE h
      exact J_sub [] rfl (k1 () e9.symm)
set_option maxRecDepth 100000 in
set_option maxHeartbeats 4000000 in
theorem m_X12_mayStand (l : Launch) (g : Gm) (hg : gInj yR g) (x1 : Int) (h1 : rg x1) (x2 : Int) (h2 : rg x2) (x3 : Int) (h3 : rg x3) (σ : Sg) (hσ : wfS yR σ) (q : Int) (h : fX12_mayStand x1 x2 x3 σ = some q) : CJ l yR g yX12_mayStand cX12_mayStand 5 (some .boolean) 2 58 [.ref (gad g 0), vi x1, vi x2, vi x3] σ (some (vi q)) σ (q = 0 ∨ q = 1) := by
  refine CJ_of hg (by decide) rfl (Nat.le_of_ble_eq_true rfl) (lo := [(0, .ref (gad g 0)), (1, vi x1), (2, vi x2), (3, vi x3)]) rfl (fun x C E => ?_)
  unfold fX12_mayStand at h
  refine J_aload_n C 0 dX12_mayStand_0 rfl 0 rfl ?_
  refine J_iload_n C 2 dX12_mayStand_1 rfl 2 rfl ?_
  obtain ⟨q1, cq1, h⟩ := bdS h
  refine J_callV C mw_X12_isBarge ml_RX12_186 (m_X12_isBarge x.2.1 g (CxI C) x2 h2 σ hσ q1 cq1) oR_0 rfl (Nat.le_of_ble_eq_true rfl) (Nat.le_of_ble_eq_true rfl) rfl rfl (Nat.le_of_ble_eq_true rfl) dX12_mayStand_2 (fun hz2 => ?_)
  refine J_if_eq C (rg01 hz2) (tgt := 22) dX12_mayStand_5 (by decide) h (fun h c42 => ?_) (fun h c42 => ?_)
  · refine J_iconst C dX12_mayStand_22 ?_
    have e9 := sE h
    subst e9
    exact J_zret C (Or.inl rfl) E (Or.inl rfl) dX12_mayStand_23
  · refine J_aload_n C 0 dX12_mayStand_8 rfl 0 rfl ?_
    refine J_iload_n C 2 dX12_mayStand_9 rfl 2 rfl ?_
    refine J_aload_n C 0 dX12_mayStand_10 rfl 0 rfl ?_
    refine J_getR C fl_RX12_49 oR_0 rfl dX12_mayStand_11 ?_
    refine J_iload_n C 1 dX12_mayStand_14 rfl 1 rfl ?_
    refine J_iald C aR_14 hσ dX12_mayStand_15 h (fun v3 hv4 h => ?_)
    obtain ⟨q5, cq5, h⟩ := bdS h
    refine J_callV C mw_X12_mayHold ml_RX12_193 (m_X12_mayHold x.2.1 g (CxI C) x2 h2 v3 hv4 σ hσ q5 cq5) oR_0 rfl (Nat.le_of_ble_eq_true rfl) (Nat.le_of_ble_eq_true rfl) rfl rfl (Nat.le_of_ble_eq_true rfl) dX12_mayStand_16 (fun hz6 => ?_)
    refine J_if_ne C (rg01 hz6) (tgt := 24) dX12_mayStand_19 (by decide) h (fun h c41 => ?_) (fun h c41 => ?_)
    · refine J_iconst C dX12_mayStand_22 ?_
      have e9 := sE h
      subst e9
      exact J_zret C (Or.inl rfl) E (Or.inl rfl) dX12_mayStand_23
    · refine J_iconst C dX12_mayStand_24 ?_
      refine J_istore (lo2 := [(4, vi 0), (0, .ref (gad g 0)), (1, vi x1), (2, vi x2), (3, vi x3)]) C 4 dX12_mayStand_25 (by decide) rfl ?_
      obtain ⟨q17, cq17, h⟩ := bdS h
      refine J_sub [1, 2, 3, 4, 0] rfl (wX12_mayStand_L27 C fu x1 h1 x2 h2 x3 h3 0 rl_0 σ hσ q17 cq17 (fun a18 ea18 => ?_) (fun a19 ea19 => ?_))
      · subst ea18
        have h := elL h
        refine J_iconst C dX12_mayStand_55 ?_
        have e9 := sE h
        subst e9
        exact J_zret C (Or.inl rfl) E (Or.inl rfl) dX12_mayStand_56
      · subst ea19
        have h := elR h
        refine J_iconst C dX12_mayStand_63 ?_
        refine J_istore (lo2 := [(4, vi 0), (0, .ref (gad g 0)), (1, vi x1), (2, vi x2)]) C 4 dX12_mayStand_64 (by decide) rfl ?_
        obtain ⟨q38, cq38, h⟩ := bdS h
        refine J_sub [1, 2, 3, 0] rfl (wX12_mayStand_L66 C fu x1 h1 x2 h2 0 rl_0 σ hσ q38 cq38 (fun a39 ea39 => ?_) (fun a40 ea40 => ?_))
        · subst ea39
          have h := elL h
          refine J_iconst C dX12_mayStand_108 ?_
          have e9 := sE h
          subst e9
          exact J_zret C (Or.inl rfl) E (Or.inl rfl) dX12_mayStand_109
        · subst ea40
          have h := elR h
          refine J_iconst C dX12_mayStand_116 ?_
          have e9 := sE h
          subst e9
          exact J_zret C (Or.inr rfl) E (Or.inr rfl) dX12_mayStand_117
set_option maxRecDepth 100000 in
set_option maxHeartbeats 4000000 in
theorem wX12_findFits_L12 {x : Ct} {g : Gm} (C : Cx x yR g 4 cX12_findFits RX12 3 82) : ∀ (n : Nat) (x1 : Int) (h1 : rg x1) (x2 : Int) (h2 : rg x2) (x3 : Int) (h3 : rg x3) (σ : Sg) (hσ : wfS yR σ) (q : Sg) (h : fX12_findFits_L12 n x1 x2 x3 σ = some q) (k : wfS yR q → J x yR g 4 47 [(0, .ref (gad g 0)), (1, vi x1), (2, vi x2)] [] q), J x yR g 4 12 [(0, .ref (gad g 0)), (1, vi x1), (2, vi x2), (3, vi x3)] [] σ := by
  intro n
  induction n with
  | zero =>
    intro x1 h1 x2 h2 x3 h3 σ hσ q h k
    exact absurd h (by intro z; cases z)
  | succ n ih =>
    intro x1 h1 x2 h2 x3 h3 σ hσ q h k
    rw [fX12_findFits_L12] at h
    refine J_iload_n C 3 dX12_findFits_12 rfl 3 rfl ?_
    refine J_bipush C dX12_findFits_13 (bp8 (by decide) (by decide)) ?_
    refine J_icmp_ge C h3 rl_6 (tgt := 47) dX12_findFits_15 (by decide) h (fun h c13 => ?_) (fun h c13 => ?_)
    · refine J_aload_n C 0 dX12_findFits_18 rfl 0 rfl ?_
      refine J_getR C fl_RX12_122 oR_0 rfl dX12_findFits_19 ?_
      refine J_bipush C dX12_findFits_22 (bp8 (by decide) (by decide)) ?_
      refine J_iload_n C 2 dX12_findFits_24 rfl 2 rfl ?_
      refine J_imul C dX12_findFits_25 h (fun v1 hv2 h => ?_)
      refine J_iload_n C 3 dX12_findFits_26 rfl 3 rfl ?_
      refine J_iadd C dX12_findFits_27 h (fun v3 hv4 h => ?_)
      refine J_aload_n C 0 dX12_findFits_28 rfl 0 rfl ?_
      refine J_aload_n C 0 dX12_findFits_29 rfl 0 rfl ?_
      refine J_getR C fl_RX12_110 oR_0 rfl dX12_findFits_30 ?_
      refine J_iload_n C 2 dX12_findFits_33 rfl 2 rfl ?_
      refine J_iald C aR_34 hσ dX12_findFits_34 h (fun v5 hv6 h => ?_)
      refine J_iload_n C 3 dX12_findFits_35 rfl 3 rfl ?_
      refine J_iload_n C 1 dX12_findFits_36 rfl 1 rfl ?_
      obtain ⟨q7, cq7, h⟩ := bdS h
      refine J_callV C mw_X12_mayStand ml_RX12_257 (m_X12_mayStand x.2.1 g (CxI C) v5 hv6 x3 h3 x1 h1 σ hσ q7 cq7) oR_0 rfl (Nat.le_of_ble_eq_true rfl) (Nat.le_of_ble_eq_true rfl) rfl rfl (Nat.le_of_ble_eq_true rfl) dX12_findFits_37 (fun hz8 => ?_)
      refine J_zast C aR_38 hσ dX12_findFits_40 h (fun σ9 hσ10 h => ?_)
      refine J_iinc C 3 3 dX12_findFits_41 rfl (by decide) h (fun v11 hv12 h => ?_)
      refine J_goto C (tgt := 12) dX12_findFits_44 (by decide) ?_
      exact J_sub [1, 2, 3, 0] rfl (ih x1 h1 x2 h2 v11 hv12 σ9 hσ10 q h k)
    · have e9 := sE h
      subst e9
      exact J_sub [0, 1, 2] rfl (k hσ)
set_option maxRecDepth 100000 in
set_option maxHeartbeats 4000000 in
theorem wX12_findFits_L2 {x : Ct} {g : Gm} (C : Cx x yR g 4 cX12_findFits RX12 3 82) : ∀ (n : Nat) (x1 : Int) (h1 : rg x1) (x2 : Int) (h2 : rg x2) (σ : Sg) (hσ : wfS yR σ) (q : Sg) (h : fX12_findFits_L2 n x1 x2 σ = some q) (k : wfS yR q → J x yR g 4 53 [] [] q), J x yR g 4 2 [(0, .ref (gad g 0)), (1, vi x1), (2, vi x2)] [] σ := by
  intro n
  induction n with
  | zero =>
    intro x1 h1 x2 h2 σ hσ q h k
    exact absurd h (by intro z; cases z)
  | succ n ih =>
    intro x1 h1 x2 h2 σ hσ q h k
    rw [fX12_findFits_L2] at h
    refine J_iload_n C 2 dX12_findFits_2 rfl 2 rfl ?_
    refine J_aload_n C 0 dX12_findFits_3 rfl 0 rfl ?_
    refine J_getI C fl_RX12_251 oR_0 rfl dX12_findFits_4 ?_
    refine J_icmp_ge C h2 (hσ 0 47 lR_0) (tgt := 53) dX12_findFits_7 (by decide) h (fun h c18 => ?_) (fun h c18 => ?_)
    · refine J_iconst C dX12_findFits_10 ?_
      refine J_istore_n (lo2 := [(3, vi 0), (0, .ref (gad g 0)), (1, vi x1), (2, vi x2)]) C 3 dX12_findFits_11 rfl (by decide) rfl ?_
      obtain ⟨q14, cq14, h⟩ := bdS h
      refine J_sub [1, 2, 3, 0] rfl (wX12_findFits_L12 C fu x1 h1 x2 h2 0 rl_0 σ hσ q14 cq14 (fun hσ15 => ?_))
      refine J_iinc C 2 2 dX12_findFits_47 rfl (by decide) h (fun v16 hv17 h => ?_)
      refine J_goto C (tgt := 2) dX12_findFits_50 (by decide) ?_
      exact J_sub [1, 2, 0] rfl (ih x1 h1 v16 hv17 q14 hσ15 q h k)
    · have e9 := sE h
      subst e9
      exact J_sub [] rfl (k hσ)
set_option maxRecDepth 100000 in
set_option maxHeartbeats 4000000 in
theorem m_X12_findFits (l : Launch) (g : Gm) (hg : gInj yR g) (x1 : Int) (h1 : rg x1) (σ : Sg) (hσ : wfS yR σ) (q : Sg) (h : fX12_findFits x1 σ = some q) : CJ l yR g yX12_findFits cX12_findFits 4 none 3 82 [.ref (gad g 0), vi x1] σ none q (wfS yR q) := by
  refine CJ_of hg (by decide) rfl (Nat.le_of_ble_eq_true rfl) (lo := [(0, .ref (gad g 0)), (1, vi x1)]) rfl (fun x C E => ?_)
  unfold fX12_findFits at h
  refine J_iconst C dX12_findFits_0 ?_
  refine J_istore_n (lo2 := [(2, vi 0), (0, .ref (gad g 0)), (1, vi x1)]) C 2 dX12_findFits_1 rfl (by decide) rfl ?_
  obtain ⟨q19, cq19, h⟩ := bdS h
  refine J_sub [1, 2, 0] rfl (wX12_findFits_L2 C fu x1 h1 0 rl_0 σ hσ q19 cq19 (fun hσ20 => ?_))
  have e9 := sE h
  subst e9
  exact J_vret C E hσ20 dX12_findFits_53
set_option maxRecDepth 100000 in
set_option maxHeartbeats 4000000 in
theorem wX12_mayGet_L41 {x : Ct} {g : Gm} (C : Cx x yR g 5 cX12_mayGet RX12 1 21) : ∀ (n : Nat) (x1 : Int) (h1 : rg x1) (x2 : Int) (h2 : rg x2) (x3 : Int) (h3 : rg x3) (x4 : Int) (h4 : rg x4) (σ : Sg) (hσ : wfS yR σ) (q : (Unit) ⊕ (Unit)) (h : fX12_mayGet_L41 n x1 x2 x3 x4 σ = some q) (k0 : ∀ a : Unit, q = .inl a → J x yR g 5 85 [] [] σ) (k1 : ∀ a : Unit, q = .inr a → J x yR g 5 93 [] [] σ), J x yR g 5 41 [(0, .ref (gad g 0)), (1, vi x1), (2, vi x2), (3, vi x3), (4, vi x4)] [] σ := by
  intro n
  induction n with
  | zero =>
    intro x1 h1 x2 h2 x3 h3 x4 h4 σ hσ q h k0 k1
    exact absurd h (by intro z; cases z)
  | succ n ih =>
    intro x1 h1 x2 h2 x3 h3 x4 h4 σ hσ q h k0 k1
    rw [fX12_mayGet_L41] at h
    have pc15 : ∀ (x4 : Int) (h4 : rg x4), fX12_mayGet_L41P87 (fX12_mayGet_L41 n) x1 x2 x3 x4 σ = some q → J x yR g 5 87 [(0, .ref (gad g 0)), (1, vi x1), (2, vi x2), (3, vi x3), (4, vi x4)] [] σ := by
      intro x4 h4 h
      unfold fX12_mayGet_L41P87 at h
      refine J_iinc C 4 4 dX12_mayGet_87 rfl (by decide) h (fun v16 hv17 h => ?_)
      refine J_goto C (tgt := 41) dX12_mayGet_90 (by decide) ?_
      exact J_sub [1, 2, 3, 4, 0] rfl (ih x1 h1 x2 h2 x3 h3 v16 hv17 σ hσ q h k0 k1)
    refine J_iload C 4 dX12_mayGet_41 4 rfl ?_
    refine J_iload_n C 1 dX12_mayGet_43 rfl 1 rfl ?_
    refine J_icmp_ge C h4 h1 (tgt := 93) dX12_mayGet_44 (by decide) h (fun h c32 => ?_) (fun h c32 => ?_)
    · refine J_aload_n C 0 dX12_mayGet_47 rfl 0 rfl ?_
      refine J_getR C fl_RX12_113 oR_0 rfl dX12_mayGet_48 ?_
      refine J_iload C 4 dX12_mayGet_51 4 rfl ?_
      refine J_iald C aR_35 hσ dX12_mayGet_53 h (fun v13 hv14 h => ?_)
      refine J_iload_n C 2 dX12_mayGet_54 rfl 2 rfl ?_
      refine J_icmp_ne C hv14 h2 (tgt := 87) dX12_mayGet_55 (by decide) h (fun h c31 => ?_) (fun h c31 => ?_)
      · refine J_aload_n C 0 dX12_mayGet_58 rfl 0 rfl ?_
        refine J_aload_n C 0 dX12_mayGet_59 rfl 0 rfl ?_
        refine J_getR C fl_RX12_110 oR_0 rfl dX12_mayGet_60 ?_
        refine J_iload C 4 dX12_mayGet_63 4 rfl ?_
        refine J_iald C aR_34 hσ dX12_mayGet_65 h (fun v20 hv21 h => ?_)
        obtain ⟨q22, cq22, h⟩ := bdS h
        refine J_callV C mw_X12_fire ml_RX12_254 (m_X12_fire x.2.1 g (CxI C) v20 hv21 σ hσ q22 cq22) oR_0 rfl (Nat.le_of_ble_eq_true rfl) (Nat.le_of_ble_eq_true rfl) rfl rfl (Nat.le_of_ble_eq_true rfl) dX12_mayGet_66 (fun hz23 => ?_)
        refine J_aload_n C 0 dX12_mayGet_69 rfl 0 rfl ?_
        refine J_iload_n C 3 dX12_mayGet_70 rfl 3 rfl ?_
        obtain ⟨q24, cq24, h⟩ := bdS h
        refine J_callV C mw_X12_fire ml_RX12_254 (m_X12_fire x.2.1 g (CxI C) x3 h3 σ hσ q24 cq24) oR_0 rfl (Nat.le_of_ble_eq_true rfl) (Nat.le_of_ble_eq_true rfl) rfl rfl (Nat.le_of_ble_eq_true rfl) dX12_mayGet_71 (fun hz25 => ?_)
        refine J_isub C dX12_mayGet_74 h (fun v26 hv27 h => ?_)
        obtain ⟨q28, cq28, h⟩ := bdS h
        refine J_callS C mw_X12_amount ml_RX12_182 (m_X12_amount x.2.1 g (CxI C) v26 hv27 σ hσ q28 cq28) (Nat.le_of_ble_eq_true rfl) (Nat.le_of_ble_eq_true rfl) rfl rfl (Nat.le_of_ble_eq_true rfl) dX12_mayGet_75 (fun hz29 => ?_)
        refine J_aload_n C 0 dX12_mayGet_78 rfl 0 rfl ?_
        refine J_getI C fl_RX12_174 oR_0 rfl dX12_mayGet_79 ?_
        refine J_icmp_ge C hz29 (hσ 0 31 lR_0) (tgt := 87) dX12_mayGet_82 (by decide) h (fun h c30 => ?_) (fun h c30 => ?_)
        · have e9 := sE h
          exact J_sub [] rfl (k0 () e9.symm)
        · exact J_sub [0, 1, 2, 3, 4] rfl (pc15 x4 h4 h)
      · exact J_sub [0, 1, 2, 3, 4] rfl (pc15 x4 h4 h)
    · have e9 := sE h
      exact J_sub [] rfl (k1 () e9.symm)
set_option maxRecDepth 100000 in
set_option maxHeartbeats 4000000 in
theorem m_X12_mayGet (l : Launch) (g : Gm) (hg : gInj yR g) (x1 : Int) (h1 : rg x1) (x2 : Int) (h2 : rg x2) (σ : Sg) (hσ : wfS yR σ) (q : Int) (h : fX12_mayGet x1 x2 σ = some q) : CJ l yR g yX12_mayGet cX12_mayGet 5 (some .boolean) 1 21 [.ref (gad g 0), vi x1, vi x2] σ (some (vi q)) σ (q = 0 ∨ q = 1) := by
  refine CJ_of hg (by decide) rfl (Nat.le_of_ble_eq_true rfl) (lo := [(0, .ref (gad g 0)), (1, vi x1), (2, vi x2)]) rfl (fun x C E => ?_)
  unfold fX12_mayGet at h
  refine J_aload_n C 0 dX12_mayGet_0 rfl 0 rfl ?_
  refine J_getR C fl_RX12_110 oR_0 rfl dX12_mayGet_1 ?_
  refine J_iload_n C 1 dX12_mayGet_4 rfl 1 rfl ?_
  refine J_iald C aR_34 hσ dX12_mayGet_5 h (fun v1 hv2 h => ?_)
  refine J_istore_n (lo2 := [(3, vi v1), (0, .ref (gad g 0)), (1, vi x1), (2, vi x2)]) C 3 dX12_mayGet_6 rfl (by decide) rfl ?_
  refine J_aload_n C 0 dX12_mayGet_7 rfl 1 rfl ?_
  refine J_getR C fl_RX12_119 oR_0 rfl dX12_mayGet_8 ?_
  refine J_iload_n C 2 dX12_mayGet_11 rfl 3 rfl ?_
  refine J_iald C aR_37 hσ dX12_mayGet_12 h (fun v3 hv4 h => ?_)
  refine J_aload_n C 0 dX12_mayGet_13 rfl 1 rfl ?_
  refine J_getR C fl_RX12_37 oR_0 rfl dX12_mayGet_14 ?_
  refine J_iload_n C 2 dX12_mayGet_17 rfl 3 rfl ?_
  refine J_iald C aR_10 hσ dX12_mayGet_18 h (fun v5 hv6 h => ?_)
  refine J_icmp_ge C hv4 hv6 (tgt := 36) dX12_mayGet_19 (by decide) h (fun h c37 => ?_) (fun h c37 => ?_)
  · refine J_aload_n C 0 dX12_mayGet_22 rfl 1 rfl ?_
    refine J_getR C fl_RX12_122 oR_0 rfl dX12_mayGet_23 ?_
    refine J_bipush C dX12_mayGet_26 (bp8 (by decide) (by decide)) ?_
    refine J_iload_n C 1 dX12_mayGet_28 rfl 2 rfl ?_
    refine J_imul C dX12_mayGet_29 h (fun v7 hv8 h => ?_)
    refine J_iload_n C 2 dX12_mayGet_30 rfl 3 rfl ?_
    refine J_iadd C dX12_mayGet_31 h (fun v9 hv10 h => ?_)
    refine J_zald C aR_38 hσ dX12_mayGet_32 h (fun v11 hv12 h => ?_)
    refine J_if_ne C hv12 (tgt := 38) dX12_mayGet_33 (by decide) h (fun h c36 => ?_) (fun h c36 => ?_)
    · refine J_iconst C dX12_mayGet_36 ?_
      have e9 := sE h
      subst e9
      exact J_zret C (Or.inl rfl) E (Or.inl rfl) dX12_mayGet_37
    · refine J_iconst C dX12_mayGet_38 ?_
      refine J_istore (lo2 := [(4, vi 0), (3, vi v1), (0, .ref (gad g 0)), (1, vi x1), (2, vi x2)]) C 4 dX12_mayGet_39 (by decide) rfl ?_
      obtain ⟨q33, cq33, h⟩ := bdS h
      refine J_sub [2, 3, 4, 1, 0] rfl (wX12_mayGet_L41 C fu x1 h1 x2 h2 v1 hv2 0 rl_0 σ hσ q33 cq33 (fun a34 ea34 => ?_) (fun a35 ea35 => ?_))
      · subst ea34
        have h := elL h
        refine J_iconst C dX12_mayGet_85 ?_
        have e9 := sE h
        subst e9
        exact J_zret C (Or.inl rfl) E (Or.inl rfl) dX12_mayGet_86
      · subst ea35
        have h := elR h
        refine J_iconst C dX12_mayGet_93 ?_
        have e9 := sE h
        subst e9
        exact J_zret C (Or.inr rfl) E (Or.inr rfl) dX12_mayGet_94
  · refine J_iconst C dX12_mayGet_36 ?_
    have e9 := sE h
    subst e9
    exact J_zret C (Or.inl rfl) E (Or.inl rfl) dX12_mayGet_37
set_option maxRecDepth 100000 in
set_option maxHeartbeats 4000000 in
theorem wX12_greatest_L4 {x : Ct} {g : Gm} (C : Cx x yR g 3 cX12_greatest RX12 0 0) : ∀ (n : Nat) (x1 : Int) (h1 : rg x1) (x2 : Int) (h2 : rg x2) (σ : Sg) (hσ : wfS yR σ) (q : Int) (h : fX12_greatest_L4 n x1 x2 σ = some q) (k : rg q → J x yR g 3 37 [(1, vi q)] [] σ), J x yR g 3 4 [(0, .ref (gad g 0)), (1, vi x1), (2, vi x2)] [] σ := by
  intro n
  induction n with
  | zero =>
    intro x1 h1 x2 h2 σ hσ q h k
    exact absurd h (by intro z; cases z)
  | succ n ih =>
    intro x1 h1 x2 h2 σ hσ q h k
    rw [fX12_greatest_L4] at h
    have pc3 : ∀ (x2 : Int) (h2 : rg x2) (y0 : Int) (g0 : rg y0), fX12_greatest_L4P30 (fX12_greatest_L4 n) x2 y0 σ = some q → J x yR g 3 30 [(0, .ref (gad g 0)), (2, vi x2)] [vi y0] σ := by
      intro x2 h2 y0 g0 h
      unfold fX12_greatest_L4P30 at h
      refine J_istore_n (lo2 := [(1, vi y0), (0, .ref (gad g 0)), (2, vi x2)]) C 1 dX12_greatest_30 rfl (by decide) rfl ?_
      refine J_iinc C 2 2 dX12_greatest_31 rfl (by decide) h (fun v4 hv5 h => ?_)
      refine J_goto C (tgt := 4) dX12_greatest_34 (by decide) ?_
      exact J_sub [2, 1, 0] rfl (ih y0 g0 v4 hv5 σ hσ q h k)
    refine J_iload_n C 2 dX12_greatest_4 rfl 2 rfl ?_
    refine J_bipush C dX12_greatest_5 (bp8 (by decide) (by decide)) ?_
    refine J_icmp_ge C h2 rl_6 (tgt := 37) dX12_greatest_7 (by decide) h (fun h c11 => ?_) (fun h c11 => ?_)
    · refine J_aload_n C 0 dX12_greatest_10 rfl 0 rfl ?_
      refine J_getR C fl_RX12_119 oR_0 rfl dX12_greatest_11 ?_
      refine J_iload_n C 2 dX12_greatest_14 rfl 2 rfl ?_
      refine J_iald C aR_37 hσ dX12_greatest_15 h (fun v1 hv2 h => ?_)
      refine J_iload_n C 1 dX12_greatest_16 rfl 1 rfl ?_
      refine J_icmp_le C hv2 h1 (tgt := 29) dX12_greatest_17 (by decide) h (fun h c10 => ?_) (fun h c10 => ?_)
      · refine J_iload_n C 1 dX12_greatest_29 rfl 1 rfl ?_
        exact J_sub [0, 2] rfl (pc3 x2 h2 x1 h1 h)
      · refine J_aload_n C 0 dX12_greatest_20 rfl 0 rfl ?_
        refine J_getR C fl_RX12_119 oR_0 rfl dX12_greatest_21 ?_
        refine J_iload_n C 2 dX12_greatest_24 rfl 2 rfl ?_
        refine J_iald C aR_37 hσ dX12_greatest_25 h (fun v8 hv9 h => ?_)
        refine J_goto C (tgt := 30) dX12_greatest_26 (by decide) ?_
        exact J_sub [0, 2] rfl (pc3 x2 h2 v8 hv9 h)
    · have e9 := sE h
      subst e9
      exact J_sub [1] rfl (k h1)
set_option maxRecDepth 100000 in
set_option maxHeartbeats 4000000 in
theorem m_X12_greatest (l : Launch) (g : Gm) (hg : gInj yR g)  (σ : Sg) (hσ : wfS yR σ) (q : Int) (h : fX12_greatest  σ = some q) : CJ l yR g yX12_greatest cX12_greatest 3 (some .int) 0 0 [.ref (gad g 0)] σ (some (vi q)) σ (rg q) := by
  refine CJ_of hg (by decide) rfl (Nat.le_of_ble_eq_true rfl) (lo := [(0, .ref (gad g 0))]) rfl (fun x C E => ?_)
  unfold fX12_greatest at h
  refine J_iconst C dX12_greatest_0 ?_
  refine J_istore_n (lo2 := [(1, vi 0), (0, .ref (gad g 0))]) C 1 dX12_greatest_1 rfl (by decide) rfl ?_
  refine J_iconst C dX12_greatest_2 ?_
  refine J_istore_n (lo2 := [(2, vi 0), (1, vi 0), (0, .ref (gad g 0))]) C 2 dX12_greatest_3 rfl (by decide) rfl ?_
  obtain ⟨q12, cq12, h⟩ := bdS h
  refine J_sub [2, 1, 0] rfl (wX12_greatest_L4 C fu 0 rl_0 0 rl_0 σ hσ q12 cq12 (fun hr13 => ?_))
  refine J_iload_n C 1 dX12_greatest_37 rfl 0 rfl ?_
  have e9 := sE h
  subst e9
  exact J_iret C E hr13 dX12_greatest_38
set_option maxRecDepth 100000 in
set_option maxHeartbeats 4000000 in
theorem wX12_lays_L63 {x : Ct} {g : Gm} (d : Nat) (C : Cx x yR g 3 cX12_lays RX12 (2 + (d + 1)) (45 + 22 * (d + 1))) (slf : Int → Sg → Option (Sg)) (hslf : ∀ (x1 : Int) (h1 : rg x1) (σ : Sg) (hσ : wfS yR σ) (q : Sg) (h : slf x1 σ = some q), CJ x.2.1 yR g yX12_lays cX12_lays 3 none (2 + d) (45 + 22 * d) [.ref (gad g 0), vi x1] σ none q (wfS yR q)) : ∀ (n : Nat) (x1 : Int) (h1 : rg x1) (x2 : Int) (h2 : rg x2) (σ : Sg) (hσ : wfS yR σ) (q : Sg) (h : fX12_lays_L63 slf n x1 x2 σ = some q) (k : wfS yR q → J x yR g 3 121 [] [] q), J x yR g 3 63 [(0, .ref (gad g 0)), (1, vi x1), (2, vi x2)] [] σ := by
  intro n
  induction n with
  | zero =>
    intro x1 h1 x2 h2 σ hσ q h k
    exact absurd h (by intro z; cases z)
  | succ n ih =>
    intro x1 h1 x2 h2 σ hσ q h k
    rw [fX12_lays_L63] at h
    have pc22 : ∀ (x2 : Int) (h2 : rg x2) (σ : Sg) (hσ : wfS yR σ), fX12_lays_L63P115 slf (fX12_lays_L63 slf n) x1 x2 σ = some q → J x yR g 3 115 [(0, .ref (gad g 0)), (1, vi x1), (2, vi x2)] [] σ := by
      intro x2 h2 σ hσ h
      unfold fX12_lays_L63P115 at h
      refine J_iinc C 2 2 dX12_lays_115 rfl (by decide) h (fun v23 hv24 h => ?_)
      refine J_goto C (tgt := 63) dX12_lays_118 (by decide) ?_
      exact J_sub [1, 2, 0] rfl (ih x1 h1 v23 hv24 σ hσ q h k)
    refine J_iload_n C 2 dX12_lays_63 rfl 2 rfl ?_
    refine J_bipush C dX12_lays_64 (bp8 (by decide) (by decide)) ?_
    refine J_icmp_ge C h2 rl_6 (tgt := 121) dX12_lays_66 (by decide) h (fun h c28 => ?_) (fun h c28 => ?_)
    · refine J_aload_n C 0 dX12_lays_69 rfl 0 rfl ?_
      refine J_iload_n C 1 dX12_lays_70 rfl 1 rfl ?_
      refine J_iload_n C 2 dX12_lays_71 rfl 2 rfl ?_
      obtain ⟨q2, cq2, h⟩ := bdS h
      refine J_callV C mw_X12_mayGet ml_RX12_266 (m_X12_mayGet x.2.1 g (CxI C) x1 h1 x2 h2 σ hσ q2 cq2) oR_0 rfl (by omega) (by omega) rfl rfl (Nat.le_of_ble_eq_true rfl) dX12_lays_72 (fun hz3 => ?_)
      refine J_if_ne C (rg01 hz3) (tgt := 81) dX12_lays_75 (by decide) h (fun h c27 => ?_) (fun h c27 => ?_)
      · refine J_goto C (tgt := 115) dX12_lays_78 (by decide) ?_
        exact J_sub [0, 1, 2] rfl (pc22 x2 h2 σ hσ h)
      · refine J_aload_n C 0 dX12_lays_81 rfl 0 rfl ?_
        refine J_getR C fl_RX12_113 oR_0 rfl dX12_lays_82 ?_
        refine J_iload_n C 1 dX12_lays_85 rfl 1 rfl ?_
        refine J_iload_n C 2 dX12_lays_86 rfl 2 rfl ?_
        refine J_iast C aR_35 hσ h2 dX12_lays_87 h (fun σ4 hσ5 h => ?_)
        refine J_aload_n C 0 dX12_lays_88 rfl 0 rfl ?_
        refine J_getR C fl_RX12_119 oR_0 rfl dX12_lays_89 ?_
        refine J_iload_n C 2 dX12_lays_92 rfl 2 rfl ?_
        refine J_dup2 C rfl rfl dX12_lays_93 ?_
        refine J_iald C aR_37 hσ5 dX12_lays_94 h (fun v6 hv7 h => ?_)
        refine J_iconst C dX12_lays_95 ?_
        refine J_iadd C dX12_lays_96 h (fun v8 hv9 h => ?_)
        refine J_iast C aR_37 hσ5 hv9 dX12_lays_97 h (fun σ10 hσ11 h => ?_)
        refine J_aload_n C 0 dX12_lays_98 rfl 0 rfl ?_
        refine J_iload_n C 1 dX12_lays_99 rfl 1 rfl ?_
        refine J_iconst C dX12_lays_100 ?_
        refine J_iadd C dX12_lays_101 h (fun v12 hv13 h => ?_)
        obtain ⟨q14, cq14, h⟩ := bdS h
        refine J_callV C mw_X12_lays ml_RX12_269 (hslf v12 hv13 σ10 hσ11 q14 cq14) oR_0 rfl (by omega) (by omega) rfl rfl (Nat.le_of_ble_eq_true rfl) dX12_lays_102 (fun hz15 => ?_)
        refine J_aload_n C 0 dX12_lays_105 rfl 0 rfl ?_
        refine J_getR C fl_RX12_119 oR_0 rfl dX12_lays_106 ?_
        refine J_iload_n C 2 dX12_lays_109 rfl 2 rfl ?_
        refine J_dup2 C rfl rfl dX12_lays_110 ?_
        refine J_iald C aR_37 hz15 dX12_lays_111 h (fun v16 hv17 h => ?_)
        refine J_iconst C dX12_lays_112 ?_
        refine J_isub C dX12_lays_113 h (fun v18 hv19 h => ?_)
        refine J_iast C aR_37 hz15 hv19 dX12_lays_114 h (fun σ20 hσ21 h => ?_)
        exact J_sub [0, 1, 2] rfl (pc22 x2 h2 σ20 hσ21 h)
    · have e9 := sE h
      subst e9
      exact J_sub [] rfl (k hσ)
set_option maxRecDepth 100000 in
set_option maxHeartbeats 4000000 in
theorem wX12_lays_L37 {x : Ct} {g : Gm} (d : Nat) (C : Cx x yR g 3 cX12_lays RX12 (2 + (d + 1)) (45 + 22 * (d + 1))) (slf : Int → Sg → Option (Sg)) (hslf : ∀ (x1 : Int) (h1 : rg x1) (σ : Sg) (hσ : wfS yR σ) (q : Sg) (h : slf x1 σ = some q), CJ x.2.1 yR g yX12_lays cX12_lays 3 none (2 + d) (45 + 22 * d) [.ref (gad g 0), vi x1] σ none q (wfS yR q)) : ∀ (n : Nat) (x1 : Int) (h1 : rg x1) (x2 : Int) (h2 : rg x2) (σ : Sg) (hσ : wfS yR σ) (q : Sg) (h : fX12_lays_L37 slf n x1 x2 σ = some q) (k : wfS yR q → J x yR g 3 60 [] [] q), J x yR g 3 37 [(0, .ref (gad g 0)), (1, vi x1), (2, vi x2)] [] σ := by
  intro n
  induction n with
  | zero =>
    intro x1 h1 x2 h2 σ hσ q h k
    exact absurd h (by intro z; cases z)
  | succ n ih =>
    intro x1 h1 x2 h2 σ hσ q h k
    rw [fX12_lays_L37] at h
    refine J_iload_n C 2 dX12_lays_37 rfl 2 rfl ?_
    refine J_iload_n C 1 dX12_lays_38 rfl 1 rfl ?_
    refine J_icmp_ge C h2 h1 (tgt := 60) dX12_lays_39 (by decide) h (fun h c41 => ?_) (fun h c41 => ?_)
    · refine J_aload_n C 0 dX12_lays_42 rfl 0 rfl ?_
      refine J_getR C fl_RX12_116 oR_0 rfl dX12_lays_43 ?_
      refine J_iload_n C 2 dX12_lays_46 rfl 2 rfl ?_
      refine J_aload_n C 0 dX12_lays_47 rfl 0 rfl ?_
      refine J_getR C fl_RX12_113 oR_0 rfl dX12_lays_48 ?_
      refine J_iload_n C 2 dX12_lays_51 rfl 2 rfl ?_
      refine J_iald C aR_35 hσ dX12_lays_52 h (fun v35 hv36 h => ?_)
      refine J_iast C aR_36 hσ hv36 dX12_lays_53 h (fun σ37 hσ38 h => ?_)
      refine J_iinc C 2 2 dX12_lays_54 rfl (by decide) h (fun v39 hv40 h => ?_)
      refine J_goto C (tgt := 37) dX12_lays_57 (by decide) ?_
      exact J_sub [1, 2, 0] rfl (ih x1 h1 v39 hv40 σ37 hσ38 q h k)
    · have e9 := sE h
      subst e9
      exact J_sub [] rfl (k hσ)
set_option maxRecDepth 100000 in
set_option maxHeartbeats 4000000 in
theorem m_X12_lays (l : Launch) (g : Gm) (hg : gInj yR g) : ∀ (d : Nat) (x1 : Int) (h1 : rg x1) (σ : Sg) (hσ : wfS yR σ) (q : Sg) (h : fX12_lays d x1 σ = some q), CJ l yR g yX12_lays cX12_lays 3 none (2 + d) (45 + 22 * d) [.ref (gad g 0), vi x1] σ none q (wfS yR q) := by
  intro d
  induction d with
  | zero =>
    intro x1 h1 σ hσ q h
    exact absurd h (by intro z; cases z)
  | succ d ih =>
    intro x1 h1 σ hσ q h
    rw [fX12_lays] at h
    refine CJ_ofL hg (by decide) rfl (Nat.le_of_ble_eq_true rfl) (lo := [(0, .ref (gad g 0)), (1, vi x1)]) rfl (fun x C E hxl => ?_)
    subst hxl
    have pc1 : ∀  (σ : Sg) (hσ : wfS yR σ), fX12_lays_P19 (fX12_lays d) x1 σ = some q → J x yR g 3 19 [(0, .ref (gad g 0)), (1, vi x1)] [] σ := by
      intro  σ hσ h
      unfold fX12_lays_P19 at h
      refine J_iload_n C 1 dX12_lays_19 rfl 1 rfl ?_
      refine J_aload_n C 0 dX12_lays_20 rfl 0 rfl ?_
      refine J_getI C fl_RX12_251 oR_0 rfl dX12_lays_21 ?_
      refine J_icmp_ne C h1 (hσ 0 47 lR_0) (tgt := 61) dX12_lays_24 (by decide) h (fun h c44 => ?_) (fun h c44 => ?_)
      · refine J_aload_n C 0 dX12_lays_27 rfl 0 rfl ?_
        refine J_aload_n C 0 dX12_lays_28 rfl 0 rfl ?_
        obtain ⟨q31, cq31, h⟩ := bdS h
        refine J_callV C mw_X12_greatest ml_RX12_263 (m_X12_greatest x.2.1 g (CxI C) σ hσ q31 cq31) oR_0 rfl (by omega) (by omega) rfl rfl (Nat.le_of_ble_eq_true rfl) dX12_lays_29 (fun hz32 => ?_)
        refine J_putI C fl_RX12_260 fp_RX12_48 oR_0 rfl rfl lR_0 hσ hz32 dX12_lays_32 h (fun σ33 hσ34 h => ?_)
        refine J_iconst C dX12_lays_35 ?_
        refine J_istore_n (lo2 := [(2, vi 0), (0, .ref (gad g 0)), (1, vi x1)]) C 2 dX12_lays_36 rfl (by decide) rfl ?_
        obtain ⟨q42, cq42, h⟩ := bdS h
        refine J_sub [1, 2, 0] rfl (wX12_lays_L37 d C (fX12_lays d) ih fu x1 h1 0 rl_0 σ33 hσ34 q42 cq42 (fun hσ43 => ?_))
        have e9 := sE h
        subst e9
        exact J_vret C E hσ43 dX12_lays_60
      · refine J_iconst C dX12_lays_61 ?_
        refine J_istore_n (lo2 := [(2, vi 0), (0, .ref (gad g 0)), (1, vi x1)]) C 2 dX12_lays_62 rfl (by decide) rfl ?_
        obtain ⟨q29, cq29, h⟩ := bdS h
        refine J_sub [1, 2, 0] rfl (wX12_lays_L63 d C (fX12_lays d) ih fu x1 h1 0 rl_0 σ hσ q29 cq29 (fun hσ30 => ?_))
        have e9 := sE h
        subst e9
        exact J_vret C E hσ30 dX12_lays_121
    refine J_aload_n C 0 dX12_lays_0 rfl 0 rfl ?_
    refine J_getI C fl_RX12_260 oR_0 rfl dX12_lays_1 ?_
    refine J_if_lt C (hσ 0 48 lR_0) (tgt := 19) dX12_lays_4 (by decide) h (fun h c57 => ?_) (fun h c57 => ?_)
    · exact J_sub [0, 1] rfl (pc1 σ hσ h)
    · refine J_aload_n C 0 dX12_lays_7 rfl 0 rfl ?_
      obtain ⟨q54, cq54, h⟩ := bdS h
      refine J_callV C mw_X12_greatest ml_RX12_263 (m_X12_greatest x.2.1 g (CxI C) σ hσ q54 cq54) oR_0 rfl (by omega) (by omega) rfl rfl (Nat.le_of_ble_eq_true rfl) dX12_lays_8 (fun hz55 => ?_)
      refine J_aload_n C 0 dX12_lays_11 rfl 0 rfl ?_
      refine J_getI C fl_RX12_260 oR_0 rfl dX12_lays_12 ?_
      refine J_icmp_lt C hz55 (hσ 0 48 lR_0) (tgt := 19) dX12_lays_15 (by decide) h (fun h c56 => ?_) (fun h c56 => ?_)
      · exact J_sub [0, 1] rfl (pc1 σ hσ h)
      · have e9 := sE h
        subst e9
        exact J_vret C E hσ dX12_lays_18
set_option maxRecDepth 100000 in
set_option maxHeartbeats 4000000 in
theorem wX12_lay_L59 {x : Ct} {g : Gm} (C : Cx x yR g 3 cX12_lay RX12 13 287) : ∀ (n : Nat) (x2 : Int) (h2 : rg x2) (σ : Sg) (hσ : wfS yR σ) (q : Sg) (h : fX12_lay_L59 n x2 σ = some q) (k : wfS yR q → J x yR g 3 90 [(0, .ref (gad g 0))] [] q), J x yR g 3 59 [(0, .ref (gad g 0)), (2, vi x2)] [] σ := by
  intro n
  induction n with
  | zero =>
    intro x2 h2 σ hσ q h k
    exact absurd h (by intro z; cases z)
  | succ n ih =>
    intro x2 h2 σ hσ q h k
    rw [fX12_lay_L59] at h
    refine J_iload_n C 2 dX12_lay_59 rfl 1 rfl ?_
    refine J_aload_n C 0 dX12_lay_60 rfl 0 rfl ?_
    refine J_getI C fl_RX12_251 oR_0 rfl dX12_lay_61 ?_
    refine J_icmp_ge C h2 (hσ 0 47 lR_0) (tgt := 90) dX12_lay_64 (by decide) h (fun h c21 => ?_) (fun h c21 => ?_)
    · refine J_aload_n C 0 dX12_lay_67 rfl 0 rfl ?_
      refine J_getR C fl_RX12_52 oR_0 rfl dX12_lay_68 ?_
      refine J_aload_n C 0 dX12_lay_71 rfl 0 rfl ?_
      refine J_getR C fl_RX12_110 oR_0 rfl dX12_lay_72 ?_
      refine J_iload_n C 2 dX12_lay_75 rfl 1 rfl ?_
      refine J_iald C aR_34 hσ dX12_lay_76 h (fun v13 hv14 h => ?_)
      refine J_aload_n C 0 dX12_lay_77 rfl 0 rfl ?_
      refine J_getR C fl_RX12_116 oR_0 rfl dX12_lay_78 ?_
      refine J_iload_n C 2 dX12_lay_81 rfl 1 rfl ?_
      refine J_iald C aR_36 hσ dX12_lay_82 h (fun v15 hv16 h => ?_)
      refine J_iast C aR_15 hσ hv16 dX12_lay_83 h (fun σ17 hσ18 h => ?_)
      refine J_iinc C 2 1 dX12_lay_84 rfl (by decide) h (fun v19 hv20 h => ?_)
      refine J_goto C (tgt := 59) dX12_lay_87 (by decide) ?_
      exact J_sub [1, 0] rfl (ih v19 hv20 σ17 hσ18 q h k)
    · have e9 := sE h
      subst e9
      exact J_sub [0] rfl (k hσ)
set_option maxRecDepth 100000 in
set_option maxHeartbeats 4000000 in
theorem m_X12_lay (l : Launch) (g : Gm) (hg : gInj yR g) (x1 : Int) (h1 : rg x1) (σ : Sg) (hσ : wfS yR σ) (q : Int × Sg) (h : fX12_lay x1 σ = some q) : CJ l yR g yX12_lay cX12_lay 3 (some .int) 13 287 [.ref (gad g 0), vi x1] σ (some (vi q.1)) q.2 ((rg q.1) ∧ wfS yR q.2) := by
  refine CJ_of hg (by decide) rfl (Nat.le_of_ble_eq_true rfl) (lo := [(0, .ref (gad g 0)), (1, vi x1)]) rfl (fun x C E => ?_)
  unfold fX12_lay at h
  refine J_aload_n C 0 dX12_lay_0 rfl 0 rfl ?_
  refine J_iconst C dX12_lay_1 ?_
  refine J_putZ C fl_RX12_155 fp_RX12_54 oR_0 rfl rfl lR_0 hσ (Or.inl rfl) dX12_lay_2 h (fun σ1 hσ2 h => ?_)
  refine J_iload_n C 1 dX12_lay_5 rfl 1 rfl ?_
  refine J_iconst C dX12_lay_6 ?_
  refine J_iconst C dX12_lay_7 ?_
  obtain ⟨q3, cq3, h⟩ := bdS h
  refine J_callS C mw_X12_isIn ml_RX12_177 (m_X12_isIn x.2.1 g (CxI C) x1 h1 0 rl_0 4 rl_4 σ1 hσ2 q3 cq3) (Nat.le_of_ble_eq_true rfl) (Nat.le_of_ble_eq_true rfl) rfl rfl (Nat.le_of_ble_eq_true rfl) dX12_lay_8 (fun hz4 => ?_)
  refine J_if_ne C (rg01 hz4) (tgt := 16) dX12_lay_11 (by decide) h (fun h c26 => ?_) (fun h c26 => ?_)
  · refine J_iconst C dX12_lay_14 ?_
    have e9 := sE h
    subst e9
    exact J_iret C E ⟨rl_m1, hσ2⟩ dX12_lay_15
  · refine J_aload_n C 0 dX12_lay_16 rfl 0 rfl ?_
    obtain ⟨q5, cq5, h⟩ := bdS h
    refine J_callV C mw_X12_gathers ml_RX12_272 (m_X12_gathers x.2.1 g (CxI C) σ1 hσ2 q5 cq5) oR_0 rfl (Nat.le_of_ble_eq_true rfl) (Nat.le_of_ble_eq_true rfl) rfl rfl (Nat.le_of_ble_eq_true rfl) dX12_lay_17 (fun hz6 => ?_)
    refine J_aload_n C 0 dX12_lay_20 rfl 0 rfl ?_
    refine J_getI C fl_RX12_251 oR_0 rfl dX12_lay_21 ?_
    refine J_bipush C dX12_lay_24 (bp8 (by decide) (by decide)) ?_
    refine J_icmp_le C (hz6 0 47 lR_0) rl_8 (tgt := 32) dX12_lay_26 (by decide) h (fun h c25 => ?_) (fun h c25 => ?_)
    · refine J_aload_n C 0 dX12_lay_32 rfl 0 rfl ?_
      refine J_iconst C dX12_lay_33 ?_
      refine J_putI C fl_RX12_260 fp_RX12_48 oR_0 rfl rfl lR_0 hz6 rl_m1 dX12_lay_34 h (fun σ7 hσ8 h => ?_)
      refine J_aload_n C 0 dX12_lay_37 rfl 0 rfl ?_
      refine J_iload_n C 1 dX12_lay_38 rfl 1 rfl ?_
      obtain ⟨q9, cq9, h⟩ := bdS h
      refine J_callV C mw_X12_findFits ml_RX12_275 (m_X12_findFits x.2.1 g (CxI C) x1 h1 σ7 hσ8 q9 cq9) oR_0 rfl (Nat.le_of_ble_eq_true rfl) (Nat.le_of_ble_eq_true rfl) rfl rfl (Nat.le_of_ble_eq_true rfl) dX12_lay_39 (fun hz10 => ?_)
      refine J_aload_n C 0 dX12_lay_42 rfl 0 rfl ?_
      refine J_iconst C dX12_lay_43 ?_
      obtain ⟨q11, cq11, h⟩ := bdS h
      refine J_callV C mw_X12_lays ml_RX12_269 (m_X12_lays x.2.1 g (CxI C) 10 0 rl_0 q9 hz10 q11 cq11) oR_0 rfl (Nat.le_of_ble_eq_true rfl) (Nat.le_of_ble_eq_true rfl) rfl rfl (Nat.le_of_ble_eq_true rfl) dX12_lay_44 (fun hz12 => ?_)
      refine J_aload_n C 0 dX12_lay_47 rfl 0 rfl ?_
      refine J_getI C fl_RX12_260 oR_0 rfl dX12_lay_48 ?_
      refine J_if_ge C (hz12 0 48 lR_0) (tgt := 57) dX12_lay_51 (by decide) h (fun h c24 => ?_) (fun h c24 => ?_)
      · refine J_bipush C dX12_lay_54 (bp8 (by decide) (by decide)) ?_
        have e9 := sE h
        subst e9
        exact J_iret C E ⟨rl_m3, hz12⟩ dX12_lay_56
      · refine J_iconst C dX12_lay_57 ?_
        refine J_istore_n (lo2 := [(2, vi 0), (0, .ref (gad g 0)), (1, vi x1)]) C 2 dX12_lay_58 rfl (by decide) rfl ?_
        obtain ⟨q22, cq22, h⟩ := bdS h
        refine J_sub [1, 0] rfl (wX12_lay_L59 C fu 0 rl_0 q11 hz12 q22 cq22 (fun hσ23 => ?_))
        refine J_aload_n C 0 dX12_lay_90 rfl 0 rfl ?_
        refine J_getI C fl_RX12_260 oR_0 rfl dX12_lay_91 ?_
        have e9 := sE h
        subst e9
        exact J_iret C E ⟨(hσ23 0 48 lR_0), hσ23⟩ dX12_lay_94
    · refine J_bipush C dX12_lay_29 (bp8 (by decide) (by decide)) ?_
      have e9 := sE h
      subst e9
      exact J_iret C E ⟨rl_m4, hz6⟩ dX12_lay_31
set_option maxRecDepth 100000 in
set_option maxHeartbeats 4000000 in
theorem wX12_proof_L54 {x : Ct} {g : Gm} (C : Cx x yR g 6 cX12_proof RX12 4 105) : ∀ (n : Nat) (x1 : Int) (h1 : rg x1) (x4 : Int) (h4 : rg x4) (σ : Sg) (hσ : wfS yR σ) (q : (Int × Sg) ⊕ (Sg)) (h : fX12_proof_L54 n x1 x4 σ = some q) (k0 : ∀ a : Int × Sg, q = .inl a → rg a.1 → wfS yR a.2 → J x yR g 6 103 [(4, vi a.1)] [] a.2) (k1 : ∀ a : Sg, q = .inr a → wfS yR a → J x yR g 6 135 [(0, .ref (gad g 0)), (1, vi x1)] [] a), J x yR g 6 54 [(0, .ref (gad g 0)), (1, vi x1), (4, vi x4)] [] σ := by
  intro n
  induction n with
  | zero =>
    intro x1 h1 x4 h4 σ hσ q h k0 k1
    exact absurd h (by intro z; cases z)
  | succ n ih =>
    intro x1 h1 x4 h4 σ hσ q h k0 k1
    rw [fX12_proof_L54] at h
    refine J_iload C 4 dX12_proof_54 2 rfl ?_
    refine J_aload_n C 0 dX12_proof_56 rfl 0 rfl ?_
    refine J_getI C fl_RX12_251 oR_0 rfl dX12_proof_57 ?_
    refine J_icmp_ge C h4 (hσ 0 47 lR_0) (tgt := 135) dX12_proof_60 (by decide) h (fun h c32 => ?_) (fun h c32 => ?_)
    · refine J_iload C 4 dX12_proof_63 2 rfl ?_
      refine J_aload_n C 0 dX12_proof_65 rfl 0 rfl ?_
      refine J_getR C fl_RX12_94 oR_0 rfl dX12_proof_66 ?_
      refine J_iload_n C 1 dX12_proof_69 rfl 1 rfl ?_
      refine J_iald C aR_29 hσ dX12_proof_70 h (fun v11 hv12 h => ?_)
      refine J_icmp_ge C h4 hv12 (tgt := 135) dX12_proof_71 (by decide) h (fun h c31 => ?_) (fun h c31 => ?_)
      · refine J_aload_n C 0 dX12_proof_74 rfl 0 rfl ?_
        refine J_iload_n C 1 dX12_proof_75 rfl 1 rfl ?_
        refine J_iload C 4 dX12_proof_76 2 rfl ?_
        obtain ⟨q13, cq13, h⟩ := bdS h
        refine J_callV C mw_X12_word ml_RX12_211 (m_X12_word x.2.1 g (CxI C) x1 h1 x4 h4 σ hσ q13 cq13) oR_0 rfl (Nat.le_of_ble_eq_true rfl) (Nat.le_of_ble_eq_true rfl) rfl rfl (Nat.le_of_ble_eq_true rfl) dX12_proof_78 (fun hz14 => ?_)
        refine J_istore (lo2 := [(5, vi q13), (0, .ref (gad g 0)), (1, vi x1), (4, vi x4)]) C 5 dX12_proof_81 (by decide) rfl ?_
        refine J_aload_n C 0 dX12_proof_83 rfl 1 rfl ?_
        refine J_iload C 5 dX12_proof_84 0 rfl ?_
        obtain ⟨q15, cq15, h⟩ := bdS h
        refine J_callV C mw_X12_isBarge ml_RX12_186 (m_X12_isBarge x.2.1 g (CxI C) q13 hz14 σ hσ q15 cq15) oR_0 rfl (Nat.le_of_ble_eq_true rfl) (Nat.le_of_ble_eq_true rfl) rfl rfl (Nat.le_of_ble_eq_true rfl) dX12_proof_86 (fun hz16 => ?_)
        refine J_if_eq C (rg01 hz16) (tgt := 103) dX12_proof_89 (by decide) h (fun h c30 => ?_) (fun h c30 => ?_)
        · have e9 := sE h
          exact J_sub [3] rfl (k0 (x4, σ) e9.symm h4 hσ)
        · refine J_aload_n C 0 dX12_proof_92 rfl 1 rfl ?_
          refine J_iload C 4 dX12_proof_93 3 rfl ?_
          refine J_iload C 5 dX12_proof_95 0 rfl ?_
          obtain ⟨q17, cq17, h⟩ := bdS h
          refine J_callV C mw_X12_mayGet ml_RX12_266 (m_X12_mayGet x.2.1 g (CxI C) x4 h4 q13 hz14 σ hσ q17 cq17) oR_0 rfl (Nat.le_of_ble_eq_true rfl) (Nat.le_of_ble_eq_true rfl) rfl rfl (Nat.le_of_ble_eq_true rfl) dX12_proof_97 (fun hz18 => ?_)
          refine J_if_ne C (rg01 hz18) (tgt := 109) dX12_proof_100 (by decide) h (fun h c29 => ?_) (fun h c29 => ?_)
          · have e9 := sE h
            exact J_sub [3] rfl (k0 (x4, σ) e9.symm h4 hσ)
          · refine J_aload_n C 0 dX12_proof_109 rfl 1 rfl ?_
            refine J_getR C fl_RX12_113 oR_0 rfl dX12_proof_110 ?_
            refine J_iload C 4 dX12_proof_113 3 rfl ?_
            refine J_iload C 5 dX12_proof_115 0 rfl ?_
            refine J_iast C aR_35 hσ hz14 dX12_proof_117 h (fun σ19 hσ20 h => ?_)
            refine J_aload_n C 0 dX12_proof_118 rfl 1 rfl ?_
            refine J_getR C fl_RX12_119 oR_0 rfl dX12_proof_119 ?_
            refine J_iload C 5 dX12_proof_122 0 rfl ?_
            refine J_dup2 C rfl rfl dX12_proof_124 ?_
            refine J_iald C aR_37 hσ20 dX12_proof_125 h (fun v21 hv22 h => ?_)
            refine J_iconst C dX12_proof_126 ?_
            refine J_iadd C dX12_proof_127 h (fun v23 hv24 h => ?_)
            refine J_iast C aR_37 hσ20 hv24 dX12_proof_128 h (fun σ25 hσ26 h => ?_)
            refine J_iinc C 4 3 dX12_proof_129 rfl (by decide) h (fun v27 hv28 h => ?_)
            refine J_goto C (tgt := 54) dX12_proof_132 (by decide) ?_
            exact J_sub [2, 3, 0] rfl (ih x1 h1 v27 hv28 σ25 hσ26 q h k0 k1)
      · have e9 := sE h
        exact J_sub [0, 1] rfl (k1 σ e9.symm hσ)
    · have e9 := sE h
      exact J_sub [0, 1] rfl (k1 σ e9.symm hσ)
set_option maxRecDepth 100000 in
set_option maxHeartbeats 4000000 in
theorem m_X12_proof (l : Launch) (g : Gm) (hg : gInj yR g) (x1 : Int) (h1 : rg x1) (x2 : Int) (h2 : rg x2) (σ : Sg) (hσ : wfS yR σ) (q : Int × Sg) (h : fX12_proof x1 x2 σ = some q) : CJ l yR g yX12_proof cX12_proof 6 (some .int) 4 105 [.ref (gad g 0), vi x1, vi x2] σ (some (vi q.1)) q.2 ((rg q.1) ∧ wfS yR q.2) := by
  refine CJ_of hg (by decide) rfl (Nat.le_of_ble_eq_true rfl) (lo := [(0, .ref (gad g 0)), (1, vi x1), (2, vi x2)]) rfl (fun x C E => ?_)
  unfold fX12_proof at h
  refine J_iload_n C 1 dX12_proof_0 rfl 1 rfl ?_
  obtain ⟨q1, cq1, h⟩ := bdS h
  refine J_callS C mw_X12_isTape ml_RX12_231 (m_X12_isTape x.2.1 g (CxI C) x1 h1 σ hσ q1 cq1) (Nat.le_of_ble_eq_true rfl) (Nat.le_of_ble_eq_true rfl) rfl rfl (Nat.le_of_ble_eq_true rfl) dX12_proof_1 (fun hz2 => ?_)
  refine J_if_eq C (rg01 hz2) (tgt := 16) dX12_proof_4 (by decide) h (fun h c51 => ?_) (fun h c51 => ?_)
  · refine J_iconst C dX12_proof_16 ?_
    have e9 := sE h
    subst e9
    exact J_iret C E ⟨rl_m1, hσ⟩ dX12_proof_17
  · refine J_iload_n C 2 dX12_proof_7 rfl 2 rfl ?_
    refine J_iconst C dX12_proof_8 ?_
    refine J_iconst C dX12_proof_9 ?_
    obtain ⟨q3, cq3, h⟩ := bdS h
    refine J_callS C mw_X12_isIn ml_RX12_177 (m_X12_isIn x.2.1 g (CxI C) x2 h2 0 rl_0 4 rl_4 σ hσ q3 cq3) (Nat.le_of_ble_eq_true rfl) (Nat.le_of_ble_eq_true rfl) rfl rfl (Nat.le_of_ble_eq_true rfl) dX12_proof_10 (fun hz4 => ?_)
    refine J_if_ne C (rg01 hz4) (tgt := 18) dX12_proof_13 (by decide) h (fun h c50 => ?_) (fun h c50 => ?_)
    · refine J_iconst C dX12_proof_16 ?_
      have e9 := sE h
      subst e9
      exact J_iret C E ⟨rl_m1, hσ⟩ dX12_proof_17
    · refine J_aload_n C 0 dX12_proof_18 rfl 0 rfl ?_
      obtain ⟨q5, cq5, h⟩ := bdS h
      refine J_callV C mw_X12_gathers ml_RX12_272 (m_X12_gathers x.2.1 g (CxI C) σ hσ q5 cq5) oR_0 rfl (Nat.le_of_ble_eq_true rfl) (Nat.le_of_ble_eq_true rfl) rfl rfl (Nat.le_of_ble_eq_true rfl) dX12_proof_19 (fun hz6 => ?_)
      refine J_aload_n C 0 dX12_proof_22 rfl 0 rfl ?_
      refine J_getI C fl_RX12_251 oR_0 rfl dX12_proof_23 ?_
      refine J_bipush C dX12_proof_26 (bp8 (by decide) (by decide)) ?_
      refine J_icmp_le C (hz6 0 47 lR_0) rl_8 (tgt := 34) dX12_proof_28 (by decide) h (fun h c49 => ?_) (fun h c49 => ?_)
      · refine J_aload_n C 0 dX12_proof_34 rfl 0 rfl ?_
        refine J_iload_n C 1 dX12_proof_35 rfl 1 rfl ?_
        obtain ⟨q7, cq7, h⟩ := bdS h
        refine J_callV C mw_X12_wrongBytes ml_RX12_234 (m_X12_wrongBytes x.2.1 g (CxI C) x1 h1 q5 hz6 q7 cq7) oR_0 rfl (Nat.le_of_ble_eq_true rfl) (Nat.le_of_ble_eq_true rfl) rfl rfl (Nat.le_of_ble_eq_true rfl) dX12_proof_36 (fun hz8 => ?_)
        refine J_istore_n (lo2 := [(3, vi q7.1), (0, .ref (gad g 0)), (1, vi x1), (2, vi x2)]) C 3 dX12_proof_39 rfl (by decide) rfl ?_
        refine J_iload_n C 3 dX12_proof_40 rfl 0 rfl ?_
        refine J_if_eq C hz8.1 (tgt := 46) dX12_proof_41 (by decide) h (fun h c48 => ?_) (fun h c48 => ?_)
        · refine J_aload_n C 0 dX12_proof_46 rfl 1 rfl ?_
          refine J_iload_n C 2 dX12_proof_47 rfl 3 rfl ?_
          obtain ⟨q9, cq9, h⟩ := bdS h
          refine J_callV C mw_X12_findFits ml_RX12_275 (m_X12_findFits x.2.1 g (CxI C) x2 h2 q7.2 hz8.2 q9 cq9) oR_0 rfl (Nat.le_of_ble_eq_true rfl) (Nat.le_of_ble_eq_true rfl) rfl rfl (Nat.le_of_ble_eq_true rfl) dX12_proof_48 (fun hz10 => ?_)
          refine J_iconst C dX12_proof_51 ?_
          refine J_istore (lo2 := [(4, vi 0), (3, vi q7.1), (0, .ref (gad g 0)), (1, vi x1), (2, vi x2)]) C 4 dX12_proof_52 (by decide) rfl ?_
          obtain ⟨q33, cq33, h⟩ := bdS h
          refine J_sub [2, 3, 0] rfl (wX12_proof_L54 C fu x1 h1 0 rl_0 q9 hz10 q33 cq33 (fun a34 ea34 hr35 hσ36 => ?_) (fun a39 ea39 hσ40 => ?_))
          · subst ea34
            have h := elL h
            refine J_bipush C dX12_proof_103 (bp8 (by decide) (by decide)) ?_
            refine J_iload C 4 dX12_proof_105 0 rfl ?_
            refine J_isub C dX12_proof_107 h (fun v37 hv38 h => ?_)
            have e9 := sE h
            subst e9
            exact J_iret C E ⟨hv38, hσ36⟩ dX12_proof_108
          · subst ea39
            have h := elR h
            refine J_aload_n C 0 dX12_proof_135 rfl 0 rfl ?_
            refine J_getR C fl_RX12_94 oR_0 rfl dX12_proof_136 ?_
            refine J_iload_n C 1 dX12_proof_139 rfl 1 rfl ?_
            refine J_iald C aR_29 hσ40 dX12_proof_140 h (fun v41 hv42 h => ?_)
            refine J_aload_n C 0 dX12_proof_141 rfl 0 rfl ?_
            refine J_getI C fl_RX12_251 oR_0 rfl dX12_proof_142 ?_
            refine J_icmp_ge C hv42 (hσ40 0 47 lR_0) (tgt := 157) dX12_proof_145 (by decide) h (fun h c47 => ?_) (fun h c47 => ?_)
            · refine J_aload_n C 0 dX12_proof_148 rfl 0 rfl ?_
              refine J_bipush C dX12_proof_149 (bp8 (by decide) (by decide)) ?_
              obtain ⟨q45, cq45, h⟩ := bdS h
              refine J_callV C mw_X12_host ml_RX12_228 (m_X12_host x.2.1 g (CxI C) (-13) rl_m13 a39 hσ40 q45 cq45) oR_0 rfl (Nat.le_of_ble_eq_true rfl) (Nat.le_of_ble_eq_true rfl) rfl rfl (Nat.le_of_ble_eq_true rfl) dX12_proof_151 (fun hz46 => ?_)
              refine J_goto C (tgt := 161) dX12_proof_154 (by decide) ?_
              have e9 := sE h
              subst e9
              exact J_iret C E ⟨hz46.1, hz46.2⟩ dX12_proof_161
            · refine J_aload_n C 0 dX12_proof_157 rfl 0 rfl ?_
              obtain ⟨q43, cq43, h⟩ := bdS h
              refine J_callV C mw_X12_greatest ml_RX12_263 (m_X12_greatest x.2.1 g (CxI C) a39 hσ40 q43 cq43) oR_0 rfl (Nat.le_of_ble_eq_true rfl) (Nat.le_of_ble_eq_true rfl) rfl rfl (Nat.le_of_ble_eq_true rfl) dX12_proof_158 (fun hz44 => ?_)
              have e9 := sE h
              subst e9
              exact J_iret C E ⟨hz44, hσ40⟩ dX12_proof_161
        · refine J_iload_n C 3 dX12_proof_44 rfl 0 rfl ?_
          have e9 := sE h
          subst e9
          exact J_iret C E ⟨hz8.1, hz8.2⟩ dX12_proof_45
      · refine J_bipush C dX12_proof_31 (bp8 (by decide) (by decide)) ?_
        have e9 := sE h
        subst e9
        exact J_iret C E ⟨rl_m4, hz6⟩ dX12_proof_33
set_option maxRecDepth 100000 in
set_option maxHeartbeats 4000000 in
theorem m_X12_place (l : Launch) (g : Gm) (hg : gInj yR g) (x1 : Int) (h1 : rg x1) (x2 : Int) (h2 : rg x2) (σ : Sg) (hσ : wfS yR σ) (q : Int × Sg) (h : fX12_place x1 x2 σ = some q) : CJ l yR g yX12_place cX12_place 4 (some .int) 2 43 [.ref (gad g 0), vi x1, vi x2] σ (some (vi q.1)) q.2 ((rg q.1) ∧ wfS yR q.2) := by
  refine CJ_of hg (by decide) rfl (Nat.le_of_ble_eq_true rfl) (lo := [(0, .ref (gad g 0)), (1, vi x1), (2, vi x2)]) rfl (fun x C E => ?_)
  unfold fX12_place at h
  have pc5 : ∀  (σ : Sg) (hσ : wfS yR σ), fX12_place_P28 x1 x2 σ = some q → J x yR g 4 28 [(0, .ref (gad g 0)), (1, vi x1), (2, vi x2)] [] σ := by
    intro  σ hσ h
    unfold fX12_place_P28 at h
    refine J_aload_n C 0 dX12_place_28 rfl 0 rfl ?_
    refine J_getR C fl_RX12_52 oR_0 rfl dX12_place_29 ?_
    refine J_iload_n C 1 dX12_place_32 rfl 1 rfl ?_
    refine J_iald C aR_15 hσ dX12_place_33 h (fun v6 hv7 h => ?_)
    refine J_istore_n (lo2 := [(3, vi v6), (0, .ref (gad g 0)), (1, vi x1), (2, vi x2)]) C 3 dX12_place_34 rfl (by decide) rfl ?_
    refine J_aload_n C 0 dX12_place_35 rfl 1 rfl ?_
    refine J_getR C fl_RX12_52 oR_0 rfl dX12_place_36 ?_
    refine J_iload_n C 1 dX12_place_39 rfl 2 rfl ?_
    refine J_iload_n C 2 dX12_place_40 rfl 3 rfl ?_
    refine J_iast C aR_15 hσ h2 dX12_place_41 h (fun σ8 hσ9 h => ?_)
    refine J_iload_n C 3 dX12_place_42 rfl 0 rfl ?_
    have e9 := sE h
    subst e9
    exact J_iret C E ⟨hv7, hσ9⟩ dX12_place_43
  refine J_aload_n C 0 dX12_place_0 rfl 0 rfl ?_
  refine J_iconst C dX12_place_1 ?_
  refine J_putZ C fl_RX12_155 fp_RX12_54 oR_0 rfl rfl lR_0 hσ (Or.inl rfl) dX12_place_2 h (fun σ1 hσ2 h => ?_)
  refine J_aload_n C 0 dX12_place_5 rfl 0 rfl ?_
  refine J_iload_n C 1 dX12_place_6 rfl 1 rfl ?_
  obtain ⟨q3, cq3, h⟩ := bdS h
  refine J_callV C mw_X12_isCue ml_RX12_244 (m_X12_isCue x.2.1 g (CxI C) x1 h1 σ1 hσ2 q3 cq3) oR_0 rfl (Nat.le_of_ble_eq_true rfl) (Nat.le_of_ble_eq_true rfl) rfl rfl (Nat.le_of_ble_eq_true rfl) dX12_place_7 (fun hz4 => ?_)
  refine J_if_eq C (rg01 hz4) (tgt := 26) dX12_place_10 (by decide) h (fun h c18 => ?_) (fun h c18 => ?_)
  · refine J_iconst C dX12_place_26 ?_
    have e9 := sE h
    subst e9
    exact J_iret C E ⟨rl_m1, hσ2⟩ dX12_place_27
  · refine J_iload_n C 2 dX12_place_13 rfl 2 rfl ?_
    refine J_iconst C dX12_place_14 ?_
    refine J_icmp_eq C h2 rl_m1 (tgt := 28) dX12_place_15 (by decide) h (fun h c17 => ?_) (fun h c17 => ?_)
    · exact J_sub [0, 1, 2] rfl (pc5 σ1 hσ2 h)
    · refine J_aload_n C 0 dX12_place_18 rfl 0 rfl ?_
      refine J_iload_n C 2 dX12_place_19 rfl 2 rfl ?_
      obtain ⟨q14, cq14, h⟩ := bdS h
      refine J_callV C mw_X12_isBarge ml_RX12_186 (m_X12_isBarge x.2.1 g (CxI C) x2 h2 σ1 hσ2 q14 cq14) oR_0 rfl (Nat.le_of_ble_eq_true rfl) (Nat.le_of_ble_eq_true rfl) rfl rfl (Nat.le_of_ble_eq_true rfl) dX12_place_20 (fun hz15 => ?_)
      refine J_if_ne C (rg01 hz15) (tgt := 28) dX12_place_23 (by decide) h (fun h c16 => ?_) (fun h c16 => ?_)
      · refine J_iconst C dX12_place_26 ?_
        have e9 := sE h
        subst e9
        exact J_iret C E ⟨rl_m1, hσ2⟩ dX12_place_27
      · exact J_sub [0, 1, 2] rfl (pc5 σ1 hσ2 h)
set_option maxRecDepth 100000 in
set_option maxHeartbeats 4000000 in
theorem m_X12_meter (l : Launch) (g : Gm) (hg : gInj yR g) (x1 : Int) (h1 : rg x1) (x2 : Int) (h2 : rg x2) (x3 : Int) (h3 : rg x3) (σ : Sg) (hσ : wfS yR σ) (q : Int × Sg) (h : fX12_meter x1 x2 x3 σ = some q) : CJ l yR g yX12_meter cX12_meter 4 (some .int) 1 22 [.ref (gad g 0), vi x1, vi x2, vi x3] σ (some (vi q.1)) q.2 ((rg q.1) ∧ wfS yR q.2) := by
  refine CJ_of hg (by decide) rfl (Nat.le_of_ble_eq_true rfl) (lo := [(0, .ref (gad g 0)), (1, vi x1), (2, vi x2), (3, vi x3)]) rfl (fun x C E => ?_)
  unfold fX12_meter at h
  refine J_aload_n C 0 dX12_meter_0 rfl 0 rfl ?_
  refine J_iconst C dX12_meter_1 ?_
  refine J_putZ C fl_RX12_155 fp_RX12_54 oR_0 rfl rfl lR_0 hσ (Or.inl rfl) dX12_meter_2 h (fun σ1 hσ2 h => ?_)
  refine J_iload_n C 1 dX12_meter_5 rfl 1 rfl ?_
  refine J_iconst C dX12_meter_6 ?_
  refine J_iconst C dX12_meter_7 ?_
  obtain ⟨q3, cq3, h⟩ := bdS h
  refine J_callS C mw_X12_isIn ml_RX12_177 (m_X12_isIn x.2.1 g (CxI C) x1 h1 0 rl_0 3 rl_3 σ1 hσ2 q3 cq3) (Nat.le_of_ble_eq_true rfl) (Nat.le_of_ble_eq_true rfl) rfl rfl (Nat.le_of_ble_eq_true rfl) dX12_meter_8 (fun hz4 => ?_)
  refine J_if_eq C (rg01 hz4) (tgt := 36) dX12_meter_11 (by decide) h (fun h c22 => ?_) (fun h c22 => ?_)
  · refine J_iconst C dX12_meter_36 ?_
    have e9 := sE h
    subst e9
    exact J_iret C E ⟨rl_m1, hσ2⟩ dX12_meter_37
  · refine J_iload_n C 2 dX12_meter_14 rfl 2 rfl ?_
    refine J_iconst C dX12_meter_15 ?_
    refine J_sipush C dX12_meter_16 (bp16 (by decide) (by decide)) ?_
    obtain ⟨q5, cq5, h⟩ := bdS h
    refine J_callS C mw_X12_isIn ml_RX12_177 (m_X12_isIn x.2.1 g (CxI C) x2 h2 0 rl_0 20000 rl_20000 σ1 hσ2 q5 cq5) (Nat.le_of_ble_eq_true rfl) (Nat.le_of_ble_eq_true rfl) rfl rfl (Nat.le_of_ble_eq_true rfl) dX12_meter_19 (fun hz6 => ?_)
    refine J_if_eq C (rg01 hz6) (tgt := 36) dX12_meter_22 (by decide) h (fun h c21 => ?_) (fun h c21 => ?_)
    · refine J_iconst C dX12_meter_36 ?_
      have e9 := sE h
      subst e9
      exact J_iret C E ⟨rl_m1, hσ2⟩ dX12_meter_37
    · refine J_iload_n C 3 dX12_meter_25 rfl 3 rfl ?_
      refine J_iload_n C 2 dX12_meter_26 rfl 2 rfl ?_
      refine J_sipush C dX12_meter_27 (bp16 (by decide) (by decide)) ?_
      obtain ⟨q7, cq7, h⟩ := bdS h
      refine J_callS C mw_X12_isIn ml_RX12_177 (m_X12_isIn x.2.1 g (CxI C) x3 h3 x2 h2 20000 rl_20000 σ1 hσ2 q7 cq7) (Nat.le_of_ble_eq_true rfl) (Nat.le_of_ble_eq_true rfl) rfl rfl (Nat.le_of_ble_eq_true rfl) dX12_meter_30 (fun hz8 => ?_)
      refine J_if_ne C (rg01 hz8) (tgt := 38) dX12_meter_33 (by decide) h (fun h c20 => ?_) (fun h c20 => ?_)
      · refine J_iconst C dX12_meter_36 ?_
        have e9 := sE h
        subst e9
        exact J_iret C E ⟨rl_m1, hσ2⟩ dX12_meter_37
      · refine J_aload_n C 0 dX12_meter_38 rfl 0 rfl ?_
        refine J_getI C fl_RX12_162 oR_0 rfl dX12_meter_39 ?_
        refine J_bipush C dX12_meter_42 (bp8 (by decide) (by decide)) ?_
        refine J_icmp_ne C (hσ2 0 33 lR_0) rl_20 (tgt := 50) dX12_meter_44 (by decide) h (fun h c19 => ?_) (fun h c19 => ?_)
        · refine J_bipush C dX12_meter_47 (bp8 (by decide) (by decide)) ?_
          have e9 := sE h
          subst e9
          exact J_iret C E ⟨rl_m2, hσ2⟩ dX12_meter_49
        · refine J_aload_n C 0 dX12_meter_50 rfl 0 rfl ?_
          refine J_getR C fl_RX12_73 oR_0 rfl dX12_meter_51 ?_
          refine J_aload_n C 0 dX12_meter_54 rfl 0 rfl ?_
          refine J_getI C fl_RX12_162 oR_0 rfl dX12_meter_55 ?_
          refine J_iload_n C 1 dX12_meter_58 rfl 1 rfl ?_
          refine J_iast C aR_22 hσ2 h1 dX12_meter_59 h (fun σ9 hσ10 h => ?_)
          refine J_aload_n C 0 dX12_meter_60 rfl 0 rfl ?_
          refine J_getR C fl_RX12_76 oR_0 rfl dX12_meter_61 ?_
          refine J_aload_n C 0 dX12_meter_64 rfl 0 rfl ?_
          refine J_getI C fl_RX12_162 oR_0 rfl dX12_meter_65 ?_
          refine J_iload_n C 2 dX12_meter_68 rfl 2 rfl ?_
          refine J_iast C aR_23 hσ10 h2 dX12_meter_69 h (fun σ11 hσ12 h => ?_)
          refine J_aload_n C 0 dX12_meter_70 rfl 0 rfl ?_
          refine J_getR C fl_RX12_79 oR_0 rfl dX12_meter_71 ?_
          refine J_aload_n C 0 dX12_meter_74 rfl 0 rfl ?_
          refine J_getI C fl_RX12_162 oR_0 rfl dX12_meter_75 ?_
          refine J_iload_n C 3 dX12_meter_78 rfl 3 rfl ?_
          refine J_iast C aR_24 hσ12 h3 dX12_meter_79 h (fun σ13 hσ14 h => ?_)
          refine J_aload_n C 0 dX12_meter_80 rfl 0 rfl ?_
          refine J_dup C rfl dX12_meter_81 ?_
          refine J_getI C fl_RX12_162 oR_0 rfl dX12_meter_82 ?_
          refine J_iconst C dX12_meter_85 ?_
          refine J_iadd C dX12_meter_86 h (fun v15 hv16 h => ?_)
          refine J_putI C fl_RX12_162 fp_RX12_33 oR_0 rfl rfl lR_0 hσ14 hv16 dX12_meter_87 h (fun σ17 hσ18 h => ?_)
          refine J_aload_n C 0 dX12_meter_90 rfl 0 rfl ?_
          refine J_getI C fl_RX12_162 oR_0 rfl dX12_meter_91 ?_
          have e9 := sE h
          subst e9
          exact J_iret C E ⟨(hσ18 0 33 lR_0), hσ18⟩ dX12_meter_94
set_option maxRecDepth 100000 in
set_option maxHeartbeats 4000000 in
theorem wX12_knownWind_L4 {x : Ct} {g : Gm} (C : Cx x yR g 4 cX12_knownWind RX12 0 0) : ∀ (n : Nat) (x1 : Int) (h1 : rg x1) (x2 : Int) (h2 : rg x2) (x3 : Int) (h3 : rg x3) (σ : Sg) (hσ : wfS yR σ) (q : Int) (h : fX12_knownWind_L4 n x1 x2 x3 σ = some q) (k : rg q → J x yR g 4 49 [(0, .ref (gad g 0)), (2, vi q)] [] σ), J x yR g 4 4 [(0, .ref (gad g 0)), (1, vi x1), (2, vi x2), (3, vi x3)] [] σ := by
  intro n
  induction n with
  | zero =>
    intro x1 h1 x2 h2 x3 h3 σ hσ q h k
    exact absurd h (by intro z; cases z)
  | succ n ih =>
    intro x1 h1 x2 h2 x3 h3 σ hσ q h k
    rw [fX12_knownWind_L4] at h
    have pc3 : ∀ (x2 : Int) (h2 : rg x2) (x3 : Int) (h3 : rg x3), fX12_knownWind_L4P43 (fX12_knownWind_L4 n) x1 x2 x3 σ = some q → J x yR g 4 43 [(0, .ref (gad g 0)), (1, vi x1), (2, vi x2), (3, vi x3)] [] σ := by
      intro x2 h2 x3 h3 h
      unfold fX12_knownWind_L4P43 at h
      refine J_iinc C 3 3 dX12_knownWind_43 rfl (by decide) h (fun v4 hv5 h => ?_)
      refine J_goto C (tgt := 4) dX12_knownWind_46 (by decide) ?_
      exact J_sub [1, 2, 3, 0] rfl (ih x1 h1 x2 h2 v4 hv5 σ hσ q h k)
    have pc8 : ∀ (x3 : Int) (h3 : rg x3), fX12_knownWind_L4P41 (fX12_knownWind_L4 n) x1 x3 σ = some q → J x yR g 4 41 [(0, .ref (gad g 0)), (1, vi x1), (3, vi x3)] [] σ := by
      intro x3 h3 h
      unfold fX12_knownWind_L4P41 at h
      refine J_iload_n C 3 dX12_knownWind_41 rfl 2 rfl ?_
      refine J_istore_n (lo2 := [(2, vi x3), (0, .ref (gad g 0)), (1, vi x1), (3, vi x3)]) C 2 dX12_knownWind_42 rfl (by decide) rfl ?_
      exact J_sub [1, 2, 0, 3] rfl (pc3 x3 h3 x3 h3 h)
    refine J_iload_n C 3 dX12_knownWind_4 rfl 3 rfl ?_
    refine J_aload_n C 0 dX12_knownWind_5 rfl 0 rfl ?_
    refine J_getI C fl_RX12_162 oR_0 rfl dX12_knownWind_6 ?_
    refine J_icmp_ge C h3 (hσ 0 33 lR_0) (tgt := 49) dX12_knownWind_9 (by decide) h (fun h c16 => ?_) (fun h c16 => ?_)
    · refine J_aload_n C 0 dX12_knownWind_12 rfl 0 rfl ?_
      refine J_getR C fl_RX12_79 oR_0 rfl dX12_knownWind_13 ?_
      refine J_iload_n C 3 dX12_knownWind_16 rfl 3 rfl ?_
      refine J_iald C aR_24 hσ dX12_knownWind_17 h (fun v1 hv2 h => ?_)
      refine J_iload_n C 1 dX12_knownWind_18 rfl 1 rfl ?_
      refine J_icmp_gt C hv2 h1 (tgt := 43) dX12_knownWind_19 (by decide) h (fun h c15 => ?_) (fun h c15 => ?_)
      · refine J_iload_n C 2 dX12_knownWind_22 rfl 2 rfl ?_
        refine J_if_lt C h2 (tgt := 41) dX12_knownWind_23 (by decide) h (fun h c14 => ?_) (fun h c14 => ?_)
        · exact J_sub [0, 1, 3] rfl (pc8 x3 h3 h)
        · refine J_aload_n C 0 dX12_knownWind_26 rfl 0 rfl ?_
          refine J_getR C fl_RX12_76 oR_0 rfl dX12_knownWind_27 ?_
          refine J_iload_n C 3 dX12_knownWind_30 rfl 3 rfl ?_
          refine J_iald C aR_23 hσ dX12_knownWind_31 h (fun v9 hv10 h => ?_)
          refine J_aload_n C 0 dX12_knownWind_32 rfl 0 rfl ?_
          refine J_getR C fl_RX12_76 oR_0 rfl dX12_knownWind_33 ?_
          refine J_iload_n C 2 dX12_knownWind_36 rfl 2 rfl ?_
          refine J_iald C aR_23 hσ dX12_knownWind_37 h (fun v11 hv12 h => ?_)
          refine J_icmp_lt C hv10 hv12 (tgt := 43) dX12_knownWind_38 (by decide) h (fun h c13 => ?_) (fun h c13 => ?_)
          · exact J_sub [0, 1, 2, 3] rfl (pc3 x2 h2 x3 h3 h)
          · exact J_sub [0, 1, 3] rfl (pc8 x3 h3 h)
      · exact J_sub [0, 1, 2, 3] rfl (pc3 x2 h2 x3 h3 h)
    · have e9 := sE h
      subst e9
      exact J_sub [0, 2] rfl (k h2)
set_option maxRecDepth 100000 in
set_option maxHeartbeats 4000000 in
theorem m_X12_knownWind (l : Launch) (g : Gm) (hg : gInj yR g) (x1 : Int) (h1 : rg x1) (σ : Sg) (hσ : wfS yR σ) (q : Int) (h : fX12_knownWind x1 σ = some q) : CJ l yR g yX12_knownWind cX12_knownWind 4 (some .int) 0 0 [.ref (gad g 0), vi x1] σ (some (vi q)) σ (rg q) := by
  refine CJ_of hg (by decide) rfl (Nat.le_of_ble_eq_true rfl) (lo := [(0, .ref (gad g 0)), (1, vi x1)]) rfl (fun x C E => ?_)
  unfold fX12_knownWind at h
  refine J_iconst C dX12_knownWind_0 ?_
  refine J_istore_n (lo2 := [(2, vi (-1)), (0, .ref (gad g 0)), (1, vi x1)]) C 2 dX12_knownWind_1 rfl (by decide) rfl ?_
  refine J_iconst C dX12_knownWind_2 ?_
  refine J_istore_n (lo2 := [(3, vi 0), (2, vi (-1)), (0, .ref (gad g 0)), (1, vi x1)]) C 3 dX12_knownWind_3 rfl (by decide) rfl ?_
  obtain ⟨q17, cq17, h⟩ := bdS h
  refine J_sub [2, 3, 1, 0] rfl (wX12_knownWind_L4 C fu x1 h1 (-1) rl_m1 0 rl_0 σ hσ q17 cq17 (fun hr18 => ?_))
  refine J_iload_n C 2 dX12_knownWind_49 rfl 1 rfl ?_
  refine J_if_ge C hr18 (tgt := 57) dX12_knownWind_50 (by decide) h (fun h c21 => ?_) (fun h c21 => ?_)
  · refine J_iconst C dX12_knownWind_53 ?_
    refine J_goto C (tgt := 63) dX12_knownWind_54 (by decide) ?_
    have e9 := sE h
    subst e9
    exact J_iret C E rl_0 dX12_knownWind_63
  · refine J_aload_n C 0 dX12_knownWind_57 rfl 0 rfl ?_
    refine J_getR C fl_RX12_73 oR_0 rfl dX12_knownWind_58 ?_
    refine J_iload_n C 2 dX12_knownWind_61 rfl 1 rfl ?_
    refine J_iald C aR_22 hσ dX12_knownWind_62 h (fun v19 hv20 h => ?_)
    have e9 := sE h
    subst e9
    exact J_iret C E hv20 dX12_knownWind_63
set_option maxRecDepth 100000 in
set_option maxHeartbeats 4000000 in
theorem m_X12_knows (l : Launch) (g : Gm) (hg : gInj yR g) (x1 : Int) (h1 : rg x1) (σ : Sg) (hσ : wfS yR σ) (q : Int) (h : fX12_knows x1 σ = some q) : CJ l yR g yX12_knows cX12_knows 2 (some .int) 1 23 [.ref (gad g 0), vi x1] σ (some (vi q)) σ (rg q) := by
  refine CJ_of hg (by decide) rfl (Nat.le_of_ble_eq_true rfl) (lo := [(0, .ref (gad g 0)), (1, vi x1)]) rfl (fun x C E => ?_)
  unfold fX12_knows at h
  refine J_iload_n C 1 dX12_knows_0 rfl 1 rfl ?_
  refine J_iconst C dX12_knows_1 ?_
  refine J_sipush C dX12_knows_2 (bp16 (by decide) (by decide)) ?_
  obtain ⟨q1, cq1, h⟩ := bdS h
  refine J_callS C mw_X12_isIn ml_RX12_177 (m_X12_isIn x.2.1 g (CxI C) x1 h1 0 rl_0 20000 rl_20000 σ hσ q1 cq1) (Nat.le_of_ble_eq_true rfl) (Nat.le_of_ble_eq_true rfl) rfl rfl (Nat.le_of_ble_eq_true rfl) dX12_knows_5 (fun hz2 => ?_)
  refine J_if_eq C (rg01 hz2) (tgt := 19) dX12_knows_8 (by decide) h (fun h c5 => ?_) (fun h c5 => ?_)
  · refine J_iconst C dX12_knows_19 ?_
    have e9 := sE h
    subst e9
    exact J_iret C E rl_m1 dX12_knows_20
  · refine J_aload_n C 0 dX12_knows_11 rfl 0 rfl ?_
    refine J_iload_n C 1 dX12_knows_12 rfl 1 rfl ?_
    obtain ⟨q3, cq3, h⟩ := bdS h
    refine J_callV C mw_X12_knownWind ml_RX12_278 (m_X12_knownWind x.2.1 g (CxI C) x1 h1 σ hσ q3 cq3) oR_0 rfl (Nat.le_of_ble_eq_true rfl) (Nat.le_of_ble_eq_true rfl) rfl rfl (Nat.le_of_ble_eq_true rfl) dX12_knows_13 (fun hz4 => ?_)
    refine J_goto C (tgt := 20) dX12_knows_16 (by decide) ?_
    have e9 := sE h
    subst e9
    exact J_iret C E hz4 dX12_knows_20
set_option maxRecDepth 100000 in
set_option maxHeartbeats 4000000 in
theorem wX12_orders_L7 {x : Ct} {g : Gm} (C : Cx x yR g 8 cX12_orders RX12 1 22) : ∀ (n : Nat) (x1 : Int) (h1 : rg x1) (x2 : Int) (h2 : rg x2) (x3 : Int) (h3 : rg x3) (x4 : Int) (h4 : rg x4) (σ : Sg) (hσ : wfS yR σ) (q : (Int) ⊕ ((Int) ⊕ (Unit))) (h : fX12_orders_L7 n x1 x2 x3 x4 σ = some q) (k0 : ∀ a : Int, q = .inl a → rg a → J x yR g 8 172 [(4, vi a)] [] σ) (k1 : ∀ a : Int, q = .inr (.inl a) → rg a → J x yR g 8 182 [(2, vi a)] [] σ) (k2 : ∀ a : Unit, q = .inr (.inr a) → J x yR g 8 224 [(0, .ref (gad g 0)), (1, vi x1)] [] σ), J x yR g 8 7 [(0, .ref (gad g 0)), (1, vi x1), (2, vi x2), (3, vi x3), (4, vi x4)] [] σ := by
  intro n
  induction n with
  | zero =>
    intro x1 h1 x2 h2 x3 h3 x4 h4 σ hσ q h k0 k1 k2
    exact absurd h (by intro z; cases z)
  | succ n ih =>
    intro x1 h1 x2 h2 x3 h3 x4 h4 σ hσ q h k0 k1 k2
    rw [fX12_orders_L7] at h
    have pc13 : ∀ (x2 : Int) (h2 : rg x2) (x4 : Int) (h4 : rg x4) (x6 : Int) (h6 : rg x6) (y0 : Int) (g0 : rg y0) (y1 : Int) (g1 : rg y1), fX12_orders_L7P207 (fX12_orders_L7 n) x1 x2 x4 x6 y0 y1 σ = some q → J x yR g 8 207 [(0, .ref (gad g 0)), (1, vi x1), (2, vi x2), (4, vi x4), (6, vi x6)] [vi y0, vi y1] σ := by
      intro x2 h2 x4 h4 x6 h6 y0 g0 y1 g1 h
      unfold fX12_orders_L7P207 at h
      refine J_iadd C dX12_orders_207 h (fun v14 hv15 h => ?_)
      refine J_istore_n (lo2 := [(3, vi v14), (0, .ref (gad g 0)), (1, vi x1), (2, vi x2), (4, vi x4), (6, vi x6)]) C 3 dX12_orders_208 rfl (by decide) rfl ?_
      refine J_iinc C 2 3 dX12_orders_209 rfl (by decide) h (fun v16 hv17 h => ?_)
      refine J_iload C 4 dX12_orders_212 4 rfl ?_
      refine J_iload C 6 dX12_orders_214 5 rfl ?_
      refine J_iconst C dX12_orders_216 ?_
      refine J_iadd C dX12_orders_217 h (fun v18 hv19 h => ?_)
      refine J_iadd C dX12_orders_218 h (fun v20 hv21 h => ?_)
      refine J_istore (lo2 := [(4, vi v20), (2, vi v16), (3, vi v14), (0, .ref (gad g 0)), (1, vi x1), (6, vi x6)]) C 4 dX12_orders_219 (by decide) rfl ?_
      refine J_goto C (tgt := 7) dX12_orders_221 (by decide) ?_
      exact J_sub [3, 4, 1, 2, 0] rfl (ih x1 h1 v16 hv17 v14 hv15 v20 hv21 σ hσ q h k0 k1 k2)
    have pc12 : ∀ (x2 : Int) (h2 : rg x2) (x3 : Int) (h3 : rg x3) (x4 : Int) (h4 : rg x4) (x5 : Int) (h5 : rg x5) (x6 : Int) (h6 : rg x6) (x7 : Int) (h7 : rg x7), fX12_orders_L7P167 (fX12_orders_L7 n) x1 x2 x3 x4 x5 x6 x7 σ = some q → J x yR g 8 167 [(0, .ref (gad g 0)), (1, vi x1), (2, vi x2), (3, vi x3), (4, vi x4), (5, vi x5), (6, vi x6), (7, vi x7)] [] σ := by
      intro x2 h2 x3 h3 x4 h4 x5 h5 x6 h6 x7 h7 h
      unfold fX12_orders_L7P167 at h
      refine J_iload C 7 dX12_orders_167 7 rfl ?_
      refine J_if_ne C h7 (tgt := 177) dX12_orders_169 (by decide) h (fun h c33 => ?_) (fun h c33 => ?_)
      · have e9 := sE h
        exact J_sub [4] rfl (k0 x4 e9.symm h4)
      · refine J_iload C 5 dX12_orders_177 5 rfl ?_
        refine J_if_ne C h5 (tgt := 184) dX12_orders_179 (by decide) h (fun h c32 => ?_) (fun h c32 => ?_)
        · have e9 := sE h
          exact J_sub [2] rfl (k1 x2 e9.symm h2)
        · refine J_iload_n C 3 dX12_orders_184 rfl 3 rfl ?_
          refine J_iload C 6 dX12_orders_185 6 rfl ?_
          refine J_iconst C dX12_orders_187 ?_
          refine J_icmp_ne C h6 rl_1 (tgt := 195) dX12_orders_188 (by decide) h (fun h c31 => ?_) (fun h c31 => ?_)
          · refine J_iconst C dX12_orders_191 ?_
            refine J_goto C (tgt := 207) dX12_orders_192 (by decide) ?_
            exact J_sub [0, 1, 2, 4, 6] rfl (pc13 x2 h2 x4 h4 x6 h6 1 rl_1 x3 h3 h)
          · refine J_iload C 5 dX12_orders_195 5 rfl ?_
            refine J_bipush C dX12_orders_197 (bp8 (by decide) (by decide)) ?_
            refine J_icmp_ne C h5 rl_8 (tgt := 206) dX12_orders_199 (by decide) h (fun h c30 => ?_) (fun h c30 => ?_)
            · refine J_iconst C dX12_orders_202 ?_
              refine J_goto C (tgt := 207) dX12_orders_203 (by decide) ?_
              exact J_sub [0, 1, 2, 4, 6] rfl (pc13 x2 h2 x4 h4 x6 h6 0 rl_0 x3 h3 h)
            · refine J_iconst C dX12_orders_206 ?_
              exact J_sub [0, 1, 2, 4, 6] rfl (pc13 x2 h2 x4 h4 x6 h6 (-1) rl_m1 x3 h3 h)
    have pc38 : ∀ (x2 : Int) (h2 : rg x2) (x3 : Int) (h3 : rg x3) (x4 : Int) (h4 : rg x4) (x5 : Int) (h5 : rg x5) (x6 : Int) (h6 : rg x6) (y0 : Int) (g0 : rg y0), fX12_orders_L7P165 (fX12_orders_L7 n) x1 x2 x3 x4 x5 x6 y0 σ = some q → J x yR g 8 165 [(0, .ref (gad g 0)), (1, vi x1), (2, vi x2), (3, vi x3), (4, vi x4), (5, vi x5), (6, vi x6)] [vi y0] σ := by
      intro x2 h2 x3 h3 x4 h4 x5 h5 x6 h6 y0 g0 h
      unfold fX12_orders_L7P165 at h
      refine J_istore (lo2 := [(7, vi y0), (0, .ref (gad g 0)), (1, vi x1), (2, vi x2), (3, vi x3), (4, vi x4), (5, vi x5), (6, vi x6)]) C 7 dX12_orders_165 (by decide) rfl ?_
      exact J_sub [1, 2, 3, 4, 5, 6, 7, 0] rfl (pc12 x2 h2 x3 h3 x4 h4 x5 h5 x6 h6 y0 g0 h)
    have pc11 : ∀ (x2 : Int) (h2 : rg x2) (x3 : Int) (h3 : rg x3) (x4 : Int) (h4 : rg x4) (x5 : Int) (h5 : rg x5) (x6 : Int) (h6 : rg x6) (y0 : Int) (g0 : rg y0), fX12_orders_L7P91 (fX12_orders_L7 n) x1 x2 x3 x4 x5 x6 y0 σ = some q → J x yR g 8 91 [(0, .ref (gad g 0)), (1, vi x1), (2, vi x2), (3, vi x3), (4, vi x4), (5, vi x5), (6, vi x6)] [vi y0] σ := by
      intro x2 h2 x3 h3 x4 h4 x5 h5 x6 h6 y0 g0 h
      unfold fX12_orders_L7P91 at h
      refine J_istore (lo2 := [(7, vi y0), (0, .ref (gad g 0)), (1, vi x1), (2, vi x2), (3, vi x3), (4, vi x4), (5, vi x5), (6, vi x6)]) C 7 dX12_orders_91 (by decide) rfl ?_
      refine J_iload C 7 dX12_orders_93 0 rfl ?_
      refine J_if_eq C g0 (tgt := 167) dX12_orders_95 (by decide) h (fun h c46 => ?_) (fun h c46 => ?_)
      · exact J_sub [1, 2, 3, 4, 5, 6, 7, 0] rfl (pc12 x2 h2 x3 h3 x4 h4 x5 h5 x6 h6 y0 g0 h)
      · refine J_iload C 5 dX12_orders_98 6 rfl ?_
        refine J_if_ne C h5 (tgt := 116) dX12_orders_100 (by decide) h (fun h c45 => ?_) (fun h c45 => ?_)
        · refine J_iload_n C 3 dX12_orders_103 rfl 4 rfl ?_
          refine J_iconst C dX12_orders_104 ?_
          refine J_icmp_ne C h3 rl_1 (tgt := 112) dX12_orders_105 (by decide) h (fun h c44 => ?_) (fun h c44 => ?_)
          · refine J_iconst C dX12_orders_108 ?_
            refine J_goto C (tgt := 165) dX12_orders_109 (by decide) ?_
            exact J_sub [1, 2, 3, 4, 5, 6, 7] rfl (pc38 x2 h2 x3 h3 x4 h4 x5 h5 x6 h6 1 rl_1 h)
          · refine J_iconst C dX12_orders_112 ?_
            refine J_goto C (tgt := 165) dX12_orders_113 (by decide) ?_
            exact J_sub [1, 2, 3, 4, 5, 6, 7] rfl (pc38 x2 h2 x3 h3 x4 h4 x5 h5 x6 h6 0 rl_0 h)
        · refine J_iload C 6 dX12_orders_116 7 rfl ?_
          refine J_iconst C dX12_orders_118 ?_
          refine J_icmp_ne C h6 rl_1 (tgt := 136) dX12_orders_119 (by decide) h (fun h c43 => ?_) (fun h c43 => ?_)
          · refine J_iload_n C 3 dX12_orders_122 rfl 4 rfl ?_
            refine J_bipush C dX12_orders_123 (bp8 (by decide) (by decide)) ?_
            refine J_icmp_ge C h3 rl_8 (tgt := 132) dX12_orders_125 (by decide) h (fun h c42 => ?_) (fun h c42 => ?_)
            · refine J_iconst C dX12_orders_128 ?_
              refine J_goto C (tgt := 165) dX12_orders_129 (by decide) ?_
              exact J_sub [1, 2, 3, 4, 5, 6, 7] rfl (pc38 x2 h2 x3 h3 x4 h4 x5 h5 x6 h6 1 rl_1 h)
            · refine J_iconst C dX12_orders_132 ?_
              refine J_goto C (tgt := 165) dX12_orders_133 (by decide) ?_
              exact J_sub [1, 2, 3, 4, 5, 6, 7] rfl (pc38 x2 h2 x3 h3 x4 h4 x5 h5 x6 h6 0 rl_0 h)
          · refine J_iload C 5 dX12_orders_136 6 rfl ?_
            refine J_bipush C dX12_orders_138 (bp8 (by decide) (by decide)) ?_
            refine J_icmp_ne C h5 rl_8 (tgt := 155) dX12_orders_140 (by decide) h (fun h c41 => ?_) (fun h c41 => ?_)
            · refine J_iload_n C 3 dX12_orders_143 rfl 4 rfl ?_
              refine J_if_le C h3 (tgt := 151) dX12_orders_144 (by decide) h (fun h c40 => ?_) (fun h c40 => ?_)
              · refine J_iconst C dX12_orders_151 ?_
                refine J_goto C (tgt := 165) dX12_orders_152 (by decide) ?_
                exact J_sub [1, 2, 3, 4, 5, 6, 7] rfl (pc38 x2 h2 x3 h3 x4 h4 x5 h5 x6 h6 0 rl_0 h)
              · refine J_iconst C dX12_orders_147 ?_
                refine J_goto C (tgt := 165) dX12_orders_148 (by decide) ?_
                exact J_sub [1, 2, 3, 4, 5, 6, 7] rfl (pc38 x2 h2 x3 h3 x4 h4 x5 h5 x6 h6 1 rl_1 h)
            · refine J_iload_n C 3 dX12_orders_155 rfl 4 rfl ?_
              refine J_iconst C dX12_orders_156 ?_
              refine J_icmp_le C h3 rl_1 (tgt := 164) dX12_orders_157 (by decide) h (fun h c39 => ?_) (fun h c39 => ?_)
              · refine J_iconst C dX12_orders_164 ?_
                exact J_sub [1, 2, 3, 4, 5, 6, 7] rfl (pc38 x2 h2 x3 h3 x4 h4 x5 h5 x6 h6 0 rl_0 h)
              · refine J_iconst C dX12_orders_160 ?_
                refine J_goto C (tgt := 165) dX12_orders_161 (by decide) ?_
                exact J_sub [1, 2, 3, 4, 5, 6, 7] rfl (pc38 x2 h2 x3 h3 x4 h4 x5 h5 x6 h6 1 rl_1 h)
    have pc10 : ∀ (x2 : Int) (h2 : rg x2) (x3 : Int) (h3 : rg x3) (x4 : Int) (h4 : rg x4) (x5 : Int) (h5 : rg x5) (x6 : Int) (h6 : rg x6), fX12_orders_L7P90 (fX12_orders_L7 n) x1 x2 x3 x4 x5 x6 σ = some q → J x yR g 8 90 [(0, .ref (gad g 0)), (1, vi x1), (2, vi x2), (3, vi x3), (4, vi x4), (5, vi x5), (6, vi x6)] [] σ := by
      intro x2 h2 x3 h3 x4 h4 x5 h5 x6 h6 h
      unfold fX12_orders_L7P90 at h
      refine J_iconst C dX12_orders_90 ?_
      exact J_sub [0, 1, 2, 3, 4, 5, 6] rfl (pc11 x2 h2 x3 h3 x4 h4 x5 h5 x6 h6 0 rl_0 h)
    have pc59 : ∀ (x2 : Int) (h2 : rg x2) (x3 : Int) (h3 : rg x3) (x4 : Int) (h4 : rg x4) (x5 : Int) (h5 : rg x5) (x6 : Int) (h6 : rg x6), fX12_orders_L7P86 (fX12_orders_L7 n) x1 x2 x3 x4 x5 x6 σ = some q → J x yR g 8 86 [(0, .ref (gad g 0)), (1, vi x1), (2, vi x2), (3, vi x3), (4, vi x4), (5, vi x5), (6, vi x6)] [] σ := by
      intro x2 h2 x3 h3 x4 h4 x5 h5 x6 h6 h
      unfold fX12_orders_L7P86 at h
      refine J_iconst C dX12_orders_86 ?_
      refine J_goto C (tgt := 91) dX12_orders_87 (by decide) ?_
      exact J_sub [0, 1, 2, 3, 4, 5, 6] rfl (pc11 x2 h2 x3 h3 x4 h4 x5 h5 x6 h6 1 rl_1 h)
    have pc7 : ∀ (x2 : Int) (h2 : rg x2) (x3 : Int) (h3 : rg x3) (x4 : Int) (h4 : rg x4) (x5 : Int) (h5 : rg x5) (y0 : Int) (g0 : rg y0), fX12_orders_L7P42 (fX12_orders_L7 n) x1 x2 x3 x4 x5 y0 σ = some q → J x yR g 8 42 [(0, .ref (gad g 0)), (1, vi x1), (2, vi x2), (3, vi x3), (4, vi x4), (5, vi x5)] [vi y0] σ := by
      intro x2 h2 x3 h3 x4 h4 x5 h5 y0 g0 h
      unfold fX12_orders_L7P42 at h
      refine J_istore (lo2 := [(6, vi y0), (0, .ref (gad g 0)), (1, vi x1), (2, vi x2), (3, vi x3), (4, vi x4), (5, vi x5)]) C 6 dX12_orders_42 (by decide) rfl ?_
      refine J_iload C 5 dX12_orders_44 6 rfl ?_
      refine J_iconst C dX12_orders_46 ?_
      refine J_bipush C dX12_orders_47 (bp8 (by decide) (by decide)) ?_
      obtain ⟨q8, cq8, h⟩ := bdS h
      refine J_callS C mw_X12_isIn ml_RX12_177 (m_X12_isIn x.2.1 g (CxI C) x5 h5 0 rl_0 8 rl_8 σ hσ q8 cq8) (Nat.le_of_ble_eq_true rfl) (Nat.le_of_ble_eq_true rfl) rfl rfl (Nat.le_of_ble_eq_true rfl) dX12_orders_49 (fun hz9 => ?_)
      refine J_if_eq C (rg01 hz9) (tgt := 90) dX12_orders_52 (by decide) h (fun h c67 => ?_) (fun h c67 => ?_)
      · exact J_sub [1, 2, 3, 4, 5, 6, 0] rfl (pc10 x2 h2 x3 h3 x4 h4 x5 h5 y0 g0 h)
      · refine J_iload C 4 dX12_orders_55 5 rfl ?_
        refine J_iload C 6 dX12_orders_57 0 rfl ?_
        refine J_iadd C dX12_orders_59 h (fun v55 hv56 h => ?_)
        refine J_aload_n C 0 dX12_orders_60 rfl 1 rfl ?_
        refine J_getR C fl_RX12_94 oR_0 rfl dX12_orders_61 ?_
        refine J_iload_n C 1 dX12_orders_64 rfl 2 rfl ?_
        refine J_iald C aR_29 hσ dX12_orders_65 h (fun v57 hv58 h => ?_)
        refine J_icmp_ge C hv56 hv58 (tgt := 90) dX12_orders_66 (by decide) h (fun h c66 => ?_) (fun h c66 => ?_)
        · refine J_iload C 6 dX12_orders_69 0 rfl ?_
          refine J_if_eq C g0 (tgt := 86) dX12_orders_71 (by decide) h (fun h c65 => ?_) (fun h c65 => ?_)
          · exact J_sub [1, 2, 3, 4, 5, 6, 0] rfl (pc59 x2 h2 x3 h3 x4 h4 x5 h5 y0 g0 h)
          · refine J_aload_n C 0 dX12_orders_74 rfl 1 rfl ?_
            refine J_iload_n C 1 dX12_orders_75 rfl 2 rfl ?_
            refine J_iload C 4 dX12_orders_76 5 rfl ?_
            refine J_iconst C dX12_orders_78 ?_
            refine J_iadd C dX12_orders_79 h (fun v60 hv61 h => ?_)
            obtain ⟨q62, cq62, h⟩ := bdS h
            refine J_callV C mw_X12_word ml_RX12_211 (m_X12_word x.2.1 g (CxI C) x1 h1 v60 hv61 σ hσ q62 cq62) oR_0 rfl (Nat.le_of_ble_eq_true rfl) (Nat.le_of_ble_eq_true rfl) rfl rfl (Nat.le_of_ble_eq_true rfl) dX12_orders_80 (fun hz63 => ?_)
            refine J_if_lt C hz63 (tgt := 90) dX12_orders_83 (by decide) h (fun h c64 => ?_) (fun h c64 => ?_)
            · exact J_sub [1, 2, 3, 4, 5, 6, 0] rfl (pc10 x2 h2 x3 h3 x4 h4 x5 h5 y0 g0 h)
            · exact J_sub [1, 2, 3, 4, 5, 6, 0] rfl (pc59 x2 h2 x3 h3 x4 h4 x5 h5 y0 g0 h)
        · exact J_sub [1, 2, 3, 4, 5, 6, 0] rfl (pc10 x2 h2 x3 h3 x4 h4 x5 h5 y0 g0 h)
    refine J_iload C 4 dX12_orders_7 4 rfl ?_
    refine J_aload_n C 0 dX12_orders_9 rfl 0 rfl ?_
    refine J_getR C fl_RX12_94 oR_0 rfl dX12_orders_10 ?_
    refine J_iload_n C 1 dX12_orders_13 rfl 1 rfl ?_
    refine J_iald C aR_29 hσ dX12_orders_14 h (fun v1 hv2 h => ?_)
    refine J_icmp_ge C h4 hv2 (tgt := 224) dX12_orders_15 (by decide) h (fun h c83 => ?_) (fun h c83 => ?_)
    · refine J_aload_n C 0 dX12_orders_18 rfl 0 rfl ?_
      refine J_iload_n C 1 dX12_orders_19 rfl 1 rfl ?_
      refine J_iload C 4 dX12_orders_20 4 rfl ?_
      obtain ⟨q3, cq3, h⟩ := bdS h
      refine J_callV C mw_X12_word ml_RX12_211 (m_X12_word x.2.1 g (CxI C) x1 h1 x4 h4 σ hσ q3 cq3) oR_0 rfl (Nat.le_of_ble_eq_true rfl) (Nat.le_of_ble_eq_true rfl) rfl rfl (Nat.le_of_ble_eq_true rfl) dX12_orders_22 (fun hz4 => ?_)
      refine J_istore (lo2 := [(5, vi q3), (0, .ref (gad g 0)), (1, vi x1), (2, vi x2), (3, vi x3), (4, vi x4)]) C 5 dX12_orders_25 (by decide) rfl ?_
      refine J_iload C 5 dX12_orders_27 0 rfl ?_
      refine J_iconst C dX12_orders_29 ?_
      refine J_iconst C dX12_orders_30 ?_
      obtain ⟨q5, cq5, h⟩ := bdS h
      refine J_callS C mw_X12_isIn ml_RX12_177 (m_X12_isIn x.2.1 g (CxI C) q3 hz4 1 rl_1 5 rl_5 σ hσ q5 cq5) (Nat.le_of_ble_eq_true rfl) (Nat.le_of_ble_eq_true rfl) rfl rfl (Nat.le_of_ble_eq_true rfl) dX12_orders_31 (fun hz6 => ?_)
      refine J_if_eq C (rg01 hz6) (tgt := 41) dX12_orders_34 (by decide) h (fun h c82 => ?_) (fun h c82 => ?_)
      · refine J_iconst C dX12_orders_41 ?_
        exact J_sub [1, 2, 3, 4, 5, 0] rfl (pc7 x2 h2 x3 h3 x4 h4 q3 hz4 0 rl_0 h)
      · refine J_iconst C dX12_orders_37 ?_
        refine J_goto C (tgt := 42) dX12_orders_38 (by decide) ?_
        exact J_sub [1, 2, 3, 4, 5, 0] rfl (pc7 x2 h2 x3 h3 x4 h4 q3 hz4 1 rl_1 h)
    · have e9 := sE h
      exact J_sub [0, 1] rfl (k2 () e9.symm)
set_option maxRecDepth 100000 in
set_option maxHeartbeats 4000000 in
theorem m_X12_orders (l : Launch) (g : Gm) (hg : gInj yR g) (x1 : Int) (h1 : rg x1) (σ : Sg) (hσ : wfS yR σ) (q : Int) (h : fX12_orders x1 σ = some q) : CJ l yR g yX12_orders cX12_orders 8 (some .int) 1 22 [.ref (gad g 0), vi x1] σ (some (vi q)) σ (rg q) := by
  refine CJ_of hg (by decide) rfl (Nat.le_of_ble_eq_true rfl) (lo := [(0, .ref (gad g 0)), (1, vi x1)]) rfl (fun x C E => ?_)
  unfold fX12_orders at h
  refine J_iconst C dX12_orders_0 ?_
  refine J_istore_n (lo2 := [(2, vi 0), (0, .ref (gad g 0)), (1, vi x1)]) C 2 dX12_orders_1 rfl (by decide) rfl ?_
  refine J_iconst C dX12_orders_2 ?_
  refine J_istore_n (lo2 := [(3, vi 0), (2, vi 0), (0, .ref (gad g 0)), (1, vi x1)]) C 3 dX12_orders_3 rfl (by decide) rfl ?_
  refine J_iconst C dX12_orders_4 ?_
  refine J_istore (lo2 := [(4, vi 0), (3, vi 0), (2, vi 0), (0, .ref (gad g 0)), (1, vi x1)]) C 4 dX12_orders_5 (by decide) rfl ?_
  obtain ⟨q84, cq84, h⟩ := bdS h
  refine J_sub [3, 4, 2, 1, 0] rfl (wX12_orders_L7 C fu x1 h1 0 rl_0 0 rl_0 0 rl_0 σ hσ q84 cq84 (fun a85 ea85 hr86 => ?_) (fun a89 ea89 hr90 => ?_) (fun a91 ea91 => ?_))
  · subst ea85
    have h := elL h
    refine J_iconst C dX12_orders_172 ?_
    refine J_iload C 4 dX12_orders_173 0 rfl ?_
    refine J_isub C dX12_orders_175 h (fun v87 hv88 h => ?_)
    have e9 := sE h
    subst e9
    exact J_iret C E hv88 dX12_orders_176
  · subst ea89
    have h := elR h
    have h := elL h
    refine J_iload_n C 2 dX12_orders_182 rfl 0 rfl ?_
    have e9 := sE h
    subst e9
    exact J_iret C E hr90 dX12_orders_183
  · subst ea91
    have h := elR h
    have h := elR h
    refine J_iconst C dX12_orders_224 ?_
    refine J_aload_n C 0 dX12_orders_225 rfl 0 rfl ?_
    refine J_getR C fl_RX12_94 oR_0 rfl dX12_orders_226 ?_
    refine J_iload_n C 1 dX12_orders_229 rfl 1 rfl ?_
    refine J_iald C aR_29 hσ dX12_orders_230 h (fun v92 hv93 h => ?_)
    refine J_isub C dX12_orders_231 h (fun v94 hv95 h => ?_)
    have e9 := sE h
    subst e9
    exact J_iret C E hv95 dX12_orders_232
set_option maxRecDepth 100000 in
set_option maxHeartbeats 4000000 in
theorem wX12_hold_L62 {x : Ct} {g : Gm} (C : Cx x yR g 5 cX12_hold RX12 2 49) : ∀ (n : Nat) (x1 : Int) (h1 : rg x1) (x4 : Int) (h4 : rg x4) (σ : Sg) (hσ : wfS yR σ) (q : Sg) (h : fX12_hold_L62 n x1 x4 σ = some q) (k : wfS yR q → J x yR g 5 101 [(0, .ref (gad g 0))] [] q), J x yR g 5 62 [(0, .ref (gad g 0)), (1, vi x1), (4, vi x4)] [] σ := by
  intro n
  induction n with
  | zero =>
    intro x1 h1 x4 h4 σ hσ q h k
    exact absurd h (by intro z; cases z)
  | succ n ih =>
    intro x1 h1 x4 h4 σ hσ q h k
    rw [fX12_hold_L62] at h
    refine J_iload C 4 dX12_hold_62 2 rfl ?_
    refine J_aload_n C 0 dX12_hold_64 rfl 0 rfl ?_
    refine J_getR C fl_RX12_94 oR_0 rfl dX12_hold_65 ?_
    refine J_iload_n C 1 dX12_hold_68 rfl 1 rfl ?_
    refine J_iald C aR_29 hσ dX12_hold_69 h (fun v9 hv10 h => ?_)
    refine J_icmp_ge C h4 hv10 (tgt := 101) dX12_hold_70 (by decide) h (fun h c21 => ?_) (fun h c21 => ?_)
    · refine J_aload_n C 0 dX12_hold_73 rfl 0 rfl ?_
      refine J_getR C fl_RX12_82 oR_0 rfl dX12_hold_74 ?_
      refine J_bipush C dX12_hold_77 (bp8 (by decide) (by decide)) ?_
      refine J_aload_n C 0 dX12_hold_79 rfl 0 rfl ?_
      refine J_getI C fl_RX12_165 oR_0 rfl dX12_hold_80 ?_
      refine J_imul C dX12_hold_83 h (fun v11 hv12 h => ?_)
      refine J_iload C 4 dX12_hold_84 2 rfl ?_
      refine J_iadd C dX12_hold_86 h (fun v13 hv14 h => ?_)
      refine J_aload_n C 0 dX12_hold_87 rfl 0 rfl ?_
      refine J_iload_n C 1 dX12_hold_88 rfl 1 rfl ?_
      refine J_iload C 4 dX12_hold_89 2 rfl ?_
      obtain ⟨q15, cq15, h⟩ := bdS h
      refine J_callV C mw_X12_word ml_RX12_211 (m_X12_word x.2.1 g (CxI C) x1 h1 x4 h4 σ hσ q15 cq15) oR_0 rfl (Nat.le_of_ble_eq_true rfl) (Nat.le_of_ble_eq_true rfl) rfl rfl (Nat.le_of_ble_eq_true rfl) dX12_hold_91 (fun hz16 => ?_)
      refine J_iast C aR_25 hσ hz16 dX12_hold_94 h (fun σ17 hσ18 h => ?_)
      refine J_iinc C 4 2 dX12_hold_95 rfl (by decide) h (fun v19 hv20 h => ?_)
      refine J_goto C (tgt := 62) dX12_hold_98 (by decide) ?_
      exact J_sub [1, 2, 0] rfl (ih x1 h1 v19 hv20 σ17 hσ18 q h k)
    · have e9 := sE h
      subst e9
      exact J_sub [0] rfl (k hσ)
set_option maxRecDepth 100000 in
set_option maxHeartbeats 4000000 in
theorem m_X12_hold (l : Launch) (g : Gm) (hg : gInj yR g) (x1 : Int) (h1 : rg x1) (σ : Sg) (hσ : wfS yR σ) (q : Int × Sg) (h : fX12_hold x1 σ = some q) : CJ l yR g yX12_hold cX12_hold 5 (some .int) 2 49 [.ref (gad g 0), vi x1] σ (some (vi q.1)) q.2 ((rg q.1) ∧ wfS yR q.2) := by
  refine CJ_of hg (by decide) rfl (Nat.le_of_ble_eq_true rfl) (lo := [(0, .ref (gad g 0)), (1, vi x1)]) rfl (fun x C E => ?_)
  unfold fX12_hold at h
  refine J_aload_n C 0 dX12_hold_0 rfl 0 rfl ?_
  refine J_iconst C dX12_hold_1 ?_
  refine J_putZ C fl_RX12_155 fp_RX12_54 oR_0 rfl rfl lR_0 hσ (Or.inl rfl) dX12_hold_2 h (fun σ1 hσ2 h => ?_)
  refine J_iload_n C 1 dX12_hold_5 rfl 1 rfl ?_
  obtain ⟨q3, cq3, h⟩ := bdS h
  refine J_callS C mw_X12_isTape ml_RX12_231 (m_X12_isTape x.2.1 g (CxI C) x1 h1 σ1 hσ2 q3 cq3) (Nat.le_of_ble_eq_true rfl) (Nat.le_of_ble_eq_true rfl) rfl rfl (Nat.le_of_ble_eq_true rfl) dX12_hold_6 (fun hz4 => ?_)
  refine J_if_ne C (rg01 hz4) (tgt := 14) dX12_hold_9 (by decide) h (fun h c36 => ?_) (fun h c36 => ?_)
  · refine J_iconst C dX12_hold_12 ?_
    have e9 := sE h
    subst e9
    exact J_iret C E ⟨rl_m1, hσ2⟩ dX12_hold_13
  · refine J_aload_n C 0 dX12_hold_14 rfl 0 rfl ?_
    refine J_iload_n C 1 dX12_hold_15 rfl 1 rfl ?_
    obtain ⟨q5, cq5, h⟩ := bdS h
    refine J_callV C mw_X12_wrongBytes ml_RX12_234 (m_X12_wrongBytes x.2.1 g (CxI C) x1 h1 σ1 hσ2 q5 cq5) oR_0 rfl (Nat.le_of_ble_eq_true rfl) (Nat.le_of_ble_eq_true rfl) rfl rfl (Nat.le_of_ble_eq_true rfl) dX12_hold_16 (fun hz6 => ?_)
    refine J_istore_n (lo2 := [(2, vi q5.1), (0, .ref (gad g 0)), (1, vi x1)]) C 2 dX12_hold_19 rfl (by decide) rfl ?_
    refine J_iload_n C 2 dX12_hold_20 rfl 0 rfl ?_
    refine J_if_eq C hz6.1 (tgt := 26) dX12_hold_21 (by decide) h (fun h c35 => ?_) (fun h c35 => ?_)
    · refine J_aload_n C 0 dX12_hold_26 rfl 1 rfl ?_
      refine J_iload_n C 1 dX12_hold_27 rfl 2 rfl ?_
      obtain ⟨q7, cq7, h⟩ := bdS h
      refine J_callV C mw_X12_orders ml_RX12_281 (m_X12_orders x.2.1 g (CxI C) x1 h1 q5.2 hz6.2 q7 cq7) oR_0 rfl (Nat.le_of_ble_eq_true rfl) (Nat.le_of_ble_eq_true rfl) rfl rfl (Nat.le_of_ble_eq_true rfl) dX12_hold_28 (fun hz8 => ?_)
      refine J_istore_n (lo2 := [(3, vi q7), (2, vi q5.1), (0, .ref (gad g 0)), (1, vi x1)]) C 3 dX12_hold_31 rfl (by decide) rfl ?_
      refine J_iload_n C 3 dX12_hold_32 rfl 0 rfl ?_
      refine J_if_ge C hz8 (tgt := 41) dX12_hold_33 (by decide) h (fun h c34 => ?_) (fun h c34 => ?_)
      · refine J_bipush C dX12_hold_36 (bp8 (by decide) (by decide)) ?_
        refine J_iload_n C 3 dX12_hold_38 rfl 0 rfl ?_
        refine J_iadd C dX12_hold_39 h (fun v32 hv33 h => ?_)
        have e9 := sE h
        subst e9
        exact J_iret C E ⟨hv33, hz6.2⟩ dX12_hold_40
      · refine J_aload_n C 0 dX12_hold_41 rfl 2 rfl ?_
        refine J_getI C fl_RX12_165 oR_0 rfl dX12_hold_42 ?_
        refine J_bipush C dX12_hold_45 (bp8 (by decide) (by decide)) ?_
        refine J_icmp_eq C (hz6.2 0 34 lR_0) rl_8 (tgt := 56) dX12_hold_47 (by decide) h (fun h c31 => ?_) (fun h c31 => ?_)
        · refine J_bipush C dX12_hold_56 (bp8 (by decide) (by decide)) ?_
          have e9 := sE h
          subst e9
          exact J_iret C E ⟨rl_m2, hz6.2⟩ dX12_hold_58
        · refine J_iload_n C 3 dX12_hold_50 rfl 0 rfl ?_
          refine J_bipush C dX12_hold_51 (bp8 (by decide) (by decide)) ?_
          refine J_icmp_le C hz8 rl_20 (tgt := 59) dX12_hold_53 (by decide) h (fun h c30 => ?_) (fun h c30 => ?_)
          · refine J_iconst C dX12_hold_59 ?_
            refine J_istore (lo2 := [(4, vi 0), (3, vi q7), (2, vi q5.1), (0, .ref (gad g 0)), (1, vi x1)]) C 4 dX12_hold_60 (by decide) rfl ?_
            obtain ⟨q22, cq22, h⟩ := bdS h
            refine J_sub [3, 4, 0] rfl (wX12_hold_L62 C fu x1 h1 0 rl_0 q5.2 hz6.2 q22 cq22 (fun hσ23 => ?_))
            refine J_aload_n C 0 dX12_hold_101 rfl 0 rfl ?_
            refine J_dup C rfl dX12_hold_102 ?_
            refine J_getI C fl_RX12_165 oR_0 rfl dX12_hold_103 ?_
            refine J_iconst C dX12_hold_106 ?_
            refine J_iadd C dX12_hold_107 h (fun v24 hv25 h => ?_)
            refine J_putI C fl_RX12_165 fp_RX12_34 oR_0 rfl rfl lR_0 hσ23 hv25 dX12_hold_108 h (fun σ26 hσ27 h => ?_)
            refine J_aload_n C 0 dX12_hold_111 rfl 0 rfl ?_
            refine J_getI C fl_RX12_165 oR_0 rfl dX12_hold_112 ?_
            refine J_iconst C dX12_hold_115 ?_
            refine J_isub C dX12_hold_116 h (fun v28 hv29 h => ?_)
            have e9 := sE h
            subst e9
            exact J_iret C E ⟨hv29, hσ27⟩ dX12_hold_117
          · refine J_bipush C dX12_hold_56 (bp8 (by decide) (by decide)) ?_
            have e9 := sE h
            subst e9
            exact J_iret C E ⟨rl_m2, hz6.2⟩ dX12_hold_58
    · refine J_iload_n C 2 dX12_hold_24 rfl 0 rfl ?_
      have e9 := sE h
      subst e9
      exact J_iret C E ⟨hz6.1, hz6.2⟩ dX12_hold_25
set_option maxRecDepth 100000 in
set_option maxHeartbeats 4000000 in
theorem m_X12_holdless (l : Launch) (g : Gm) (hg : gInj yR g)  (σ : Sg) (hσ : wfS yR σ) (q : Int × Sg) (h : fX12_holdless  σ = some q) : CJ l yR g yX12_holdless cX12_holdless 2 (some .int) 0 0 [.ref (gad g 0)] σ (some (vi q.1)) q.2 ((rg q.1) ∧ wfS yR q.2) := by
  refine CJ_of hg (by decide) rfl (Nat.le_of_ble_eq_true rfl) (lo := [(0, .ref (gad g 0))]) rfl (fun x C E => ?_)
  unfold fX12_holdless at h
  refine J_aload_n C 0 dX12_holdless_0 rfl 0 rfl ?_
  refine J_iconst C dX12_holdless_1 ?_
  refine J_putZ C fl_RX12_155 fp_RX12_54 oR_0 rfl rfl lR_0 hσ (Or.inl rfl) dX12_holdless_2 h (fun σ1 hσ2 h => ?_)
  refine J_aload_n C 0 dX12_holdless_5 rfl 0 rfl ?_
  refine J_getI C fl_RX12_165 oR_0 rfl dX12_holdless_6 ?_
  refine J_istore_n (lo2 := [(1, vi (σ1 0 34)), (0, .ref (gad g 0))]) C 1 dX12_holdless_9 rfl (by decide) rfl ?_
  refine J_aload_n C 0 dX12_holdless_10 rfl 1 rfl ?_
  refine J_iconst C dX12_holdless_11 ?_
  refine J_putI C fl_RX12_165 fp_RX12_34 oR_0 rfl rfl lR_0 hσ2 rl_0 dX12_holdless_12 h (fun σ3 hσ4 h => ?_)
  refine J_iload_n C 1 dX12_holdless_15 rfl 0 rfl ?_
  have e9 := sE h
  subst e9
  exact J_iret C E ⟨(hσ2 0 34 lR_0), hσ4⟩ dX12_holdless_16
set_option maxRecDepth 100000 in
set_option maxHeartbeats 4000000 in
theorem wX12_holdsFor_L9 {x : Ct} {g : Gm} (C : Cx x yR g 8 cX12_holdsFor RX12 1 23) : ∀ (n : Nat) (x2 : Int) (h2 : rg x2) (x3 : Int) (h3 : rg x3) (x4 : Int) (h4 : rg x4) (x5 : Int) (h5 : rg x5) (σ : Sg) (hσ : wfS yR σ) (q : Sg) (h : fX12_holdsFor_L9 n x2 x3 x4 x5 σ = some q) (k : wfS yR q → J x yR g 8 296 [(0, .ref (gad g 0))] [] q), J x yR g 8 9 [(0, .ref (gad g 0)), (2, vi x2), (3, vi x3), (4, vi x4), (5, vi x5)] [] σ := by
  intro n
  induction n with
  | zero =>
    intro x2 h2 x3 h3 x4 h4 x5 h5 σ hσ q h k
    exact absurd h (by intro z; cases z)
  | succ n ih =>
    intro x2 h2 x3 h3 x4 h4 x5 h5 σ hσ q h k
    rw [fX12_holdsFor_L9] at h
    have pc22 : ∀ (x4 : Int) (h4 : rg x4) (x5 : Int) (h5 : rg x5) (y0 : Int) (g0 : rg y0) (y1 : Int) (g1 : rg y1) (σ : Sg) (hσ : wfS yR σ), fX12_holdsFor_L9P292 (fX12_holdsFor_L9 n) x2 x3 x4 x5 y0 y1 σ = some q → J x yR g 8 292 [(0, .ref (gad g 0)), (2, vi x2), (3, vi x3), (4, vi x4), (5, vi x5)] [vi y0, vi y1, .ref (gad g 39)] σ := by
      intro x4 h4 x5 h5 y0 g0 y1 g1 σ hσ h
      unfold fX12_holdsFor_L9P292 at h
      refine J_zast C aR_39 hσ dX12_holdsFor_292 h (fun σ23 hσ24 h => ?_)
      refine J_goto C (tgt := 9) dX12_holdsFor_293 (by decide) ?_
      exact J_sub [0, 1, 2, 3, 4] rfl (ih x2 h2 x3 h3 x4 h4 x5 h5 σ23 hσ24 q h k)
    have pc21 : ∀ (x4 : Int) (h4 : rg x4) (x5 : Int) (h5 : rg x5) (y0 : Int) (g0 : rg y0) (σ : Sg) (hσ : wfS yR σ), fX12_holdsFor_L9P287 (fX12_holdsFor_L9 n) x2 x3 x4 x5 y0 σ = some q → J x yR g 8 287 [(0, .ref (gad g 0)), (2, vi x2), (3, vi x3), (4, vi x4), (5, vi x5)] [vi y0, .ref (gad g 39)] σ := by
      intro x4 h4 x5 h5 y0 g0 σ hσ h
      unfold fX12_holdsFor_L9P287 at h
      refine J_iconst C dX12_holdsFor_287 ?_
      refine J_goto C (tgt := 292) dX12_holdsFor_288 (by decide) ?_
      exact J_sub [0, 1, 2, 3, 4] rfl (pc22 x4 h4 x5 h5 1 rl_1 y0 g0 σ hσ h)
    have pc35 : ∀ (x4 : Int) (h4 : rg x4) (x5 : Int) (h5 : rg x5) (y0 : Int) (g0 : rg y0) (σ : Sg) (hσ : wfS yR σ), fX12_holdsFor_L9P261 (fX12_holdsFor_L9 n) x2 x3 x4 x5 y0 σ = some q → J x yR g 8 261 [(0, .ref (gad g 0)), (2, vi x2), (3, vi x3), (4, vi x4), (5, vi x5)] [vi y0, .ref (gad g 39)] σ := by
      intro x4 h4 x5 h5 y0 g0 σ hσ h
      unfold fX12_holdsFor_L9P261 at h
      refine J_iconst C dX12_holdsFor_261 ?_
      refine J_goto C (tgt := 292) dX12_holdsFor_262 (by decide) ?_
      exact J_sub [0, 1, 2, 3, 4] rfl (pc22 x4 h4 x5 h5 0 rl_0 y0 g0 σ hσ h)
    have pc47 : ∀ (x4 : Int) (h4 : rg x4) (x5 : Int) (h5 : rg x5) (y0 : Int) (g0 : rg y0) (y1 : Int) (g1 : rg y1) (σ : Sg) (hσ : wfS yR σ), fX12_holdsFor_L9P213 (fX12_holdsFor_L9 n) x2 x3 x4 x5 y0 y1 σ = some q → J x yR g 8 213 [(0, .ref (gad g 0)), (2, vi x2), (3, vi x3), (4, vi x4), (5, vi x5)] [vi y0, vi y1, .ref (gad g 39)] σ := by
      intro x4 h4 x5 h5 y0 g0 y1 g1 σ hσ h
      unfold fX12_holdsFor_L9P213 at h
      refine J_zast C aR_39 hσ dX12_holdsFor_213 h (fun σ48 hσ49 h => ?_)
      refine J_goto C (tgt := 9) dX12_holdsFor_214 (by decide) ?_
      exact J_sub [0, 1, 2, 3, 4] rfl (ih x2 h2 x3 h3 x4 h4 x5 h5 σ48 hσ49 q h k)
    have pc56 : ∀ (x4 : Int) (h4 : rg x4) (x5 : Int) (h5 : rg x5) (y0 : Int) (g0 : rg y0) (y1 : Int) (g1 : rg y1) (σ : Sg) (hσ : wfS yR σ), fX12_holdsFor_L9P168 (fX12_holdsFor_L9 n) x2 x3 x4 x5 y0 y1 σ = some q → J x yR g 8 168 [(0, .ref (gad g 0)), (2, vi x2), (3, vi x3), (4, vi x4), (5, vi x5)] [vi y0, vi y1, .ref (gad g 39)] σ := by
      intro x4 h4 x5 h5 y0 g0 y1 g1 σ hσ h
      unfold fX12_holdsFor_L9P168 at h
      refine J_zast C aR_39 hσ dX12_holdsFor_168 h (fun σ57 hσ58 h => ?_)
      refine J_iinc C 4 3 dX12_holdsFor_169 rfl (by decide) h (fun v59 hv60 h => ?_)
      refine J_iinc C 5 4 dX12_holdsFor_172 rfl (by decide) h (fun v61 hv62 h => ?_)
      refine J_goto C (tgt := 9) dX12_holdsFor_175 (by decide) ?_
      exact J_sub [2, 3, 4, 1, 0] rfl (ih x2 h2 x3 h3 v59 hv60 v61 hv62 σ57 hσ58 q h k)
    refine J_aload_n C 0 dX12_holdsFor_9 rfl 0 rfl ?_
    refine J_getR C fl_RX12_82 oR_0 rfl dX12_holdsFor_10 ?_
    refine J_iload C 5 dX12_holdsFor_13 4 rfl ?_
    refine J_iald C aR_25 hσ dX12_holdsFor_15 h (fun v3 hv4 h => ?_)
    refine J_if_eq C hv4 (tgt := 296) dX12_holdsFor_16 (by decide) h (fun h c89 => ?_) (fun h c89 => ?_)
    · have e9 := sE h
      subst e9
      exact J_sub [0] rfl (k hσ)
    · refine J_aload_n C 0 dX12_holdsFor_19 rfl 0 rfl ?_
      refine J_getR C fl_RX12_82 oR_0 rfl dX12_holdsFor_20 ?_
      refine J_iload C 5 dX12_holdsFor_23 4 rfl ?_
      refine J_iconst C dX12_holdsFor_25 ?_
      refine J_iadd C dX12_holdsFor_26 h (fun v5 hv6 h => ?_)
      refine J_iald C aR_25 hσ dX12_holdsFor_27 h (fun v7 hv8 h => ?_)
      refine J_istore (lo2 := [(6, vi v7), (0, .ref (gad g 0)), (2, vi x2), (3, vi x3), (4, vi x4), (5, vi x5)]) C 6 dX12_holdsFor_28 (by decide) rfl ?_
      refine J_aload_n C 0 dX12_holdsFor_30 rfl 1 rfl ?_
      refine J_getR C fl_RX12_82 oR_0 rfl dX12_holdsFor_31 ?_
      refine J_iload C 5 dX12_holdsFor_34 5 rfl ?_
      refine J_iald C aR_25 hσ dX12_holdsFor_36 h (fun v9 hv10 h => ?_)
      refine J_istore (lo2 := [(7, vi v9), (6, vi v7), (0, .ref (gad g 0)), (2, vi x2), (3, vi x3), (4, vi x4), (5, vi x5)]) C 7 dX12_holdsFor_37 (by decide) rfl ?_
      refine J_iload C 7 dX12_holdsFor_39 0 rfl ?_
      refine J_bipush C dX12_holdsFor_41 (bp8 (by decide) (by decide)) ?_
      refine J_icmp_ge C hv10 rl_6 (tgt := 178) dX12_holdsFor_43 (by decide) h (fun h c88 => ?_) (fun h c88 => ?_)
      · refine J_aload_n C 0 dX12_holdsFor_46 rfl 2 rfl ?_
        refine J_getR C fl_RX12_126 oR_0 rfl dX12_holdsFor_47 ?_
        refine J_iload C 4 dX12_holdsFor_50 5 rfl ?_
        refine J_iload C 7 dX12_holdsFor_52 0 rfl ?_
        refine J_iconst C dX12_holdsFor_54 ?_
        refine J_icmp_ne C hv10 rl_1 (tgt := 79) dX12_holdsFor_55 (by decide) h (fun h c87 => ?_) (fun h c87 => ?_)
        · refine J_aload_n C 0 dX12_holdsFor_58 rfl 2 rfl ?_
          refine J_iload_n C 2 dX12_holdsFor_59 rfl 3 rfl ?_
          obtain ⟨q82, cq82, h⟩ := bdS h
          refine J_callV C mw_X12_fire ml_RX12_254 (m_X12_fire x.2.1 g (CxI C) x2 h2 σ hσ q82 cq82) oR_0 rfl (Nat.le_of_ble_eq_true rfl) (Nat.le_of_ble_eq_true rfl) rfl rfl (Nat.le_of_ble_eq_true rfl) dX12_holdsFor_60 (fun hz83 => ?_)
          refine J_bipush C dX12_holdsFor_63 (bp8 (by decide) (by decide)) ?_
          refine J_iload C 6 dX12_holdsFor_65 1 rfl ?_
          refine J_imul C dX12_holdsFor_67 h (fun v84 hv85 h => ?_)
          refine J_icmp_lt C hz83 hv85 (tgt := 75) dX12_holdsFor_68 (by decide) h (fun h c86 => ?_) (fun h c86 => ?_)
          · refine J_iconst C dX12_holdsFor_75 ?_
            refine J_goto C (tgt := 168) dX12_holdsFor_76 (by decide) ?_
            exact J_sub [2, 3, 4, 5, 6] rfl (pc56 x4 h4 x5 h5 0 rl_0 x4 h4 σ hσ h)
          · refine J_iconst C dX12_holdsFor_71 ?_
            refine J_goto C (tgt := 168) dX12_holdsFor_72 (by decide) ?_
            exact J_sub [2, 3, 4, 5, 6] rfl (pc56 x4 h4 x5 h5 1 rl_1 x4 h4 σ hσ h)
        · refine J_iload C 7 dX12_holdsFor_79 0 rfl ?_
          refine J_iconst C dX12_holdsFor_81 ?_
          refine J_icmp_ne C hv10 rl_2 (tgt := 99) dX12_holdsFor_82 (by decide) h (fun h c81 => ?_) (fun h c81 => ?_)
          · refine J_iload_n C 3 dX12_holdsFor_85 rfl 4 rfl ?_
            refine J_iload C 6 dX12_holdsFor_86 1 rfl ?_
            refine J_icmp_lt C h3 hv8 (tgt := 95) dX12_holdsFor_88 (by decide) h (fun h c80 => ?_) (fun h c80 => ?_)
            · refine J_iconst C dX12_holdsFor_95 ?_
              refine J_goto C (tgt := 168) dX12_holdsFor_96 (by decide) ?_
              exact J_sub [2, 3, 4, 5, 6] rfl (pc56 x4 h4 x5 h5 0 rl_0 x4 h4 σ hσ h)
            · refine J_iconst C dX12_holdsFor_91 ?_
              refine J_goto C (tgt := 168) dX12_holdsFor_92 (by decide) ?_
              exact J_sub [2, 3, 4, 5, 6] rfl (pc56 x4 h4 x5 h5 1 rl_1 x4 h4 σ hσ h)
          · refine J_iload C 7 dX12_holdsFor_99 0 rfl ?_
            refine J_iconst C dX12_holdsFor_101 ?_
            refine J_icmp_ne C hv10 rl_3 (tgt := 127) dX12_holdsFor_102 (by decide) h (fun h c79 => ?_) (fun h c79 => ?_)
            · refine J_aload_n C 0 dX12_holdsFor_105 rfl 2 rfl ?_
              refine J_aload_n C 0 dX12_holdsFor_106 rfl 2 rfl ?_
              refine J_iload_n C 2 dX12_holdsFor_107 rfl 3 rfl ?_
              obtain ⟨q74, cq74, h⟩ := bdS h
              refine J_callV C mw_X12_fire ml_RX12_254 (m_X12_fire x.2.1 g (CxI C) x2 h2 σ hσ q74 cq74) oR_0 rfl (Nat.le_of_ble_eq_true rfl) (Nat.le_of_ble_eq_true rfl) rfl rfl (Nat.le_of_ble_eq_true rfl) dX12_holdsFor_108 (fun hz75 => ?_)
              obtain ⟨q76, cq76, h⟩ := bdS h
              refine J_callV C mw_X12_knownWind ml_RX12_278 (m_X12_knownWind x.2.1 g (CxI C) q74 hz75 σ hσ q76 cq76) oR_0 rfl (Nat.le_of_ble_eq_true rfl) (Nat.le_of_ble_eq_true rfl) rfl rfl (Nat.le_of_ble_eq_true rfl) dX12_holdsFor_111 (fun hz77 => ?_)
              refine J_iload C 6 dX12_holdsFor_114 1 rfl ?_
              refine J_icmp_ne C hz77 hv8 (tgt := 123) dX12_holdsFor_116 (by decide) h (fun h c78 => ?_) (fun h c78 => ?_)
              · refine J_iconst C dX12_holdsFor_119 ?_
                refine J_goto C (tgt := 168) dX12_holdsFor_120 (by decide) ?_
                exact J_sub [2, 3, 4, 5, 6] rfl (pc56 x4 h4 x5 h5 1 rl_1 x4 h4 σ hσ h)
              · refine J_iconst C dX12_holdsFor_123 ?_
                refine J_goto C (tgt := 168) dX12_holdsFor_124 (by decide) ?_
                exact J_sub [2, 3, 4, 5, 6] rfl (pc56 x4 h4 x5 h5 0 rl_0 x4 h4 σ hσ h)
            · refine J_iload C 7 dX12_holdsFor_127 0 rfl ?_
              refine J_iconst C dX12_holdsFor_129 ?_
              refine J_icmp_ne C hv10 rl_4 (tgt := 152) dX12_holdsFor_130 (by decide) h (fun h c73 => ?_) (fun h c73 => ?_)
              · refine J_aload_n C 0 dX12_holdsFor_133 rfl 2 rfl ?_
                refine J_getR C fl_RX12_52 oR_0 rfl dX12_holdsFor_134 ?_
                refine J_iload_n C 2 dX12_holdsFor_137 rfl 3 rfl ?_
                refine J_iald C aR_15 hσ dX12_holdsFor_138 h (fun v70 hv71 h => ?_)
                refine J_iload C 6 dX12_holdsFor_139 1 rfl ?_
                refine J_icmp_ne C hv71 hv8 (tgt := 148) dX12_holdsFor_141 (by decide) h (fun h c72 => ?_) (fun h c72 => ?_)
                · refine J_iconst C dX12_holdsFor_144 ?_
                  refine J_goto C (tgt := 168) dX12_holdsFor_145 (by decide) ?_
                  exact J_sub [2, 3, 4, 5, 6] rfl (pc56 x4 h4 x5 h5 1 rl_1 x4 h4 σ hσ h)
                · refine J_iconst C dX12_holdsFor_148 ?_
                  refine J_goto C (tgt := 168) dX12_holdsFor_149 (by decide) ?_
                  exact J_sub [2, 3, 4, 5, 6] rfl (pc56 x4 h4 x5 h5 0 rl_0 x4 h4 σ hσ h)
              · refine J_aload_n C 0 dX12_holdsFor_152 rfl 2 rfl ?_
                refine J_getR C fl_RX12_49 oR_0 rfl dX12_holdsFor_153 ?_
                refine J_iload_n C 2 dX12_holdsFor_156 rfl 3 rfl ?_
                refine J_iald C aR_14 hσ dX12_holdsFor_157 h (fun v54 hv55 h => ?_)
                refine J_iload C 6 dX12_holdsFor_158 1 rfl ?_
                refine J_icmp_ne C hv55 hv8 (tgt := 167) dX12_holdsFor_160 (by decide) h (fun h c69 => ?_) (fun h c69 => ?_)
                · refine J_iconst C dX12_holdsFor_163 ?_
                  refine J_goto C (tgt := 168) dX12_holdsFor_164 (by decide) ?_
                  exact J_sub [2, 3, 4, 5, 6] rfl (pc56 x4 h4 x5 h5 1 rl_1 x4 h4 σ hσ h)
                · refine J_iconst C dX12_holdsFor_167 ?_
                  exact J_sub [2, 3, 4, 5, 6] rfl (pc56 x4 h4 x5 h5 0 rl_0 x4 h4 σ hσ h)
      · refine J_iinc C 5 6 dX12_holdsFor_178 rfl (by decide) h (fun v11 hv12 h => ?_)
        refine J_iload C 7 dX12_holdsFor_181 1 rfl ?_
        refine J_bipush C dX12_holdsFor_183 (bp8 (by decide) (by decide)) ?_
        refine J_icmp_ne C hv10 rl_8 (tgt := 217) dX12_holdsFor_185 (by decide) h (fun h c53 => ?_) (fun h c53 => ?_)
        · refine J_aload_n C 0 dX12_holdsFor_188 rfl 3 rfl ?_
          refine J_getR C fl_RX12_126 oR_0 rfl dX12_holdsFor_189 ?_
          refine J_iload C 4 dX12_holdsFor_192 6 rfl ?_
          refine J_iconst C dX12_holdsFor_194 ?_
          refine J_isub C dX12_holdsFor_195 h (fun v41 hv42 h => ?_)
          refine J_aload_n C 0 dX12_holdsFor_196 rfl 3 rfl ?_
          refine J_getR C fl_RX12_126 oR_0 rfl dX12_holdsFor_197 ?_
          refine J_iload C 4 dX12_holdsFor_200 6 rfl ?_
          refine J_iconst C dX12_holdsFor_202 ?_
          refine J_isub C dX12_holdsFor_203 h (fun v43 hv44 h => ?_)
          refine J_zald C aR_39 hσ dX12_holdsFor_204 h (fun v45 hv46 h => ?_)
          refine J_if_ne C hv46 (tgt := 212) dX12_holdsFor_205 (by decide) h (fun h c52 => ?_) (fun h c52 => ?_)
          · refine J_iconst C dX12_holdsFor_208 ?_
            refine J_goto C (tgt := 213) dX12_holdsFor_209 (by decide) ?_
            exact J_sub [3, 4, 5, 6, 0] rfl (pc47 x4 h4 v11 hv12 1 rl_1 v41 hv42 σ hσ h)
          · refine J_iconst C dX12_holdsFor_212 ?_
            exact J_sub [3, 4, 5, 6, 0] rfl (pc47 x4 h4 v11 hv12 0 rl_0 v41 hv42 σ hσ h)
        · refine J_iinc C 4 6 dX12_holdsFor_217 rfl (by decide) h (fun v13 hv14 h => ?_)
          refine J_aload_n C 0 dX12_holdsFor_220 rfl 4 rfl ?_
          refine J_getR C fl_RX12_126 oR_0 rfl dX12_holdsFor_221 ?_
          refine J_iload C 4 dX12_holdsFor_224 0 rfl ?_
          refine J_iconst C dX12_holdsFor_226 ?_
          refine J_isub C dX12_holdsFor_227 h (fun v15 hv16 h => ?_)
          refine J_iload C 7 dX12_holdsFor_228 2 rfl ?_
          refine J_bipush C dX12_holdsFor_230 (bp8 (by decide) (by decide)) ?_
          refine J_icmp_ne C hv10 rl_6 (tgt := 265) dX12_holdsFor_232 (by decide) h (fun h c40 => ?_) (fun h c40 => ?_)
          · refine J_aload_n C 0 dX12_holdsFor_235 rfl 4 rfl ?_
            refine J_getR C fl_RX12_126 oR_0 rfl dX12_holdsFor_236 ?_
            refine J_iload C 4 dX12_holdsFor_239 0 rfl ?_
            refine J_iconst C dX12_holdsFor_241 ?_
            refine J_isub C dX12_holdsFor_242 h (fun v31 hv32 h => ?_)
            refine J_zald C aR_39 hσ dX12_holdsFor_243 h (fun v33 hv34 h => ?_)
            refine J_if_eq C hv34 (tgt := 261) dX12_holdsFor_244 (by decide) h (fun h c39 => ?_) (fun h c39 => ?_)
            · exact J_sub [4, 5, 6, 0, 1] rfl (pc35 v13 hv14 v11 hv12 v15 hv16 σ hσ h)
            · refine J_aload_n C 0 dX12_holdsFor_247 rfl 4 rfl ?_
              refine J_getR C fl_RX12_126 oR_0 rfl dX12_holdsFor_248 ?_
              refine J_iload C 4 dX12_holdsFor_251 0 rfl ?_
              refine J_zald C aR_39 hσ dX12_holdsFor_253 h (fun v36 hv37 h => ?_)
              refine J_if_eq C hv37 (tgt := 261) dX12_holdsFor_254 (by decide) h (fun h c38 => ?_) (fun h c38 => ?_)
              · exact J_sub [4, 5, 6, 0, 1] rfl (pc35 v13 hv14 v11 hv12 v15 hv16 σ hσ h)
              · refine J_iconst C dX12_holdsFor_257 ?_
                refine J_goto C (tgt := 292) dX12_holdsFor_258 (by decide) ?_
                exact J_sub [4, 5, 6, 0, 1] rfl (pc22 v13 hv14 v11 hv12 1 rl_1 v15 hv16 σ hσ h)
          · refine J_aload_n C 0 dX12_holdsFor_265 rfl 4 rfl ?_
            refine J_getR C fl_RX12_126 oR_0 rfl dX12_holdsFor_266 ?_
            refine J_iload C 4 dX12_holdsFor_269 0 rfl ?_
            refine J_iconst C dX12_holdsFor_271 ?_
            refine J_isub C dX12_holdsFor_272 h (fun v17 hv18 h => ?_)
            refine J_zald C aR_39 hσ dX12_holdsFor_273 h (fun v19 hv20 h => ?_)
            refine J_if_ne C hv20 (tgt := 287) dX12_holdsFor_274 (by decide) h (fun h c30 => ?_) (fun h c30 => ?_)
            · refine J_aload_n C 0 dX12_holdsFor_277 rfl 4 rfl ?_
              refine J_getR C fl_RX12_126 oR_0 rfl dX12_holdsFor_278 ?_
              refine J_iload C 4 dX12_holdsFor_281 0 rfl ?_
              refine J_zald C aR_39 hσ dX12_holdsFor_283 h (fun v27 hv28 h => ?_)
              refine J_if_eq C hv28 (tgt := 291) dX12_holdsFor_284 (by decide) h (fun h c29 => ?_) (fun h c29 => ?_)
              · refine J_iconst C dX12_holdsFor_291 ?_
                exact J_sub [4, 5, 6, 0, 1] rfl (pc22 v13 hv14 v11 hv12 0 rl_0 v15 hv16 σ hσ h)
              · exact J_sub [4, 5, 6, 0, 1] rfl (pc21 v13 hv14 v11 hv12 v15 hv16 σ hσ h)
            · exact J_sub [4, 5, 6, 0, 1] rfl (pc21 v13 hv14 v11 hv12 v15 hv16 σ hσ h)
set_option maxRecDepth 100000 in
set_option maxHeartbeats 4000000 in
theorem m_X12_holdsFor (l : Launch) (g : Gm) (hg : gInj yR g) (x1 : Int) (h1 : rg x1) (x2 : Int) (h2 : rg x2) (x3 : Int) (h3 : rg x3) (σ : Sg) (hσ : wfS yR σ) (q : Int × Sg) (h : fX12_holdsFor x1 x2 x3 σ = some q) : CJ l yR g yX12_holdsFor cX12_holdsFor 8 (some .boolean) 1 23 [.ref (gad g 0), vi x1, vi x2, vi x3] σ (some (vi q.1)) q.2 ((q.1 = 0 ∨ q.1 = 1) ∧ wfS yR q.2) := by
  refine CJ_of hg (by decide) rfl (Nat.le_of_ble_eq_true rfl) (lo := [(0, .ref (gad g 0)), (1, vi x1), (2, vi x2), (3, vi x3)]) rfl (fun x C E => ?_)
  unfold fX12_holdsFor at h
  refine J_iconst C dX12_holdsFor_0 ?_
  refine J_istore (lo2 := [(4, vi 0), (0, .ref (gad g 0)), (1, vi x1), (2, vi x2), (3, vi x3)]) C 4 dX12_holdsFor_1 (by decide) rfl ?_
  refine J_bipush C dX12_holdsFor_3 (bp8 (by decide) (by decide)) ?_
  refine J_iload_n C 1 dX12_holdsFor_5 rfl 2 rfl ?_
  refine J_imul C dX12_holdsFor_6 h (fun v1 hv2 h => ?_)
  refine J_istore (lo2 := [(5, vi v1), (4, vi 0), (0, .ref (gad g 0)), (1, vi x1), (2, vi x2), (3, vi x3)]) C 5 dX12_holdsFor_7 (by decide) rfl ?_
  obtain ⟨q90, cq90, h⟩ := bdS h
  refine J_sub [2, 4, 5, 1, 0] rfl (wX12_holdsFor_L9 C fu x2 h2 x3 h3 0 rl_0 v1 hv2 σ hσ q90 cq90 (fun hσ91 => ?_))
  refine J_aload_n C 0 dX12_holdsFor_296 rfl 0 rfl ?_
  refine J_getR C fl_RX12_126 oR_0 rfl dX12_holdsFor_297 ?_
  refine J_iconst C dX12_holdsFor_300 ?_
  refine J_zald C aR_39 hσ91 dX12_holdsFor_301 h (fun v92 hv93 h => ?_)
  obtain ⟨hbl, h⟩ := some_if h
  have e9 := sE h
  subst e9
  exact J_zret C hbl E ⟨hbl, hσ91⟩ dX12_holdsFor_302
set_option maxRecDepth 100000 in
set_option maxHeartbeats 4000000 in
theorem m_X12_fault (l : Launch) (g : Gm) (hg : gInj yR g) (x1 : Int) (h1 : rg x1) (x2 : Int) (h2 : rg x2) (σ : Sg) (hσ : wfS yR σ) (q : Int × Sg) (h : fX12_fault x1 x2 σ = some q) : CJ l yR g yX12_fault cX12_fault 4 (some .int) 2 43 [.ref (gad g 0), vi x1, vi x2] σ (some (vi q.1)) q.2 ((rg q.1) ∧ wfS yR q.2) := by
  refine CJ_of hg (by decide) rfl (Nat.le_of_ble_eq_true rfl) (lo := [(0, .ref (gad g 0)), (1, vi x1), (2, vi x2)]) rfl (fun x C E => ?_)
  unfold fX12_fault at h
  refine J_aload_n C 0 dX12_fault_0 rfl 0 rfl ?_
  refine J_iconst C dX12_fault_1 ?_
  refine J_putZ C fl_RX12_155 fp_RX12_54 oR_0 rfl rfl lR_0 hσ (Or.inl rfl) dX12_fault_2 h (fun σ1 hσ2 h => ?_)
  refine J_aload_n C 0 dX12_fault_5 rfl 0 rfl ?_
  refine J_iload_n C 1 dX12_fault_6 rfl 1 rfl ?_
  obtain ⟨q3, cq3, h⟩ := bdS h
  refine J_callV C mw_X12_isCue ml_RX12_244 (m_X12_isCue x.2.1 g (CxI C) x1 h1 σ1 hσ2 q3 cq3) oR_0 rfl (Nat.le_of_ble_eq_true rfl) (Nat.le_of_ble_eq_true rfl) rfl rfl (Nat.le_of_ble_eq_true rfl) dX12_fault_7 (fun hz4 => ?_)
  refine J_if_eq C (rg01 hz4) (tgt := 23) dX12_fault_10 (by decide) h (fun h c12 => ?_) (fun h c12 => ?_)
  · refine J_iconst C dX12_fault_23 ?_
    have e9 := sE h
    subst e9
    exact J_iret C E ⟨rl_m1, hσ2⟩ dX12_fault_24
  · refine J_iload_n C 2 dX12_fault_13 rfl 2 rfl ?_
    refine J_iconst C dX12_fault_14 ?_
    refine J_bipush C dX12_fault_15 (bp8 (by decide) (by decide)) ?_
    obtain ⟨q5, cq5, h⟩ := bdS h
    refine J_callS C mw_X12_isIn ml_RX12_177 (m_X12_isIn x.2.1 g (CxI C) x2 h2 0 rl_0 6 rl_6 σ1 hσ2 q5 cq5) (Nat.le_of_ble_eq_true rfl) (Nat.le_of_ble_eq_true rfl) rfl rfl (Nat.le_of_ble_eq_true rfl) dX12_fault_17 (fun hz6 => ?_)
    refine J_if_ne C (rg01 hz6) (tgt := 25) dX12_fault_20 (by decide) h (fun h c11 => ?_) (fun h c11 => ?_)
    · refine J_iconst C dX12_fault_23 ?_
      have e9 := sE h
      subst e9
      exact J_iret C E ⟨rl_m1, hσ2⟩ dX12_fault_24
    · refine J_aload_n C 0 dX12_fault_25 rfl 0 rfl ?_
      refine J_getR C fl_RX12_58 oR_0 rfl dX12_fault_26 ?_
      refine J_iload_n C 1 dX12_fault_29 rfl 1 rfl ?_
      refine J_iald C aR_17 hσ2 dX12_fault_30 h (fun v7 hv8 h => ?_)
      refine J_istore_n (lo2 := [(3, vi v7), (0, .ref (gad g 0)), (1, vi x1), (2, vi x2)]) C 3 dX12_fault_31 rfl (by decide) rfl ?_
      refine J_aload_n C 0 dX12_fault_32 rfl 1 rfl ?_
      refine J_getR C fl_RX12_58 oR_0 rfl dX12_fault_33 ?_
      refine J_iload_n C 1 dX12_fault_36 rfl 2 rfl ?_
      refine J_iload_n C 2 dX12_fault_37 rfl 3 rfl ?_
      refine J_iast C aR_17 hσ2 h2 dX12_fault_38 h (fun σ9 hσ10 h => ?_)
      refine J_iload_n C 3 dX12_fault_39 rfl 0 rfl ?_
      have e9 := sE h
      subst e9
      exact J_iret C E ⟨hv8, hσ10⟩ dX12_fault_40
set_option maxRecDepth 100000 in
set_option maxHeartbeats 4000000 in
theorem m_X12_halt (l : Launch) (g : Gm) (hg : gInj yR g) (x1 : Int) (h1 : rg x1) (σ : Sg) (hσ : wfS yR σ) (q : Int × Sg) (h : fX12_halt x1 σ = some q) : CJ l yR g yX12_halt cX12_halt 3 (some .int) 1 22 [.ref (gad g 0), vi x1] σ (some (vi q.1)) q.2 ((rg q.1) ∧ wfS yR q.2) := by
  refine CJ_of hg (by decide) rfl (Nat.le_of_ble_eq_true rfl) (lo := [(0, .ref (gad g 0)), (1, vi x1)]) rfl (fun x C E => ?_)
  unfold fX12_halt at h
  refine J_aload_n C 0 dX12_halt_0 rfl 0 rfl ?_
  refine J_iconst C dX12_halt_1 ?_
  refine J_putZ C fl_RX12_155 fp_RX12_54 oR_0 rfl rfl lR_0 hσ (Or.inl rfl) dX12_halt_2 h (fun σ1 hσ2 h => ?_)
  refine J_iload_n C 1 dX12_halt_5 rfl 1 rfl ?_
  refine J_iconst C dX12_halt_6 ?_
  refine J_sipush C dX12_halt_7 (bp16 (by decide) (by decide)) ?_
  obtain ⟨q3, cq3, h⟩ := bdS h
  refine J_callS C mw_X12_isIn ml_RX12_177 (m_X12_isIn x.2.1 g (CxI C) x1 h1 (-1) rl_m1 20000 rl_20000 σ1 hσ2 q3 cq3) (Nat.le_of_ble_eq_true rfl) (Nat.le_of_ble_eq_true rfl) rfl rfl (Nat.le_of_ble_eq_true rfl) dX12_halt_10 (fun hz4 => ?_)
  refine J_if_ne C (rg01 hz4) (tgt := 18) dX12_halt_13 (by decide) h (fun h c7 => ?_) (fun h c7 => ?_)
  · refine J_iconst C dX12_halt_16 ?_
    have e9 := sE h
    subst e9
    exact J_iret C E ⟨rl_m1, hσ2⟩ dX12_halt_17
  · refine J_aload_n C 0 dX12_halt_18 rfl 0 rfl ?_
    refine J_getI C fl_RX12_168 oR_0 rfl dX12_halt_19 ?_
    refine J_istore_n (lo2 := [(2, vi (σ1 0 35)), (0, .ref (gad g 0)), (1, vi x1)]) C 2 dX12_halt_22 rfl (by decide) rfl ?_
    refine J_aload_n C 0 dX12_halt_23 rfl 1 rfl ?_
    refine J_iload_n C 1 dX12_halt_24 rfl 2 rfl ?_
    refine J_putI C fl_RX12_168 fp_RX12_35 oR_0 rfl rfl lR_0 hσ2 h1 dX12_halt_25 h (fun σ5 hσ6 h => ?_)
    refine J_iload_n C 2 dX12_halt_28 rfl 0 rfl ?_
    have e9 := sE h
    subst e9
    exact J_iret C E ⟨(hσ2 0 35 lR_0), hσ6⟩ dX12_halt_29
set_option maxRecDepth 100000 in
set_option maxHeartbeats 4000000 in
theorem wX12_otherKind_L2 {x : Ct} {g : Gm} (C : Cx x yR g 4 cX12_otherKind RX12 2 58) : ∀ (n : Nat) (x1 : Int) (h1 : rg x1) (x2 : Int) (h2 : rg x2) (x3 : Int) (h3 : rg x3) (σ : Sg) (hσ : wfS yR σ) (q : (Int) ⊕ (Unit)) (h : fX12_otherKind_L2 n x1 x2 x3 σ = some q) (k0 : ∀ a : Int, q = .inl a → rg a → J x yR g 4 91 [(3, vi a)] [] σ) (k1 : ∀ a : Unit, q = .inr a → J x yR g 4 99 [] [] σ), J x yR g 4 2 [(0, .ref (gad g 0)), (1, vi x1), (2, vi x2), (3, vi x3)] [] σ := by
  intro n
  induction n with
  | zero =>
    intro x1 h1 x2 h2 x3 h3 σ hσ q h k0 k1
    exact absurd h (by intro z; cases z)
  | succ n ih =>
    intro x1 h1 x2 h2 x3 h3 σ hσ q h k0 k1
    rw [fX12_otherKind_L2] at h
    have pc3 : ∀ (x3 : Int) (h3 : rg x3), fX12_otherKind_L2P93 (fX12_otherKind_L2 n) x1 x2 x3 σ = some q → J x yR g 4 93 [(0, .ref (gad g 0)), (1, vi x1), (2, vi x2), (3, vi x3)] [] σ := by
      intro x3 h3 h
      unfold fX12_otherKind_L2P93 at h
      refine J_iinc C 3 3 dX12_otherKind_93 rfl (by decide) h (fun v4 hv5 h => ?_)
      refine J_goto C (tgt := 2) dX12_otherKind_96 (by decide) ?_
      exact J_sub [1, 2, 3, 0] rfl (ih x1 h1 x2 h2 v4 hv5 σ hσ q h k0 k1)
    refine J_iload_n C 3 dX12_otherKind_2 rfl 3 rfl ?_
    refine J_bipush C dX12_otherKind_3 (bp8 (by decide) (by decide)) ?_
    refine J_icmp_ge C h3 rl_12 (tgt := 99) dX12_otherKind_5 (by decide) h (fun h c35 => ?_) (fun h c35 => ?_)
    · refine J_aload_n C 0 dX12_otherKind_8 rfl 0 rfl ?_
      refine J_iload_n C 3 dX12_otherKind_9 rfl 3 rfl ?_
      obtain ⟨q1, cq1, h⟩ := bdS h
      refine J_callV C mw_X12_isKind ml_RX12_190 (m_X12_isKind x.2.1 g (CxI C) x3 h3 σ hσ q1 cq1) oR_0 rfl (Nat.le_of_ble_eq_true rfl) (Nat.le_of_ble_eq_true rfl) rfl rfl (Nat.le_of_ble_eq_true rfl) dX12_otherKind_10 (fun hz2 => ?_)
      refine J_if_eq C (rg01 hz2) (tgt := 93) dX12_otherKind_13 (by decide) h (fun h c34 => ?_) (fun h c34 => ?_)
      · exact J_sub [0, 1, 2, 3] rfl (pc3 x3 h3 h)
      · refine J_aload_n C 0 dX12_otherKind_16 rfl 0 rfl ?_
        refine J_getR C fl_RX12_25 oR_0 rfl dX12_otherKind_17 ?_
        refine J_iload_n C 3 dX12_otherKind_20 rfl 3 rfl ?_
        refine J_iald C aR_6 hσ dX12_otherKind_21 h (fun v8 hv9 h => ?_)
        refine J_aload_n C 0 dX12_otherKind_22 rfl 0 rfl ?_
        refine J_getR C fl_RX12_25 oR_0 rfl dX12_otherKind_23 ?_
        refine J_aload_n C 0 dX12_otherKind_26 rfl 0 rfl ?_
        refine J_getR C fl_RX12_49 oR_0 rfl dX12_otherKind_27 ?_
        refine J_iload_n C 1 dX12_otherKind_30 rfl 1 rfl ?_
        refine J_iald C aR_14 hσ dX12_otherKind_31 h (fun v10 hv11 h => ?_)
        refine J_iald C aR_6 hσ dX12_otherKind_32 h (fun v12 hv13 h => ?_)
        refine J_icmp_ne C hv9 hv13 (tgt := 93) dX12_otherKind_33 (by decide) h (fun h c33 => ?_) (fun h c33 => ?_)
        · refine J_aload_n C 0 dX12_otherKind_36 rfl 0 rfl ?_
          refine J_getR C fl_RX12_13 oR_0 rfl dX12_otherKind_37 ?_
          refine J_iload_n C 3 dX12_otherKind_40 rfl 3 rfl ?_
          refine J_iald C aR_2 hσ dX12_otherKind_41 h (fun v14 hv15 h => ?_)
          refine J_aload_n C 0 dX12_otherKind_42 rfl 0 rfl ?_
          refine J_getR C fl_RX12_13 oR_0 rfl dX12_otherKind_43 ?_
          refine J_aload_n C 0 dX12_otherKind_46 rfl 0 rfl ?_
          refine J_getR C fl_RX12_49 oR_0 rfl dX12_otherKind_47 ?_
          refine J_iload_n C 1 dX12_otherKind_50 rfl 1 rfl ?_
          refine J_iald C aR_14 hσ dX12_otherKind_51 h (fun v16 hv17 h => ?_)
          refine J_iald C aR_2 hσ dX12_otherKind_52 h (fun v18 hv19 h => ?_)
          refine J_icmp_gt C hv15 hv19 (tgt := 93) dX12_otherKind_53 (by decide) h (fun h c32 => ?_) (fun h c32 => ?_)
          · refine J_aload_n C 0 dX12_otherKind_56 rfl 0 rfl ?_
            refine J_aload_n C 0 dX12_otherKind_57 rfl 0 rfl ?_
            refine J_getR C fl_RX12_52 oR_0 rfl dX12_otherKind_58 ?_
            refine J_iload_n C 1 dX12_otherKind_61 rfl 1 rfl ?_
            refine J_iald C aR_15 hσ dX12_otherKind_62 h (fun v20 hv21 h => ?_)
            refine J_iload_n C 3 dX12_otherKind_63 rfl 3 rfl ?_
            obtain ⟨q22, cq22, h⟩ := bdS h
            refine J_callV C mw_X12_mayHold ml_RX12_193 (m_X12_mayHold x.2.1 g (CxI C) v20 hv21 x3 h3 σ hσ q22 cq22) oR_0 rfl (Nat.le_of_ble_eq_true rfl) (Nat.le_of_ble_eq_true rfl) rfl rfl (Nat.le_of_ble_eq_true rfl) dX12_otherKind_64 (fun hz23 => ?_)
            refine J_if_eq C (rg01 hz23) (tgt := 93) dX12_otherKind_67 (by decide) h (fun h c31 => ?_) (fun h c31 => ?_)
            · exact J_sub [0, 1, 2, 3] rfl (pc3 x3 h3 h)
            · refine J_aload_n C 0 dX12_otherKind_70 rfl 0 rfl ?_
              refine J_iload_n C 3 dX12_otherKind_71 rfl 3 rfl ?_
              refine J_aload_n C 0 dX12_otherKind_72 rfl 0 rfl ?_
              refine J_getR C fl_RX12_52 oR_0 rfl dX12_otherKind_73 ?_
              refine J_iload_n C 1 dX12_otherKind_76 rfl 1 rfl ?_
              refine J_iald C aR_15 hσ dX12_otherKind_77 h (fun v24 hv25 h => ?_)
              refine J_aload_n C 0 dX12_otherKind_78 rfl 0 rfl ?_
              refine J_getR C fl_RX12_55 oR_0 rfl dX12_otherKind_79 ?_
              refine J_iload_n C 1 dX12_otherKind_82 rfl 1 rfl ?_
              refine J_iald C aR_16 hσ dX12_otherKind_83 h (fun v26 hv27 h => ?_)
              refine J_iload_n C 2 dX12_otherKind_84 rfl 2 rfl ?_
              obtain ⟨q28, cq28, h⟩ := bdS h
              refine J_callV C mw_X12_isSafe ml_RX12_205 (m_X12_isSafe x.2.1 g (CxI C) x3 h3 v24 hv25 v26 hv27 x2 h2 σ hσ q28 cq28) oR_0 rfl (Nat.le_of_ble_eq_true rfl) (Nat.le_of_ble_eq_true rfl) rfl rfl (Nat.le_of_ble_eq_true rfl) dX12_otherKind_85 (fun hz29 => ?_)
              refine J_if_eq C (rg01 hz29) (tgt := 93) dX12_otherKind_88 (by decide) h (fun h c30 => ?_) (fun h c30 => ?_)
              · exact J_sub [0, 1, 2, 3] rfl (pc3 x3 h3 h)
              · have e9 := sE h
                exact J_sub [3] rfl (k0 x3 e9.symm h3)
          · exact J_sub [0, 1, 2, 3] rfl (pc3 x3 h3 h)
        · exact J_sub [0, 1, 2, 3] rfl (pc3 x3 h3 h)
    · have e9 := sE h
      exact J_sub [] rfl (k1 () e9.symm)
set_option maxRecDepth 100000 in
set_option maxHeartbeats 4000000 in
theorem m_X12_otherKind (l : Launch) (g : Gm) (hg : gInj yR g) (x1 : Int) (h1 : rg x1) (x2 : Int) (h2 : rg x2) (σ : Sg) (hσ : wfS yR σ) (q : Int) (h : fX12_otherKind x1 x2 σ = some q) : CJ l yR g yX12_otherKind cX12_otherKind 4 (some .int) 2 58 [.ref (gad g 0), vi x1, vi x2] σ (some (vi q)) σ (rg q) := by
  refine CJ_of hg (by decide) rfl (Nat.le_of_ble_eq_true rfl) (lo := [(0, .ref (gad g 0)), (1, vi x1), (2, vi x2)]) rfl (fun x C E => ?_)
  unfold fX12_otherKind at h
  refine J_iconst C dX12_otherKind_0 ?_
  refine J_istore_n (lo2 := [(3, vi 0), (0, .ref (gad g 0)), (1, vi x1), (2, vi x2)]) C 3 dX12_otherKind_1 rfl (by decide) rfl ?_
  obtain ⟨q36, cq36, h⟩ := bdS h
  refine J_sub [1, 2, 3, 0] rfl (wX12_otherKind_L2 C fu x1 h1 x2 h2 0 rl_0 σ hσ q36 cq36 (fun a37 ea37 hr38 => ?_) (fun a39 ea39 => ?_))
  · subst ea37
    have h := elL h
    refine J_iload_n C 3 dX12_otherKind_91 rfl 0 rfl ?_
    have e9 := sE h
    subst e9
    exact J_iret C E hr38 dX12_otherKind_92
  · subst ea39
    have h := elR h
    refine J_iconst C dX12_otherKind_99 ?_
    have e9 := sE h
    subst e9
    exact J_iret C E rl_m1 dX12_otherKind_100
set_option maxRecDepth 100000 in
set_option maxHeartbeats 4000000 in
theorem wX12_fateOf_L38 {x : Ct} {g : Gm} (C : Cx x yR g 6 cX12_fateOf RX12 3 81) : ∀ (n : Nat) (x1 : Int) (h1 : rg x1) (x2 : Int) (h2 : rg x2) (x3 : Int) (h3 : rg x3) (x4 : Int) (h4 : rg x4) (σ : Sg) (hσ : wfS yR σ) (q : Int) (h : fX12_fateOf_L38 n x1 x2 x3 x4 σ = some q) (k : rg q → J x yR g 6 94 [(0, .ref (gad g 0)), (1, vi x1), (3, vi q)] [] σ), J x yR g 6 38 [(0, .ref (gad g 0)), (1, vi x1), (2, vi x2), (3, vi x3), (4, vi x4)] [] σ := by
  intro n
  induction n with
  | zero =>
    intro x1 h1 x2 h2 x3 h3 x4 h4 σ hσ q h k
    exact absurd h (by intro z; cases z)
  | succ n ih =>
    intro x1 h1 x2 h2 x3 h3 x4 h4 σ hσ q h k
    rw [fX12_fateOf_L38] at h
    have pc9 : ∀ (x4 : Int) (h4 : rg x4) (y0 : Int) (g0 : rg y0) (y1 : Int) (g1 : rg y1), fX12_fateOf_L38P86 (fX12_fateOf_L38 n) x1 x2 x4 y0 y1 σ = some q → J x yR g 6 86 [(0, .ref (gad g 0)), (1, vi x1), (2, vi x2), (4, vi x4)] [vi y0, vi y1] σ := by
      intro x4 h4 y0 g0 y1 g1 h
      unfold fX12_fateOf_L38P86 at h
      refine J_iadd C dX12_fateOf_86 h (fun v10 hv11 h => ?_)
      refine J_istore_n (lo2 := [(3, vi v10), (0, .ref (gad g 0)), (1, vi x1), (2, vi x2), (4, vi x4)]) C 3 dX12_fateOf_87 rfl (by decide) rfl ?_
      refine J_iinc C 4 4 dX12_fateOf_88 rfl (by decide) h (fun v12 hv13 h => ?_)
      refine J_goto C (tgt := 38) dX12_fateOf_91 (by decide) ?_
      exact J_sub [2, 3, 4, 1, 0] rfl (ih x1 h1 x2 h2 v10 hv11 v12 hv13 σ hσ q h k)
    have pc8 : ∀ (x4 : Int) (h4 : rg x4) (y0 : Int) (g0 : rg y0), fX12_fateOf_L38P85 (fX12_fateOf_L38 n) x1 x2 x4 y0 σ = some q → J x yR g 6 85 [(0, .ref (gad g 0)), (1, vi x1), (2, vi x2), (4, vi x4)] [vi y0] σ := by
      intro x4 h4 y0 g0 h
      unfold fX12_fateOf_L38P85 at h
      refine J_iconst C dX12_fateOf_85 ?_
      exact J_sub [0, 1, 2, 3] rfl (pc9 x4 h4 0 rl_0 y0 g0 h)
    refine J_iload C 4 dX12_fateOf_38 4 rfl ?_
    refine J_iload_n C 2 dX12_fateOf_40 rfl 2 rfl ?_
    refine J_icmp_ge C h4 h2 (tgt := 94) dX12_fateOf_41 (by decide) h (fun h c26 => ?_) (fun h c26 => ?_)
    · refine J_iload_n C 3 dX12_fateOf_44 rfl 3 rfl ?_
      refine J_aload_n C 0 dX12_fateOf_45 rfl 0 rfl ?_
      refine J_getR C fl_RX12_132 oR_0 rfl dX12_fateOf_46 ?_
      refine J_aload_n C 0 dX12_fateOf_49 rfl 0 rfl ?_
      refine J_getR C fl_RX12_129 oR_0 rfl dX12_fateOf_50 ?_
      refine J_iload C 4 dX12_fateOf_53 4 rfl ?_
      refine J_iald C aR_40 hσ dX12_fateOf_55 h (fun v4 hv5 h => ?_)
      refine J_iald C aR_41 hσ dX12_fateOf_56 h (fun v6 hv7 h => ?_)
      refine J_iconst C dX12_fateOf_57 ?_
      refine J_icmp_ne C hv7 rl_5 (tgt := 85) dX12_fateOf_58 (by decide) h (fun h c25 => ?_) (fun h c25 => ?_)
      · refine J_aload_n C 0 dX12_fateOf_61 rfl 0 rfl ?_
        refine J_getR C fl_RX12_46 oR_0 rfl dX12_fateOf_62 ?_
        refine J_aload_n C 0 dX12_fateOf_65 rfl 0 rfl ?_
        refine J_getR C fl_RX12_129 oR_0 rfl dX12_fateOf_66 ?_
        refine J_iload C 4 dX12_fateOf_69 4 rfl ?_
        refine J_iald C aR_40 hσ dX12_fateOf_71 h (fun v18 hv19 h => ?_)
        refine J_iald C aR_13 hσ dX12_fateOf_72 h (fun v20 hv21 h => ?_)
        refine J_aload_n C 0 dX12_fateOf_73 rfl 0 rfl ?_
        refine J_iload_n C 1 dX12_fateOf_74 rfl 1 rfl ?_
        obtain ⟨q22, cq22, h⟩ := bdS h
        refine J_callV C mw_X12_fire ml_RX12_254 (m_X12_fire x.2.1 g (CxI C) x1 h1 σ hσ q22 cq22) oR_0 rfl (Nat.le_of_ble_eq_true rfl) (Nat.le_of_ble_eq_true rfl) rfl rfl (Nat.le_of_ble_eq_true rfl) dX12_fateOf_75 (fun hz23 => ?_)
        refine J_icmp_gt C hv21 hz23 (tgt := 85) dX12_fateOf_78 (by decide) h (fun h c24 => ?_) (fun h c24 => ?_)
        · refine J_iconst C dX12_fateOf_81 ?_
          refine J_goto C (tgt := 86) dX12_fateOf_82 (by decide) ?_
          exact J_sub [0, 1, 2, 4] rfl (pc9 x4 h4 1 rl_1 x3 h3 h)
        · exact J_sub [0, 1, 2, 4] rfl (pc8 x4 h4 x3 h3 h)
      · exact J_sub [0, 1, 2, 4] rfl (pc8 x4 h4 x3 h3 h)
    · have e9 := sE h
      subst e9
      exact J_sub [0, 1, 3] rfl (k h3)
