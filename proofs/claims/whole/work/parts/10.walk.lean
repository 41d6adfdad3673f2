set_option maxRecDepth 100000 in
set_option maxHeartbeats 4000000 in
theorem m_X2_forget (l : Launch) (g : Gm) (hg : gInj yC g)  (σ : Sg) (hσ : wfS yC σ) (q : Sg) (h : fX2_forget  σ = some q) : CJ l yC g yX2_forget cX2_forget 1 none 1 60 [.ref (gad g 6)] σ none q (wfS yC q) := by
  refine CJ_of hg (by decide) rfl (Nat.le_of_ble_eq_true rfl) (lo := [(0, .ref (gad g 6))]) rfl (fun x C E => ?_)
  unfold fX2_forget at h
  refine J_aload_n C 0 dX2_forget_0 rfl 0 rfl ?_
  refine J_getR C fl_RX2_9 oC_6 rfl dX2_forget_1 ?_
  refine J_iconst C dX2_forget_4 ?_
  refine J_fillI C aC_7 hσ rl_0 ml_RX2_30 (Nat.le_of_ble_eq_true rfl) (Nat.le_of_ble_eq_true rfl) dX2_forget_5 h (fun σ1 hσ2 h => ?_)
  have e9 := sE h
  subst e9
  exact J_vret C E hσ2 dX2_forget_8
set_option maxRecDepth 100000 in
set_option maxHeartbeats 4000000 in
theorem m_X0_forget (l : Launch) (g : Gm) (hg : gInj yC g)  (σ : Sg) (hσ : wfS yC σ) (q : Sg) (h : fX0_forget  σ = some q) : CJ l yC g yX0_forget cX0_forget 1 none 1 60 [.ref (gad g 13)] σ none q (wfS yC q) := by
  refine CJ_of hg (by decide) rfl (Nat.le_of_ble_eq_true rfl) (lo := [(0, .ref (gad g 13))]) rfl (fun x C E => ?_)
  unfold fX0_forget at h
  refine J_aload_n C 0 dX0_forget_0 rfl 0 rfl ?_
  refine J_getR C fl_RX0_9 oC_13 rfl dX0_forget_1 ?_
  refine J_iconst C dX0_forget_4 ?_
  refine J_fillI C aC_14 hσ rl_0 ml_RX0_28 (Nat.le_of_ble_eq_true rfl) (Nat.le_of_ble_eq_true rfl) dX0_forget_5 h (fun σ1 hσ2 h => ?_)
  refine J_aload_n C 0 dX0_forget_8 rfl 0 rfl ?_
  refine J_getR C fl_RX0_15 oC_13 rfl dX0_forget_9 ?_
  refine J_iconst C dX0_forget_12 ?_
  refine J_fillI C aC_15 hσ2 rl_0 ml_RX0_28 (Nat.le_of_ble_eq_true rfl) (Nat.le_of_ble_eq_true rfl) dX0_forget_13 h (fun σ3 hσ4 h => ?_)
  have e9 := sE h
  subst e9
  exact J_vret C E hσ4 dX0_forget_16
set_option maxRecDepth 100000 in
set_option maxHeartbeats 4000000 in
theorem m_X8_forget (l : Launch) (g : Gm) (hg : gInj yC g)  (σ : Sg) (hσ : wfS yC σ) (q : Sg) (h : fX8_forget  σ = some q) : CJ l yC g yX8_forget cX8_forget 1 none 2 80 [.ref (gad g 1)] σ none q (wfS yC q) := by
  refine CJ_of hg (by decide) rfl (Nat.le_of_ble_eq_true rfl) (lo := [(0, .ref (gad g 1))]) rfl (fun x C E => ?_)
  unfold fX8_forget at h
  refine J_aload_n C 0 dX8_forget_0 rfl 0 rfl ?_
  refine J_getR C fl_RX8_9 oC_1 rfl dX8_forget_1 ?_
  refine J_iconst C dX8_forget_4 ?_
  refine J_fillB C aC_2 hσ ml_RX8_39 (Nat.le_of_ble_eq_true rfl) (Nat.le_of_ble_eq_true rfl) dX8_forget_5 h (fun σ1 hσ2 h => ?_)
  refine J_aload_n C 0 dX8_forget_8 rfl 0 rfl ?_
  refine J_getR C fl_RX8_22 oC_1 rfl dX8_forget_9 ?_
  refine J_iconst C dX8_forget_12 ?_
  refine J_fillI C aC_5 hσ2 rl_0 ml_RX8_45 (Nat.le_of_ble_eq_true rfl) (Nat.le_of_ble_eq_true rfl) dX8_forget_13 h (fun σ3 hσ4 h => ?_)
  refine J_aload_n C 0 dX8_forget_16 rfl 0 rfl ?_
  refine J_getR C fl_RX8_28 oC_1 rfl dX8_forget_17 ?_
  obtain ⟨q5, cq5, h⟩ := bdS h
  refine J_callV C mw_X2_forget ml_RX8_48 (m_X2_forget x.2.1 g (CxI C) σ3 hσ4 q5 cq5) oC_6 rfl (Nat.le_of_ble_eq_true rfl) (Nat.le_of_ble_eq_true rfl) rfl rfl (Nat.le_of_ble_eq_true rfl) dX8_forget_20 (fun hz6 => ?_)
  refine J_aload_n C 0 dX8_forget_23 rfl 0 rfl ?_
  refine J_getR C fl_RX8_35 oC_1 rfl dX8_forget_24 ?_
  obtain ⟨q7, cq7, h⟩ := bdS h
  refine J_callV C mw_X0_forget ml_RX8_51 (m_X0_forget x.2.1 g (CxI C) q5 hz6 q7 cq7) oC_13 rfl (Nat.le_of_ble_eq_true rfl) (Nat.le_of_ble_eq_true rfl) rfl rfl (Nat.le_of_ble_eq_true rfl) dX8_forget_27 (fun hz8 => ?_)
  have e9 := sE h
  subst e9
  exact J_vret C E hz8 dX8_forget_30
set_option maxRecDepth 100000 in
set_option maxHeartbeats 4000000 in
theorem m_X7_forgetFaults (l : Launch) (g : Gm) (hg : gInj yC g)  (σ : Sg) (hσ : wfS yC σ) (q : Sg) (h : fX7_forgetFaults  σ = some q) : CJ l yC g yX7_forgetFaults cX7_forgetFaults 1 none 1 60 [.ref (gad g 48)] σ none q (wfS yC q) := by
  refine CJ_of hg (by decide) rfl (Nat.le_of_ble_eq_true rfl) (lo := [(0, .ref (gad g 48))]) rfl (fun x C E => ?_)
  unfold fX7_forgetFaults at h
  refine J_aload_n C 0 dX7_forgetFaults_0 rfl 0 rfl ?_
  refine J_getR C fl_RX7_9 oC_48 rfl dX7_forgetFaults_1 ?_
  refine J_iconst C dX7_forgetFaults_4 ?_
  refine J_fillI C aC_49 hσ rl_0 ml_RX7_50 (Nat.le_of_ble_eq_true rfl) (Nat.le_of_ble_eq_true rfl) dX7_forgetFaults_5 h (fun σ1 hσ2 h => ?_)
  have e9 := sE h
  subst e9
  exact J_vret C E hσ2 dX7_forgetFaults_8
set_option maxRecDepth 100000 in
set_option maxHeartbeats 4000000 in
theorem m_X7_forget (l : Launch) (g : Gm) (hg : gInj yC g)  (σ : Sg) (hσ : wfS yC σ) (q : Sg) (h : fX7_forget  σ = some q) : CJ l yC g yX7_forget cX7_forget 1 none 2 80 [.ref (gad g 48)] σ none q (wfS yC q) := by
  refine CJ_of hg (by decide) rfl (Nat.le_of_ble_eq_true rfl) (lo := [(0, .ref (gad g 48))]) rfl (fun x C E => ?_)
  unfold fX7_forget at h
  refine J_aload_n C 0 dX7_forget_0 rfl 0 rfl ?_
  obtain ⟨q1, cq1, h⟩ := bdS h
  refine J_callV C mw_X7_forgetFaults ml_RX7_47 (m_X7_forgetFaults x.2.1 g (CxI C) σ hσ q1 cq1) oC_48 rfl (Nat.le_of_ble_eq_true rfl) (Nat.le_of_ble_eq_true rfl) rfl rfl (Nat.le_of_ble_eq_true rfl) dX7_forget_1 (fun hz2 => ?_)
  refine J_aload_n C 0 dX7_forget_4 rfl 0 rfl ?_
  refine J_iconst C dX7_forget_5 ?_
  refine J_putI C fl_RX7_27 fp_RX7_9 oC_48 rfl rfl lC_48 hz2 rl_m1 dX7_forget_6 h (fun σ3 hσ4 h => ?_)
  have e9 := sE h
  subst e9
  exact J_vret C E hσ4 dX7_forget_9
set_option maxRecDepth 100000 in
set_option maxHeartbeats 4000000 in
theorem m_X11_begin (l : Launch) (g : Gm) (hg : gInj yC g)  (σ : Sg) (hσ : wfS yC σ) (q : Int × Sg) (h : fX11_begin  σ = some q) : CJ l yC g yX11_begin cX11_begin 1 (some .int) 3 100 [.ref (gad g 0)] σ (some (vi q.1)) q.2 ((rg q.1) ∧ wfS yC q.2) := by
  refine CJ_of hg (by decide) rfl (Nat.le_of_ble_eq_true rfl) (lo := [(0, .ref (gad g 0))]) rfl (fun x C E => ?_)
  unfold fX11_begin at h
  refine J_aload_n C 0 dX11_begin_0 rfl 0 rfl ?_
  refine J_getR C fl_RX11_10 oC_0 rfl dX11_begin_1 ?_
  obtain ⟨q1, cq1, h⟩ := bdS h
  refine J_callV C mw_X8_forget ml_RX11_87 (m_X8_forget x.2.1 g (CxI C) σ hσ q1 cq1) oC_1 rfl (Nat.le_of_ble_eq_true rfl) (Nat.le_of_ble_eq_true rfl) rfl rfl (Nat.le_of_ble_eq_true rfl) dX11_begin_4 (fun hz2 => ?_)
  refine J_aload_n C 0 dX11_begin_7 rfl 0 rfl ?_
  refine J_getR C fl_RX11_19 oC_0 rfl dX11_begin_8 ?_
  refine J_iconst C dX11_begin_11 ?_
  refine J_putI C fl_RX11_90 fp_RX1_4 cues_19.1 rfl rfl cues_19.2.1 hz2 rl_0 dX11_begin_12 h (fun σ3 hσ4 h => ?_)
  refine J_aload_n C 0 dX11_begin_15 rfl 0 rfl ?_
  refine J_getR C fl_RX11_44 oC_0 rfl dX11_begin_16 ?_
  refine J_iconst C dX11_begin_19 ?_
  refine J_putI C fl_RX11_93 fp_RX4_3 oC_40 rfl rfl lC_40 hσ4 rl_0 dX11_begin_20 h (fun σ5 hσ6 h => ?_)
  refine J_aload_n C 0 dX11_begin_23 rfl 0 rfl ?_
  refine J_getR C fl_RX11_51 oC_0 rfl dX11_begin_24 ?_
  refine J_iconst C dX11_begin_27 ?_
  refine J_putI C fl_RX11_94 fp_RX5_3 oC_44 rfl rfl lC_44 hσ6 rl_0 dX11_begin_28 h (fun σ7 hσ8 h => ?_)
  refine J_aload_n C 0 dX11_begin_31 rfl 0 rfl ?_
  refine J_getR C fl_RX11_60 oC_0 rfl dX11_begin_32 ?_
  obtain ⟨q9, cq9, h⟩ := bdS h
  refine J_callV C mw_X7_forget ml_RX11_95 (m_X7_forget x.2.1 g (CxI C) σ7 hσ8 q9 cq9) oC_48 rfl (Nat.le_of_ble_eq_true rfl) (Nat.le_of_ble_eq_true rfl) rfl rfl (Nat.le_of_ble_eq_true rfl) dX11_begin_35 (fun hz10 => ?_)
  refine J_aload_n C 0 dX11_begin_38 rfl 0 rfl ?_
  refine J_getR C fl_RX11_69 oC_0 rfl dX11_begin_39 ?_
  refine J_iconst C dX11_begin_42 ?_
  refine J_putI C fl_RX11_96 fp_RX10_6 oC_54 rfl rfl lC_54 hz10 rl_0 dX11_begin_43 h (fun σ11 hσ12 h => ?_)
  refine J_aload_n C 0 dX11_begin_46 rfl 0 rfl ?_
  refine J_iconst C dX11_begin_47 ?_
  refine J_putI C fl_RX11_80 fp_RX11_9 oC_0 rfl rfl lC_0 hσ12 rl_2 dX11_begin_48 h (fun σ13 hσ14 h => ?_)
  refine J_aload_n C 0 dX11_begin_51 rfl 0 rfl ?_
  refine J_iconst C dX11_begin_52 ?_
  refine J_putI C fl_RX11_84 fp_RX11_10 oC_0 rfl rfl lC_0 hσ14 rl_0 dX11_begin_53 h (fun σ15 hσ16 h => ?_)
  refine J_iconst C dX11_begin_56 ?_
  have e9 := sE h
  subst e9
  exact J_iret C E ⟨rl_0, hσ16⟩ dX11_begin_57
set_option maxRecDepth 100000 in
set_option maxHeartbeats 4000000 in
theorem m_X8_groundOf (l : Launch) (g : Gm) (hg : gInj yC g) (x1 : Int) (h1 : rg x1) (x2 : Int) (h2 : rg x2) (σ : Sg) (hσ : wfS yC σ) (q : Int) (h : fX8_groundOf x1 x2 σ = some q) : CJ l yC g yX8_groundOf cX8_groundOf 3 (some .int) 0 0 [.ref (gad g 1), vi x1, vi x2] σ (some (vi q)) σ (rg q) := by
  refine CJ_of hg (by decide) rfl (Nat.le_of_ble_eq_true rfl) (lo := [(0, .ref (gad g 1)), (1, vi x1), (2, vi x2)]) rfl (fun x C E => ?_)
  unfold fX8_groundOf at h
  refine J_iload_n C 1 dX8_groundOf_0 rfl 1 rfl ?_
  refine J_if_lt C h1 (tgt := 20) dX8_groundOf_1 (by decide) h (fun h c10 => ?_) (fun h c10 => ?_)
  · refine J_iconst C dX8_groundOf_20 ?_
    have e9 := sE h
    subst e9
    exact J_iret C E rl_1 dX8_groundOf_21
  · refine J_iload_n C 1 dX8_groundOf_4 rfl 1 rfl ?_
    refine J_bipush C dX8_groundOf_5 (bp8 (by decide) (by decide)) ?_
    refine J_icmp_ge C h1 rl_32 (tgt := 20) dX8_groundOf_7 (by decide) h (fun h c9 => ?_) (fun h c9 => ?_)
    · refine J_iload_n C 2 dX8_groundOf_10 rfl 2 rfl ?_
      refine J_if_lt C h2 (tgt := 20) dX8_groundOf_11 (by decide) h (fun h c8 => ?_) (fun h c8 => ?_)
      · refine J_iconst C dX8_groundOf_20 ?_
        have e9 := sE h
        subst e9
        exact J_iret C E rl_1 dX8_groundOf_21
      · refine J_iload_n C 2 dX8_groundOf_14 rfl 2 rfl ?_
        refine J_bipush C dX8_groundOf_15 (bp8 (by decide) (by decide)) ?_
        refine J_icmp_lt C h2 rl_32 (tgt := 22) dX8_groundOf_17 (by decide) h (fun h c7 => ?_) (fun h c7 => ?_)
        · refine J_aload_n C 0 dX8_groundOf_22 rfl 0 rfl ?_
          refine J_getR C fl_RX8_9 oC_1 rfl dX8_groundOf_23 ?_
          refine J_bipush C dX8_groundOf_26 (bp8 (by decide) (by decide)) ?_
          refine J_iload_n C 2 dX8_groundOf_28 rfl 2 rfl ?_
          refine J_imul C dX8_groundOf_29 h (fun v1 hv2 h => ?_)
          refine J_iload_n C 1 dX8_groundOf_30 rfl 1 rfl ?_
          refine J_iadd C dX8_groundOf_31 h (fun v3 hv4 h => ?_)
          refine J_bald C aC_2 hσ dX8_groundOf_32 h (fun v5 hv6 h => ?_)
          have e9 := sE h
          subst e9
          exact J_iret C E hv6 dX8_groundOf_33
        · refine J_iconst C dX8_groundOf_20 ?_
          have e9 := sE h
          subst e9
          exact J_iret C E rl_1 dX8_groundOf_21
    · refine J_iconst C dX8_groundOf_20 ?_
      have e9 := sE h
      subst e9
      exact J_iret C E rl_1 dX8_groundOf_21
set_option maxRecDepth 100000 in
set_option maxHeartbeats 4000000 in
theorem m_X8_setGround (l : Launch) (g : Gm) (hg : gInj yC g) (x1 : Int) (h1 : rg x1) (x2 : Int) (h2 : rg x2) (x3 : Int) (h3 : rg x3) (σ : Sg) (hσ : wfS yC σ) (q : Sg) (h : fX8_setGround x1 x2 x3 σ = some q) : CJ l yC g yX8_setGround cX8_setGround 4 none 0 0 [.ref (gad g 1), vi x1, vi x2, vi x3] σ none q (wfS yC q) := by
  refine CJ_of hg (by decide) rfl (Nat.le_of_ble_eq_true rfl) (lo := [(0, .ref (gad g 1)), (1, vi x1), (2, vi x2), (3, vi x3)]) rfl (fun x C E => ?_)
  unfold fX8_setGround at h
  refine J_iload_n C 1 dX8_setGround_0 rfl 1 rfl ?_
  refine J_if_lt C h1 (tgt := 33) dX8_setGround_1 (by decide) h (fun h c10 => ?_) (fun h c10 => ?_)
  · have e9 := sE h
    subst e9
    exact J_vret C E hσ dX8_setGround_33
  · refine J_iload_n C 1 dX8_setGround_4 rfl 1 rfl ?_
    refine J_bipush C dX8_setGround_5 (bp8 (by decide) (by decide)) ?_
    refine J_icmp_ge C h1 rl_32 (tgt := 33) dX8_setGround_7 (by decide) h (fun h c9 => ?_) (fun h c9 => ?_)
    · refine J_iload_n C 2 dX8_setGround_10 rfl 2 rfl ?_
      refine J_if_lt C h2 (tgt := 33) dX8_setGround_11 (by decide) h (fun h c8 => ?_) (fun h c8 => ?_)
      · have e9 := sE h
        subst e9
        exact J_vret C E hσ dX8_setGround_33
      · refine J_iload_n C 2 dX8_setGround_14 rfl 2 rfl ?_
        refine J_bipush C dX8_setGround_15 (bp8 (by decide) (by decide)) ?_
        refine J_icmp_ge C h2 rl_32 (tgt := 33) dX8_setGround_17 (by decide) h (fun h c7 => ?_) (fun h c7 => ?_)
        · refine J_aload_n C 0 dX8_setGround_20 rfl 0 rfl ?_
          refine J_getR C fl_RX8_9 oC_1 rfl dX8_setGround_21 ?_
          refine J_bipush C dX8_setGround_24 (bp8 (by decide) (by decide)) ?_
          refine J_iload_n C 2 dX8_setGround_26 rfl 2 rfl ?_
          refine J_imul C dX8_setGround_27 h (fun v1 hv2 h => ?_)
          refine J_iload_n C 1 dX8_setGround_28 rfl 1 rfl ?_
          refine J_iadd C dX8_setGround_29 h (fun v3 hv4 h => ?_)
          refine J_iload_n C 3 dX8_setGround_30 rfl 3 rfl ?_
          refine J_i2b C dX8_setGround_31 ?_
          refine J_bast C aC_2 hσ dX8_setGround_32 h (fun σ5 hσ6 h => ?_)
          have e9 := sE h
          subst e9
          exact J_vret C E hσ6 dX8_setGround_33
        · have e9 := sE h
          subst e9
          exact J_vret C E hσ dX8_setGround_33
    · have e9 := sE h
      subst e9
      exact J_vret C E hσ dX8_setGround_33
set_option maxRecDepth 100000 in
set_option maxHeartbeats 4000000 in
theorem m_X11_cell (l : Launch) (g : Gm) (hg : gInj yC g) (x1 : Int) (h1 : rg x1) (x2 : Int) (h2 : rg x2) (x3 : Int) (h3 : rg x3) (σ : Sg) (hσ : wfS yC σ) (q : Int × Sg) (h : fX11_cell x1 x2 x3 σ = some q) : CJ l yC g yX11_cell cX11_cell 5 (some .int) 1 23 [.ref (gad g 0), vi x1, vi x2, vi x3] σ (some (vi q.1)) q.2 ((rg q.1) ∧ wfS yC q.2) := by
  refine CJ_of hg (by decide) rfl (Nat.le_of_ble_eq_true rfl) (lo := [(0, .ref (gad g 0)), (1, vi x1), (2, vi x2), (3, vi x3)]) rfl (fun x C E => ?_)
  unfold fX11_cell at h
  refine J_iload_n C 1 dX11_cell_0 rfl 1 rfl ?_
  refine J_if_lt C h1 (tgt := 29) dX11_cell_1 (by decide) h (fun h c10 => ?_) (fun h c10 => ?_)
  · refine J_iconst C dX11_cell_29 ?_
    have e9 := sE h
    subst e9
    exact J_iret C E ⟨rl_m1, hσ⟩ dX11_cell_30
  · refine J_iload_n C 1 dX11_cell_4 rfl 1 rfl ?_
    refine J_bipush C dX11_cell_5 (bp8 (by decide) (by decide)) ?_
    refine J_icmp_ge C h1 rl_32 (tgt := 29) dX11_cell_7 (by decide) h (fun h c9 => ?_) (fun h c9 => ?_)
    · refine J_iload_n C 2 dX11_cell_10 rfl 2 rfl ?_
      refine J_if_lt C h2 (tgt := 29) dX11_cell_11 (by decide) h (fun h c8 => ?_) (fun h c8 => ?_)
      · refine J_iconst C dX11_cell_29 ?_
        have e9 := sE h
        subst e9
        exact J_iret C E ⟨rl_m1, hσ⟩ dX11_cell_30
      · refine J_iload_n C 2 dX11_cell_14 rfl 2 rfl ?_
        refine J_bipush C dX11_cell_15 (bp8 (by decide) (by decide)) ?_
        refine J_icmp_ge C h2 rl_32 (tgt := 29) dX11_cell_17 (by decide) h (fun h c7 => ?_) (fun h c7 => ?_)
        · refine J_iload_n C 3 dX11_cell_20 rfl 3 rfl ?_
          refine J_if_lt C h3 (tgt := 29) dX11_cell_21 (by decide) h (fun h c6 => ?_) (fun h c6 => ?_)
          · refine J_iconst C dX11_cell_29 ?_
            have e9 := sE h
            subst e9
            exact J_iret C E ⟨rl_m1, hσ⟩ dX11_cell_30
          · refine J_iload_n C 3 dX11_cell_24 rfl 3 rfl ?_
            refine J_iconst C dX11_cell_25 ?_
            refine J_icmp_le C h3 rl_2 (tgt := 31) dX11_cell_26 (by decide) h (fun h c5 => ?_) (fun h c5 => ?_)
            · refine J_aload_n C 0 dX11_cell_31 rfl 0 rfl ?_
              refine J_getR C fl_RX11_10 oC_0 rfl dX11_cell_32 ?_
              refine J_iload_n C 1 dX11_cell_35 rfl 1 rfl ?_
              refine J_iload_n C 2 dX11_cell_36 rfl 2 rfl ?_
              obtain ⟨q1, cq1, h⟩ := bdS h
              refine J_callV C mw_X8_groundOf ml_RX11_97 (m_X8_groundOf x.2.1 g (CxI C) x1 h1 x2 h2 σ hσ q1 cq1) oC_1 rfl (Nat.le_of_ble_eq_true rfl) (Nat.le_of_ble_eq_true rfl) rfl rfl (Nat.le_of_ble_eq_true rfl) dX11_cell_37 (fun hz2 => ?_)
              refine J_istore (lo2 := [(4, vi q1), (0, .ref (gad g 0)), (1, vi x1), (2, vi x2), (3, vi x3)]) C 4 dX11_cell_40 (by decide) rfl ?_
              refine J_aload_n C 0 dX11_cell_42 rfl 1 rfl ?_
              refine J_getR C fl_RX11_10 oC_0 rfl dX11_cell_43 ?_
              refine J_iload_n C 1 dX11_cell_46 rfl 2 rfl ?_
              refine J_iload_n C 2 dX11_cell_47 rfl 3 rfl ?_
              refine J_iload_n C 3 dX11_cell_48 rfl 4 rfl ?_
              obtain ⟨q3, cq3, h⟩ := bdS h
              refine J_callV C mw_X8_setGround ml_RX11_101 (m_X8_setGround x.2.1 g (CxI C) x1 h1 x2 h2 x3 h3 σ hσ q3 cq3) oC_1 rfl (Nat.le_of_ble_eq_true rfl) (Nat.le_of_ble_eq_true rfl) rfl rfl (Nat.le_of_ble_eq_true rfl) dX11_cell_49 (fun hz4 => ?_)
              refine J_iload C 4 dX11_cell_52 0 rfl ?_
              have e9 := sE h
              subst e9
              exact J_iret C E ⟨hz2, hz4⟩ dX11_cell_54
            · refine J_iconst C dX11_cell_29 ?_
              have e9 := sE h
              subst e9
              exact J_iret C E ⟨rl_m1, hσ⟩ dX11_cell_30
        · refine J_iconst C dX11_cell_29 ?_
          have e9 := sE h
          subst e9
          exact J_iret C E ⟨rl_m1, hσ⟩ dX11_cell_30
    · refine J_iconst C dX11_cell_29 ?_
      have e9 := sE h
      subst e9
      exact J_iret C E ⟨rl_m1, hσ⟩ dX11_cell_30
set_option maxRecDepth 100000 in
set_option maxHeartbeats 4000000 in
theorem m_X2_isAsSaid (l : Launch) (g : Gm) (hg : gInj yC g) (x0 : Int) (h0 : rg x0) (x1 : Int) (h1 : rg x1) (x2 : Int) (h2 : rg x2) (x3 : Int) (h3 : rg x3) (σ : Sg) (hσ : wfS yC σ) (q : Int) (h : fX2_isAsSaid x0 x1 x2 x3 σ = some q) : CJ l yC g yX2_isAsSaid cX2_isAsSaid 6 (some .boolean) 0 0 [vi x0, vi x1, vi x2, vi x3] σ (some (vi q)) σ (q = 0 ∨ q = 1) := by
  refine CJ_of hg (by decide) rfl (Nat.le_of_ble_eq_true rfl) (lo := [(0, vi x0), (1, vi x1), (2, vi x2), (3, vi x3)]) rfl (fun x C E => ?_)
  unfold fX2_isAsSaid at h
  refine J_iload_n C 0 dX2_isAsSaid_0 rfl 0 rfl ?_
  refine J_iconst C dX2_isAsSaid_1 ?_
  refine J_icmp_lt C h0 rl_1 (tgt := 24) dX2_isAsSaid_2 (by decide) h (fun h c20 => ?_) (fun h c20 => ?_)
  · refine J_iconst C dX2_isAsSaid_24 ?_
    have e9 := sE h
    subst e9
    exact J_zret C (Or.inl rfl) E (Or.inl rfl) dX2_isAsSaid_25
  · refine J_iload_n C 0 dX2_isAsSaid_5 rfl 0 rfl ?_
    refine J_bipush C dX2_isAsSaid_6 (bp8 (by decide) (by decide)) ?_
    refine J_icmp_gt C h0 rl_60 (tgt := 24) dX2_isAsSaid_8 (by decide) h (fun h c19 => ?_) (fun h c19 => ?_)
    · refine J_iload_n C 1 dX2_isAsSaid_11 rfl 1 rfl ?_
      refine J_bipush C dX2_isAsSaid_12 (bp8 (by decide) (by decide)) ?_
      refine J_icmp_lt C h1 rl_10 (tgt := 24) dX2_isAsSaid_14 (by decide) h (fun h c18 => ?_) (fun h c18 => ?_)
      · refine J_iconst C dX2_isAsSaid_24 ?_
        have e9 := sE h
        subst e9
        exact J_zret C (Or.inl rfl) E (Or.inl rfl) dX2_isAsSaid_25
      · refine J_iload_n C 1 dX2_isAsSaid_17 rfl 1 rfl ?_
        refine J_sipush C dX2_isAsSaid_18 (bp16 (by decide) (by decide)) ?_
        refine J_icmp_le C h1 rl_300 (tgt := 26) dX2_isAsSaid_21 (by decide) h (fun h c17 => ?_) (fun h c17 => ?_)
        · refine J_iload_n C 2 dX2_isAsSaid_26 rfl 2 rfl ?_
          refine J_if_lt C h2 (tgt := 40) dX2_isAsSaid_27 (by decide) h (fun h c16 => ?_) (fun h c16 => ?_)
          · refine J_iconst C dX2_isAsSaid_40 ?_
            have e9 := sE h
            subst e9
            exact J_zret C (Or.inl rfl) E (Or.inl rfl) dX2_isAsSaid_41
          · refine J_iload_n C 2 dX2_isAsSaid_30 rfl 2 rfl ?_
            refine J_bipush C dX2_isAsSaid_31 (bp8 (by decide) (by decide)) ?_
            refine J_icmp_gt C h2 rl_60 (tgt := 40) dX2_isAsSaid_33 (by decide) h (fun h c15 => ?_) (fun h c15 => ?_)
            · refine J_iload_n C 3 dX2_isAsSaid_36 rfl 3 rfl ?_
              refine J_if_ge C h3 (tgt := 42) dX2_isAsSaid_37 (by decide) h (fun h c14 => ?_) (fun h c14 => ?_)
              · refine J_iconst C dX2_isAsSaid_40 ?_
                have e9 := sE h
                subst e9
                exact J_zret C (Or.inl rfl) E (Or.inl rfl) dX2_isAsSaid_41
              · refine J_iload_n C 3 dX2_isAsSaid_42 rfl 3 rfl ?_
                refine J_sipush C dX2_isAsSaid_43 (bp16 (by decide) (by decide)) ?_
                refine J_idiv C h3 rl_1000 dX2_isAsSaid_46 h (fun v1 hv2 h => ?_)
                refine J_istore (lo2 := [(4, vi v1), (0, vi x0), (1, vi x1), (2, vi x2), (3, vi x3)]) C 4 dX2_isAsSaid_47 (by decide) rfl ?_
                refine J_iload_n C 3 dX2_isAsSaid_49 rfl 4 rfl ?_
                refine J_sipush C dX2_isAsSaid_50 (bp16 (by decide) (by decide)) ?_
                refine J_irem C h3 rl_1000 dX2_isAsSaid_53 h (fun v3 hv4 h => ?_)
                refine J_bipush C dX2_isAsSaid_54 (bp8 (by decide) (by decide)) ?_
                refine J_idiv C hv4 rl_10 dX2_isAsSaid_56 h (fun v5 hv6 h => ?_)
                refine J_istore (lo2 := [(5, vi v5), (4, vi v1), (0, vi x0), (1, vi x1), (2, vi x2), (3, vi x3)]) C 5 dX2_isAsSaid_57 (by decide) rfl ?_
                refine J_iload C 4 dX2_isAsSaid_59 1 rfl ?_
                refine J_iconst C dX2_isAsSaid_61 ?_
                refine J_icmp_lt C hv2 rl_1 (tgt := 97) dX2_isAsSaid_62 (by decide) h (fun h c13 => ?_) (fun h c13 => ?_)
                · refine J_iconst C dX2_isAsSaid_97 ?_
                  have e9 := sE h
                  subst e9
                  exact J_zret C (Or.inl rfl) E (Or.inl rfl) dX2_isAsSaid_98
                · refine J_iload C 4 dX2_isAsSaid_65 1 rfl ?_
                  refine J_bipush C dX2_isAsSaid_67 (bp8 (by decide) (by decide)) ?_
                  refine J_icmp_gt C hv2 rl_99 (tgt := 97) dX2_isAsSaid_69 (by decide) h (fun h c12 => ?_) (fun h c12 => ?_)
                  · refine J_iload C 5 dX2_isAsSaid_72 0 rfl ?_
                    refine J_iconst C dX2_isAsSaid_74 ?_
                    refine J_icmp_lt C hv6 rl_1 (tgt := 97) dX2_isAsSaid_75 (by decide) h (fun h c11 => ?_) (fun h c11 => ?_)
                    · refine J_iconst C dX2_isAsSaid_97 ?_
                      have e9 := sE h
                      subst e9
                      exact J_zret C (Or.inl rfl) E (Or.inl rfl) dX2_isAsSaid_98
                    · refine J_iload C 5 dX2_isAsSaid_78 0 rfl ?_
                      refine J_bipush C dX2_isAsSaid_80 (bp8 (by decide) (by decide)) ?_
                      refine J_icmp_gt C hv6 rl_9 (tgt := 97) dX2_isAsSaid_82 (by decide) h (fun h c10 => ?_) (fun h c10 => ?_)
                      · refine J_iload_n C 3 dX2_isAsSaid_85 rfl 5 rfl ?_
                        refine J_bipush C dX2_isAsSaid_86 (bp8 (by decide) (by decide)) ?_
                        refine J_irem C h3 rl_10 dX2_isAsSaid_88 h (fun v7 hv8 h => ?_)
                        refine J_iconst C dX2_isAsSaid_89 ?_
                        refine J_icmp_gt C hv8 rl_5 (tgt := 97) dX2_isAsSaid_90 (by decide) h (fun h c9 => ?_) (fun h c9 => ?_)
                        · refine J_iconst C dX2_isAsSaid_93 ?_
                          refine J_goto C (tgt := 98) dX2_isAsSaid_94 (by decide) ?_
                          have e9 := sE h
                          subst e9
                          exact J_zret C (Or.inr rfl) E (Or.inr rfl) dX2_isAsSaid_98
                        · refine J_iconst C dX2_isAsSaid_97 ?_
                          have e9 := sE h
                          subst e9
                          exact J_zret C (Or.inl rfl) E (Or.inl rfl) dX2_isAsSaid_98
                      · refine J_iconst C dX2_isAsSaid_97 ?_
                        have e9 := sE h
                        subst e9
                        exact J_zret C (Or.inl rfl) E (Or.inl rfl) dX2_isAsSaid_98
                  · refine J_iconst C dX2_isAsSaid_97 ?_
                    have e9 := sE h
                    subst e9
                    exact J_zret C (Or.inl rfl) E (Or.inl rfl) dX2_isAsSaid_98
            · refine J_iconst C dX2_isAsSaid_40 ?_
              have e9 := sE h
              subst e9
              exact J_zret C (Or.inl rfl) E (Or.inl rfl) dX2_isAsSaid_41
        · refine J_iconst C dX2_isAsSaid_24 ?_
          have e9 := sE h
          subst e9
          exact J_zret C (Or.inl rfl) E (Or.inl rfl) dX2_isAsSaid_25
    · refine J_iconst C dX2_isAsSaid_24 ?_
      have e9 := sE h
      subst e9
      exact J_zret C (Or.inl rfl) E (Or.inl rfl) dX2_isAsSaid_25
set_option maxRecDepth 100000 in
set_option maxHeartbeats 4000000 in
theorem m_X1_isCue (l : Launch) (g : Gm) (hg : gInj yC g) (x0 : Nat) (h0 : isCues x0) (x1 : Int) (h1 : rg x1) (σ : Sg) (hσ : wfS yC σ) (q : Int) (h : fX1_isCue x0 x1 σ = some q) : CJ l yC g yX1_isCue cX1_isCue 2 (some .boolean) 0 0 [.ref (gad g x0), vi x1] σ (some (vi q)) σ (q = 0 ∨ q = 1) := by
  refine CJ_of hg (by decide) rfl (Nat.le_of_ble_eq_true rfl) (lo := [(0, .ref (gad g x0)), (1, vi x1)]) rfl (fun x C E => ?_)
  unfold fX1_isCue at h
  refine J_iload_n C 1 dX1_isCue_0 rfl 1 rfl ?_
  refine J_if_lt C h1 (tgt := 22) dX1_isCue_1 (by decide) h (fun h c3 => ?_) (fun h c3 => ?_)
  · refine J_iconst C dX1_isCue_22 ?_
    have e9 := sE h
    subst e9
    exact J_zret C (Or.inl rfl) E (Or.inl rfl) dX1_isCue_23
  · refine J_iload_n C 1 dX1_isCue_4 rfl 1 rfl ?_
    refine J_aload_n C 0 dX1_isCue_5 rfl 0 rfl ?_
    refine J_getI C fl_RX1_24 h0.1 rfl dX1_isCue_6 ?_
    refine J_icmp_ge C h1 (hσ x0 4 h0.2.1) (tgt := 22) dX1_isCue_9 (by decide) h (fun h c2 => ?_) (fun h c2 => ?_)
    · refine J_iload_n C 1 dX1_isCue_12 rfl 1 rfl ?_
      refine J_bipush C dX1_isCue_13 (bp8 (by decide) (by decide)) ?_
      refine J_icmp_ge C h1 rl_120 (tgt := 22) dX1_isCue_15 (by decide) h (fun h c1 => ?_) (fun h c1 => ?_)
      · refine J_iconst C dX1_isCue_18 ?_
        refine J_goto C (tgt := 23) dX1_isCue_19 (by decide) ?_
        have e9 := sE h
        subst e9
        exact J_zret C (Or.inr rfl) E (Or.inr rfl) dX1_isCue_23
      · refine J_iconst C dX1_isCue_22 ?_
        have e9 := sE h
        subst e9
        exact J_zret C (Or.inl rfl) E (Or.inl rfl) dX1_isCue_23
    · refine J_iconst C dX1_isCue_22 ?_
      have e9 := sE h
      subst e9
      exact J_zret C (Or.inl rfl) E (Or.inl rfl) dX1_isCue_23
set_option maxRecDepth 100000 in
set_option maxHeartbeats 4000000 in
theorem m_X1_kindOf (l : Launch) (g : Gm) (hg : gInj yC g) (x0 : Nat) (h0 : isCues x0) (x1 : Int) (h1 : rg x1) (σ : Sg) (hσ : wfS yC σ) (q : Int) (h : fX1_kindOf x0 x1 σ = some q) : CJ l yC g yX1_kindOf cX1_kindOf 2 (some .int) 1 21 [.ref (gad g x0), vi x1] σ (some (vi q)) σ (rg q) := by
  refine CJ_of hg (by decide) rfl (Nat.le_of_ble_eq_true rfl) (lo := [(0, .ref (gad g x0)), (1, vi x1)]) rfl (fun x C E => ?_)
  unfold fX1_kindOf at h
  refine J_aload_n C 0 dX1_kindOf_0 rfl 0 rfl ?_
  refine J_iload_n C 1 dX1_kindOf_1 rfl 1 rfl ?_
  obtain ⟨q1, cq1, h⟩ := bdS h
  refine J_callV C mw_X1_isCue ml_RX1_28 (m_X1_isCue x.2.1 g (CxI C) x0 h0 x1 h1 σ hσ q1 cq1) h0.1 rfl (Nat.le_of_ble_eq_true rfl) (Nat.le_of_ble_eq_true rfl) rfl rfl (Nat.le_of_ble_eq_true rfl) dX1_kindOf_2 (fun hz2 => ?_)
  refine J_if_eq C (rg01 hz2) (tgt := 17) dX1_kindOf_5 (by decide) h (fun h c5 => ?_) (fun h c5 => ?_)
  · refine J_iconst C dX1_kindOf_17 ?_
    have e9 := sE h
    subst e9
    exact J_iret C E rl_0 dX1_kindOf_18
  · refine J_aload_n C 0 dX1_kindOf_8 rfl 0 rfl ?_
    refine J_getR C fl_RX1_15 h0.1 rfl dX1_kindOf_9 ?_
    refine J_iload_n C 1 dX1_kindOf_12 rfl 1 rfl ?_
    refine J_iald C (h0).2.2.2.1 hσ dX1_kindOf_13 h (fun v3 hv4 h => ?_)
    refine J_goto C (tgt := 18) dX1_kindOf_14 (by decide) ?_
    have e9 := sE h
    subst e9
    exact J_iret C E hv4 dX1_kindOf_18
set_option maxRecDepth 100000 in
set_option maxHeartbeats 4000000 in
theorem m_X1_burstOf (l : Launch) (g : Gm) (hg : gInj yC g) (x0 : Nat) (h0 : isCues x0) (x1 : Int) (h1 : rg x1) (σ : Sg) (hσ : wfS yC σ) (q : Int) (h : fX1_burstOf x0 x1 σ = some q) : CJ l yC g yX1_burstOf cX1_burstOf 2 (some .int) 1 21 [.ref (gad g x0), vi x1] σ (some (vi q)) σ (rg q) := by
  refine CJ_of hg (by decide) rfl (Nat.le_of_ble_eq_true rfl) (lo := [(0, .ref (gad g x0)), (1, vi x1)]) rfl (fun x C E => ?_)
  unfold fX1_burstOf at h
  refine J_aload_n C 0 dX1_burstOf_0 rfl 0 rfl ?_
  refine J_iload_n C 1 dX1_burstOf_1 rfl 1 rfl ?_
  obtain ⟨q1, cq1, h⟩ := bdS h
  refine J_callV C mw_X1_isCue ml_RX1_28 (m_X1_isCue x.2.1 g (CxI C) x0 h0 x1 h1 σ hσ q1 cq1) h0.1 rfl (Nat.le_of_ble_eq_true rfl) (Nat.le_of_ble_eq_true rfl) rfl rfl (Nat.le_of_ble_eq_true rfl) dX1_burstOf_2 (fun hz2 => ?_)
  refine J_if_eq C (rg01 hz2) (tgt := 17) dX1_burstOf_5 (by decide) h (fun h c5 => ?_) (fun h c5 => ?_)
  · refine J_iconst C dX1_burstOf_17 ?_
    have e9 := sE h
    subst e9
    exact J_iret C E rl_0 dX1_burstOf_18
  · refine J_aload_n C 0 dX1_burstOf_8 rfl 0 rfl ?_
    refine J_getR C fl_RX1_9 h0.1 rfl dX1_burstOf_9 ?_
    refine J_iload_n C 1 dX1_burstOf_12 rfl 1 rfl ?_
    refine J_iald C (h0).2.2.1 hσ dX1_burstOf_13 h (fun v3 hv4 h => ?_)
    refine J_goto C (tgt := 18) dX1_burstOf_14 (by decide) ?_
    have e9 := sE h
    subst e9
    exact J_iret C E hv4 dX1_burstOf_18
set_option maxRecDepth 100000 in
set_option maxHeartbeats 4000000 in
theorem wX1_firstBurstOfKind_L6 {x : Ct} {g : Gm} (C : Cx x yC g 4 cX1_firstBurstOfKind RX1 2 42) : ∀ (n : Nat) (x0 : Nat) (h0 : isCues x0) (x1 : Int) (h1 : rg x1) (x2 : Int) (h2 : rg x2) (x3 : Int) (h3 : rg x3) (σ : Sg) (hσ : wfS yC σ) (q : Int) (h : fX1_firstBurstOfKind_L6 n x0 x1 x2 x3 σ = some q) (k : rg q → J x yC g 4 39 [(2, vi q)] [] σ), J x yC g 4 6 [(0, .ref (gad g x0)), (1, vi x1), (2, vi x2), (3, vi x3)] [] σ := by
  intro n
  induction n with
  | zero =>
    intro x0 h0 x1 h1 x2 h2 x3 h3 σ hσ q h k
    exact absurd h (by intro z; cases z)
  | succ n ih =>
    intro x0 h0 x1 h1 x2 h2 x3 h3 σ hσ q h k
    rw [fX1_firstBurstOfKind_L6] at h
    have pc3 : ∀ (x2 : Int) (h2 : rg x2) (x3 : Int) (h3 : rg x3), fX1_firstBurstOfKind_L6P33 (fX1_firstBurstOfKind_L6 n) x0 x1 x2 x3 σ = some q → J x yC g 4 33 [(0, .ref (gad g x0)), (1, vi x1), (2, vi x2), (3, vi x3)] [] σ := by
      intro x2 h2 x3 h3 h
      unfold fX1_firstBurstOfKind_L6P33 at h
      refine J_iinc C 3 3 dX1_firstBurstOfKind_33 rfl (by decide) h (fun v4 hv5 h => ?_)
      refine J_goto C (tgt := 6) dX1_firstBurstOfKind_36 (by decide) ?_
      exact J_sub [1, 2, 3, 0] rfl (ih x0 h0 x1 h1 x2 h2 v4 hv5 σ hσ q h k)
    refine J_iload_n C 3 dX1_firstBurstOfKind_6 rfl 3 rfl ?_
    refine J_aload_n C 0 dX1_firstBurstOfKind_7 rfl 0 rfl ?_
    refine J_getI C fl_RX1_24 h0.1 rfl dX1_firstBurstOfKind_8 ?_
    refine J_icmp_ge C h3 (hσ x0 4 h0.2.1) (tgt := 39) dX1_firstBurstOfKind_11 (by decide) h (fun h c11 => ?_) (fun h c11 => ?_)
    · refine J_aload_n C 0 dX1_firstBurstOfKind_14 rfl 0 rfl ?_
      refine J_iload_n C 3 dX1_firstBurstOfKind_15 rfl 3 rfl ?_
      obtain ⟨q1, cq1, h⟩ := bdS h
      refine J_callV C mw_X1_kindOf ml_RX1_42 (m_X1_kindOf x.2.1 g (CxI C) x0 h0 x3 h3 σ hσ q1 cq1) h0.1 rfl (Nat.le_of_ble_eq_true rfl) (Nat.le_of_ble_eq_true rfl) rfl rfl (Nat.le_of_ble_eq_true rfl) dX1_firstBurstOfKind_16 (fun hz2 => ?_)
      refine J_iload_n C 1 dX1_firstBurstOfKind_19 rfl 1 rfl ?_
      refine J_icmp_ne C hz2 h1 (tgt := 33) dX1_firstBurstOfKind_20 (by decide) h (fun h c10 => ?_) (fun h c10 => ?_)
      · refine J_iload_n C 2 dX1_firstBurstOfKind_23 rfl 2 rfl ?_
        refine J_aload_n C 0 dX1_firstBurstOfKind_24 rfl 0 rfl ?_
        refine J_iload_n C 3 dX1_firstBurstOfKind_25 rfl 3 rfl ?_
        obtain ⟨q8, cq8, h⟩ := bdS h
        refine J_callV C mw_X1_burstOf ml_RX1_45 (m_X1_burstOf x.2.1 g (CxI C) x0 h0 x3 h3 σ hσ q8 cq8) h0.1 rfl (Nat.le_of_ble_eq_true rfl) (Nat.le_of_ble_eq_true rfl) rfl rfl (Nat.le_of_ble_eq_true rfl) dX1_firstBurstOfKind_26 (fun hz9 => ?_)
        refine J_min C h2 hz9 mth_min ml_RX1_48 (Nat.le_of_ble_eq_true rfl) (Nat.le_of_ble_eq_true rfl) dX1_firstBurstOfKind_29 ?_
        refine J_istore_n (lo2 := [(2, vi (mnI x2 q8)), (0, .ref (gad g x0)), (1, vi x1), (3, vi x3)]) C 2 dX1_firstBurstOfKind_32 rfl (by decide) rfl ?_
        exact J_sub [1, 2, 0, 3] rfl (pc3 (mnI x2 q8) (rg_mn h2 hz9) x3 h3 h)
      · exact J_sub [0, 1, 2, 3] rfl (pc3 x2 h2 x3 h3 h)
    · have e9 := sE h
      subst e9
      exact J_sub [2] rfl (k h2)
set_option maxRecDepth 100000 in
set_option maxHeartbeats 4000000 in
theorem m_X1_firstBurstOfKind (l : Launch) (g : Gm) (hg : gInj yC g) (x0 : Nat) (h0 : isCues x0) (x1 : Int) (h1 : rg x1) (σ : Sg) (hσ : wfS yC σ) (q : Int) (h : fX1_firstBurstOfKind x0 x1 σ = some q) : CJ l yC g yX1_firstBurstOfKind cX1_firstBurstOfKind 4 (some .int) 2 42 [.ref (gad g x0), vi x1] σ (some (vi q)) σ (rg q) := by
  refine CJ_of hg (by decide) rfl (Nat.le_of_ble_eq_true rfl) (lo := [(0, .ref (gad g x0)), (1, vi x1)]) rfl (fun x C E => ?_)
  unfold fX1_firstBurstOfKind at h
  refine J_sipush C dX1_firstBurstOfKind_0 (bp16 (by decide) (by decide)) ?_
  refine J_istore_n (lo2 := [(2, vi 20000), (0, .ref (gad g x0)), (1, vi x1)]) C 2 dX1_firstBurstOfKind_3 rfl (by decide) rfl ?_
  refine J_iconst C dX1_firstBurstOfKind_4 ?_
  refine J_istore_n (lo2 := [(3, vi 0), (2, vi 20000), (0, .ref (gad g x0)), (1, vi x1)]) C 3 dX1_firstBurstOfKind_5 rfl (by decide) rfl ?_
  obtain ⟨q12, cq12, h⟩ := bdS h
  refine J_sub [2, 3, 1, 0] rfl (wX1_firstBurstOfKind_L6 C fu x0 h0 x1 h1 20000 rl_20000 0 rl_0 σ hσ q12 cq12 (fun hr13 => ?_))
  refine J_iload_n C 2 dX1_firstBurstOfKind_39 rfl 0 rfl ?_
  have e9 := sE h
  subst e9
  exact J_iret C E hr13 dX1_firstBurstOfKind_40
set_option maxRecDepth 100000 in
set_option maxHeartbeats 4000000 in
theorem m_X2_tell (l : Launch) (g : Gm) (hg : gInj yC g) (x1 : Int) (h1 : rg x1) (x2 : Int) (h2 : rg x2) (x3 : Int) (h3 : rg x3) (x4 : Int) (h4 : rg x4) (x5 : Int) (h5 : rg x5) (σ : Sg) (hσ : wfS yC σ) (q : Sg) (h : fX2_tell x1 x2 x3 x4 x5 σ = some q) : CJ l yC g yX2_tell cX2_tell 6 none 0 0 [.ref (gad g 6), vi x1, vi x2, vi x3, vi x4, vi x5] σ none q (wfS yC q) := by
  refine CJ_of hg (by decide) rfl (Nat.le_of_ble_eq_true rfl) (lo := [(0, .ref (gad g 6)), (1, vi x1), (2, vi x2), (3, vi x3), (4, vi x4), (5, vi x5)]) rfl (fun x C E => ?_)
  unfold fX2_tell at h
  refine J_iload_n C 1 dX2_tell_0 rfl 1 rfl ?_
  refine J_if_lt C h1 (tgt := 10) dX2_tell_1 (by decide) h (fun h c22 => ?_) (fun h c22 => ?_)
  · have e9 := sE h
    subst e9
    exact J_vret C E hσ dX2_tell_10
  · refine J_iload_n C 1 dX2_tell_4 rfl 1 rfl ?_
    refine J_bipush C dX2_tell_5 (bp8 (by decide) (by decide)) ?_
    refine J_icmp_lt C h1 rl_12 (tgt := 11) dX2_tell_7 (by decide) h (fun h c21 => ?_) (fun h c21 => ?_)
    · refine J_aload_n C 0 dX2_tell_11 rfl 0 rfl ?_
      refine J_getR C fl_RX2_9 oC_6 rfl dX2_tell_12 ?_
      refine J_iload_n C 1 dX2_tell_15 rfl 1 rfl ?_
      refine J_iload_n C 2 dX2_tell_16 rfl 2 rfl ?_
      refine J_iast C aC_7 hσ h2 dX2_tell_17 h (fun σ1 hσ2 h => ?_)
      refine J_aload_n C 0 dX2_tell_18 rfl 0 rfl ?_
      refine J_getR C fl_RX2_15 oC_6 rfl dX2_tell_19 ?_
      refine J_iload_n C 1 dX2_tell_22 rfl 1 rfl ?_
      refine J_iload_n C 3 dX2_tell_23 rfl 3 rfl ?_
      refine J_iast C aC_8 hσ2 h3 dX2_tell_24 h (fun σ3 hσ4 h => ?_)
      refine J_aload_n C 0 dX2_tell_25 rfl 0 rfl ?_
      refine J_getR C fl_RX2_18 oC_6 rfl dX2_tell_26 ?_
      refine J_iload_n C 1 dX2_tell_29 rfl 1 rfl ?_
      refine J_iload C 4 dX2_tell_30 4 rfl ?_
      refine J_iast C aC_9 hσ4 h4 dX2_tell_32 h (fun σ5 hσ6 h => ?_)
      refine J_aload_n C 0 dX2_tell_33 rfl 0 rfl ?_
      refine J_getR C fl_RX2_21 oC_6 rfl dX2_tell_34 ?_
      refine J_iload_n C 1 dX2_tell_37 rfl 1 rfl ?_
      refine J_iload C 5 dX2_tell_38 5 rfl ?_
      refine J_sipush C dX2_tell_40 (bp16 (by decide) (by decide)) ?_
      refine J_idiv C h5 rl_1000 dX2_tell_43 h (fun v7 hv8 h => ?_)
      refine J_iast C aC_10 hσ6 hv8 dX2_tell_44 h (fun σ9 hσ10 h => ?_)
      refine J_aload_n C 0 dX2_tell_45 rfl 0 rfl ?_
      refine J_getR C fl_RX2_24 oC_6 rfl dX2_tell_46 ?_
      refine J_iload_n C 1 dX2_tell_49 rfl 1 rfl ?_
      refine J_iload C 5 dX2_tell_50 5 rfl ?_
      refine J_sipush C dX2_tell_52 (bp16 (by decide) (by decide)) ?_
      refine J_irem C h5 rl_1000 dX2_tell_55 h (fun v11 hv12 h => ?_)
      refine J_bipush C dX2_tell_56 (bp8 (by decide) (by decide)) ?_
      refine J_idiv C hv12 rl_10 dX2_tell_58 h (fun v13 hv14 h => ?_)
      refine J_iast C aC_11 hσ10 hv14 dX2_tell_59 h (fun σ15 hσ16 h => ?_)
      refine J_aload_n C 0 dX2_tell_60 rfl 0 rfl ?_
      refine J_getR C fl_RX2_27 oC_6 rfl dX2_tell_61 ?_
      refine J_iload_n C 1 dX2_tell_64 rfl 1 rfl ?_
      refine J_iload C 5 dX2_tell_65 5 rfl ?_
      refine J_bipush C dX2_tell_67 (bp8 (by decide) (by decide)) ?_
      refine J_irem C h5 rl_10 dX2_tell_69 h (fun v17 hv18 h => ?_)
      refine J_iast C aC_12 hσ16 hv18 dX2_tell_70 h (fun σ19 hσ20 h => ?_)
      have e9 := sE h
      subst e9
      exact J_vret C E hσ20 dX2_tell_71
    · have e9 := sE h
      subst e9
      exact J_vret C E hσ dX2_tell_10
set_option maxRecDepth 100000 in
set_option maxHeartbeats 4000000 in
theorem m_X2_isTold (l : Launch) (g : Gm) (hg : gInj yC g) (x1 : Int) (h1 : rg x1) (σ : Sg) (hσ : wfS yC σ) (q : Int) (h : fX2_isTold x1 σ = some q) : CJ l yC g yX2_isTold cX2_isTold 2 (some .boolean) 0 0 [.ref (gad g 6), vi x1] σ (some (vi q)) σ (q = 0 ∨ q = 1) := by
  refine CJ_of hg (by decide) rfl (Nat.le_of_ble_eq_true rfl) (lo := [(0, .ref (gad g 6)), (1, vi x1)]) rfl (fun x C E => ?_)
  unfold fX2_isTold at h
  refine J_iload_n C 1 dX2_isTold_0 rfl 1 rfl ?_
  refine J_if_lt C h1 (tgt := 23) dX2_isTold_1 (by decide) h (fun h c5 => ?_) (fun h c5 => ?_)
  · refine J_iconst C dX2_isTold_23 ?_
    have e9 := sE h
    subst e9
    exact J_zret C (Or.inl rfl) E (Or.inl rfl) dX2_isTold_24
  · refine J_iload_n C 1 dX2_isTold_4 rfl 1 rfl ?_
    refine J_bipush C dX2_isTold_5 (bp8 (by decide) (by decide)) ?_
    refine J_icmp_ge C h1 rl_12 (tgt := 23) dX2_isTold_7 (by decide) h (fun h c4 => ?_) (fun h c4 => ?_)
    · refine J_aload_n C 0 dX2_isTold_10 rfl 0 rfl ?_
      refine J_getR C fl_RX2_9 oC_6 rfl dX2_isTold_11 ?_
      refine J_iload_n C 1 dX2_isTold_14 rfl 1 rfl ?_
      refine J_iald C aC_7 hσ dX2_isTold_15 h (fun v1 hv2 h => ?_)
      refine J_if_le C hv2 (tgt := 23) dX2_isTold_16 (by decide) h (fun h c3 => ?_) (fun h c3 => ?_)
      · refine J_iconst C dX2_isTold_23 ?_
        have e9 := sE h
        subst e9
        exact J_zret C (Or.inl rfl) E (Or.inl rfl) dX2_isTold_24
      · refine J_iconst C dX2_isTold_19 ?_
        refine J_goto C (tgt := 24) dX2_isTold_20 (by decide) ?_
        have e9 := sE h
        subst e9
        exact J_zret C (Or.inr rfl) E (Or.inr rfl) dX2_isTold_24
    · refine J_iconst C dX2_isTold_23 ?_
      have e9 := sE h
      subst e9
      exact J_zret C (Or.inl rfl) E (Or.inl rfl) dX2_isTold_24
set_option maxRecDepth 100000 in
set_option maxHeartbeats 4000000 in
theorem m_X2_heightOf (l : Launch) (g : Gm) (hg : gInj yC g) (x1 : Int) (h1 : rg x1) (σ : Sg) (hσ : wfS yC σ) (q : Int) (h : fX2_heightOf x1 σ = some q) : CJ l yC g yX2_heightOf cX2_heightOf 2 (some .int) 1 21 [.ref (gad g 6), vi x1] σ (some (vi q)) σ (rg q) := by
  refine CJ_of hg (by decide) rfl (Nat.le_of_ble_eq_true rfl) (lo := [(0, .ref (gad g 6)), (1, vi x1)]) rfl (fun x C E => ?_)
  unfold fX2_heightOf at h
  refine J_aload_n C 0 dX2_heightOf_0 rfl 0 rfl ?_
  refine J_iload_n C 1 dX2_heightOf_1 rfl 1 rfl ?_
  obtain ⟨q1, cq1, h⟩ := bdS h
  refine J_callV C mw_X2_isTold ml_RX2_36 (m_X2_isTold x.2.1 g (CxI C) x1 h1 σ hσ q1 cq1) oC_6 rfl (Nat.le_of_ble_eq_true rfl) (Nat.le_of_ble_eq_true rfl) rfl rfl (Nat.le_of_ble_eq_true rfl) dX2_heightOf_2 (fun hz2 => ?_)
  refine J_if_eq C (rg01 hz2) (tgt := 17) dX2_heightOf_5 (by decide) h (fun h c5 => ?_) (fun h c5 => ?_)
  · refine J_iconst C dX2_heightOf_17 ?_
    have e9 := sE h
    subst e9
    exact J_iret C E rl_0 dX2_heightOf_18
  · refine J_aload_n C 0 dX2_heightOf_8 rfl 0 rfl ?_
    refine J_getR C fl_RX2_15 oC_6 rfl dX2_heightOf_9 ?_
    refine J_iload_n C 1 dX2_heightOf_12 rfl 1 rfl ?_
    refine J_iald C aC_8 hσ dX2_heightOf_13 h (fun v3 hv4 h => ?_)
    refine J_goto C (tgt := 18) dX2_heightOf_14 (by decide) ?_
    have e9 := sE h
    subst e9
    exact J_iret C E hv4 dX2_heightOf_18
set_option maxRecDepth 100000 in
set_option maxHeartbeats 4000000 in
theorem m_X2_burnOf (l : Launch) (g : Gm) (hg : gInj yC g) (x1 : Int) (h1 : rg x1) (σ : Sg) (hσ : wfS yC σ) (q : Int) (h : fX2_burnOf x1 σ = some q) : CJ l yC g yX2_burnOf cX2_burnOf 2 (some .int) 1 21 [.ref (gad g 6), vi x1] σ (some (vi q)) σ (rg q) := by
  refine CJ_of hg (by decide) rfl (Nat.le_of_ble_eq_true rfl) (lo := [(0, .ref (gad g 6)), (1, vi x1)]) rfl (fun x C E => ?_)
  unfold fX2_burnOf at h
  refine J_aload_n C 0 dX2_burnOf_0 rfl 0 rfl ?_
  refine J_iload_n C 1 dX2_burnOf_1 rfl 1 rfl ?_
  obtain ⟨q1, cq1, h⟩ := bdS h
  refine J_callV C mw_X2_isTold ml_RX2_36 (m_X2_isTold x.2.1 g (CxI C) x1 h1 σ hσ q1 cq1) oC_6 rfl (Nat.le_of_ble_eq_true rfl) (Nat.le_of_ble_eq_true rfl) rfl rfl (Nat.le_of_ble_eq_true rfl) dX2_burnOf_2 (fun hz2 => ?_)
  refine J_if_eq C (rg01 hz2) (tgt := 17) dX2_burnOf_5 (by decide) h (fun h c5 => ?_) (fun h c5 => ?_)
  · refine J_iconst C dX2_burnOf_17 ?_
    have e9 := sE h
    subst e9
    exact J_iret C E rl_0 dX2_burnOf_18
  · refine J_aload_n C 0 dX2_burnOf_8 rfl 0 rfl ?_
    refine J_getR C fl_RX2_21 oC_6 rfl dX2_burnOf_9 ?_
    refine J_iload_n C 1 dX2_burnOf_12 rfl 1 rfl ?_
    refine J_iald C aC_10 hσ dX2_burnOf_13 h (fun v3 hv4 h => ?_)
    refine J_goto C (tgt := 18) dX2_burnOf_14 (by decide) ?_
    have e9 := sE h
    subst e9
    exact J_iret C E hv4 dX2_burnOf_18
set_option maxRecDepth 100000 in
set_option maxHeartbeats 4000000 in
theorem m_X0_slot (l : Launch) (g : Gm) (hg : gInj yC g) (x1 : Int) (h1 : rg x1) (x2 : Int) (h2 : rg x2) (x3 : Int) (h3 : rg x3) (σ : Sg) (hσ : wfS yC σ) (q : Int) (h : fX0_slot x1 x2 x3 σ = some q) : CJ l yC g yX0_slot cX0_slot 4 (some .int) 0 0 [.ref (gad g 13), vi x1, vi x2, vi x3] σ (some (vi q)) σ (rg q) := by
  refine CJ_of hg (by decide) rfl (Nat.le_of_ble_eq_true rfl) (lo := [(0, .ref (gad g 13)), (1, vi x1), (2, vi x2), (3, vi x3)]) rfl (fun x C E => ?_)
  unfold fX0_slot at h
  refine J_iload_n C 1 dX0_slot_0 rfl 1 rfl ?_
  refine J_if_lt C h1 (tgt := 28) dX0_slot_1 (by decide) h (fun h c14 => ?_) (fun h c14 => ?_)
  · refine J_iconst C dX0_slot_28 ?_
    have e9 := sE h
    subst e9
    exact J_iret C E rl_m1 dX0_slot_29
  · refine J_iload_n C 1 dX0_slot_4 rfl 1 rfl ?_
    refine J_bipush C dX0_slot_5 (bp8 (by decide) (by decide)) ?_
    refine J_icmp_ge C h1 rl_12 (tgt := 28) dX0_slot_7 (by decide) h (fun h c13 => ?_) (fun h c13 => ?_)
    · refine J_iload_n C 2 dX0_slot_10 rfl 2 rfl ?_
      refine J_if_lt C h2 (tgt := 28) dX0_slot_11 (by decide) h (fun h c12 => ?_) (fun h c12 => ?_)
      · refine J_iconst C dX0_slot_28 ?_
        have e9 := sE h
        subst e9
        exact J_iret C E rl_m1 dX0_slot_29
      · refine J_iload_n C 2 dX0_slot_14 rfl 2 rfl ?_
        refine J_iconst C dX0_slot_15 ?_
        refine J_icmp_ge C h2 rl_4 (tgt := 28) dX0_slot_16 (by decide) h (fun h c11 => ?_) (fun h c11 => ?_)
        · refine J_iload_n C 3 dX0_slot_19 rfl 3 rfl ?_
          refine J_if_lt C h3 (tgt := 28) dX0_slot_20 (by decide) h (fun h c10 => ?_) (fun h c10 => ?_)
          · refine J_iconst C dX0_slot_28 ?_
            have e9 := sE h
            subst e9
            exact J_iret C E rl_m1 dX0_slot_29
          · refine J_iload_n C 3 dX0_slot_23 rfl 3 rfl ?_
            refine J_iconst C dX0_slot_24 ?_
            refine J_icmp_le C h3 rl_1 (tgt := 30) dX0_slot_25 (by decide) h (fun h c9 => ?_) (fun h c9 => ?_)
            · refine J_iload_n C 1 dX0_slot_30 rfl 1 rfl ?_
              refine J_iconst C dX0_slot_31 ?_
              refine J_imul C dX0_slot_32 h (fun v1 hv2 h => ?_)
              refine J_iload_n C 2 dX0_slot_33 rfl 2 rfl ?_
              refine J_iadd C dX0_slot_34 h (fun v3 hv4 h => ?_)
              refine J_iconst C dX0_slot_35 ?_
              refine J_imul C dX0_slot_36 h (fun v5 hv6 h => ?_)
              refine J_iload_n C 3 dX0_slot_37 rfl 3 rfl ?_
              refine J_iadd C dX0_slot_38 h (fun v7 hv8 h => ?_)
              have e9 := sE h
              subst e9
              exact J_iret C E hv8 dX0_slot_39
            · refine J_iconst C dX0_slot_28 ?_
              have e9 := sE h
              subst e9
              exact J_iret C E rl_m1 dX0_slot_29
        · refine J_iconst C dX0_slot_28 ?_
          have e9 := sE h
          subst e9
          exact J_iret C E rl_m1 dX0_slot_29
    · refine J_iconst C dX0_slot_28 ?_
      have e9 := sE h
      subst e9
      exact J_iret C E rl_m1 dX0_slot_29
set_option maxRecDepth 100000 in
set_option maxHeartbeats 4000000 in
theorem wX0_reckonFall_L38 {x : Ct} {g : Gm} (C : Cx x yC g 11 cX0_reckonFall RX0 1 40) : ∀ (n : Nat) (x1 : Int) (h1 : rg x1) (x2 : Int) (h2 : rg x2) (x4 : Int) (h4 : rg x4) (x5 : Int) (h5 : rg x5) (x6 : Int) (h6 : rg x6) (x7 : Int) (h7 : rg x7) (x8 : Int) (h8 : rg x8) (x9 : Int) (h9 : rg x9) (σ : Sg) (hσ : wfS yC σ) (q : Int × Int × Int) (h : fX0_reckonFall_L38 n x1 x2 x4 x5 x6 x7 x8 x9 σ = some q) (k : rg q.1 → rg q.2.1 → rg q.2.2 → J x yC g 11 119 [(0, .ref (gad g 13)), (1, vi x1), (5, vi q.1), (6, vi q.2.1), (8, vi q.2.2)] [] σ), J x yC g 11 38 [(0, .ref (gad g 13)), (1, vi x1), (2, vi x2), (4, vi x4), (5, vi x5), (6, vi x6), (7, vi x7), (8, vi x8), (9, vi x9)] [] σ := by
  intro n
  induction n with
  | zero =>
    intro x1 h1 x2 h2 x4 h4 x5 h5 x6 h6 x7 h7 x8 h8 x9 h9 σ hσ q h k
    exact absurd h (by intro z; cases z)
  | succ n ih =>
    intro x1 h1 x2 h2 x4 h4 x5 h5 x6 h6 x7 h7 x8 h8 x9 h9 σ hσ q h k
    rw [fX0_reckonFall_L38] at h
    have pc21 : ∀ (x5 : Int) (h5 : rg x5) (x6 : Int) (h6 : rg x6) (x7 : Int) (h7 : rg x7) (x9 : Int) (h9 : rg x9) (y0 : Int) (g0 : rg y0), fX0_reckonFall_L38P111 (fX0_reckonFall_L38 n) x1 x2 x4 x5 x6 x7 x9 y0 σ = some q → J x yC g 11 111 [(0, .ref (gad g 13)), (1, vi x1), (2, vi x2), (4, vi x4), (5, vi x5), (6, vi x6), (7, vi x7), (9, vi x9)] [vi y0] σ := by
      intro x5 h5 x6 h6 x7 h7 x9 h9 y0 g0 h
      unfold fX0_reckonFall_L38P111 at h
      refine J_istore (lo2 := [(8, vi y0), (0, .ref (gad g 13)), (1, vi x1), (2, vi x2), (4, vi x4), (5, vi x5), (6, vi x6), (7, vi x7), (9, vi x9)]) C 8 dX0_reckonFall_111 (by decide) rfl ?_
      refine J_iinc C 9 8 dX0_reckonFall_113 rfl (by decide) h (fun v22 hv23 h => ?_)
      refine J_goto C (tgt := 38) dX0_reckonFall_116 (by decide) ?_
      exact J_sub [2, 3, 4, 5, 6, 7, 8, 1, 0] rfl (ih x1 h1 x2 h2 x4 h4 x5 h5 x6 h6 x7 h7 y0 g0 v22 hv23 σ hσ q h k)
    refine J_iload C 9 dX0_reckonFall_38 8 rfl ?_
    refine J_iload C 4 dX0_reckonFall_40 3 rfl ?_
    refine J_icmp_ge C h9 h4 (tgt := 119) dX0_reckonFall_42 (by decide) h (fun h c28 => ?_) (fun h c28 => ?_)
    · refine J_iload C 8 dX0_reckonFall_45 7 rfl ?_
      refine J_if_ne C h8 (tgt := 119) dX0_reckonFall_47 (by decide) h (fun h c27 => ?_) (fun h c27 => ?_)
      · refine J_iconst C dX0_reckonFall_50 ?_
        refine J_iconst C dX0_reckonFall_51 ?_
        refine J_iload C 7 dX0_reckonFall_52 6 rfl ?_
        refine J_sipush C dX0_reckonFall_54 (bp16 (by decide) (by decide)) ?_
        refine J_idiv C h7 rl_500 dX0_reckonFall_57 h (fun v1 hv2 h => ?_)
        refine J_min C rl_4 hv2 mth_min ml_RX0_55 (Nat.le_of_ble_eq_true rfl) (Nat.le_of_ble_eq_true rfl) dX0_reckonFall_58 ?_
        refine J_max C rl_0 (rg_mn rl_4 hv2) mth_max ml_RX0_61 (Nat.le_of_ble_eq_true rfl) (Nat.le_of_ble_eq_true rfl) dX0_reckonFall_61 ?_
        refine J_istore (lo2 := [(10, vi (mxI 0 (mnI 4 v1))), (0, .ref (gad g 13)), (1, vi x1), (2, vi x2), (4, vi x4), (5, vi x5), (6, vi x6), (7, vi x7), (8, vi x8), (9, vi x9)]) C 10 dX0_reckonFall_64 (by decide) rfl ?_
        refine J_iload C 5 dX0_reckonFall_66 5 rfl ?_
        refine J_aload_n C 0 dX0_reckonFall_68 rfl 1 rfl ?_
        refine J_getR C fl_RX0_9 oC_13 rfl dX0_reckonFall_69 ?_
        refine J_iload_n C 2 dX0_reckonFall_72 rfl 3 rfl ?_
        refine J_iconst C dX0_reckonFall_73 ?_
        refine J_imul C dX0_reckonFall_74 h (fun v3 hv4 h => ?_)
        refine J_iload C 10 dX0_reckonFall_75 0 rfl ?_
        refine J_iadd C dX0_reckonFall_77 h (fun v5 hv6 h => ?_)
        refine J_iald C aC_14 hσ dX0_reckonFall_78 h (fun v7 hv8 h => ?_)
        refine J_iadd C dX0_reckonFall_79 h (fun v9 hv10 h => ?_)
        refine J_istore (lo2 := [(5, vi v9), (10, vi (mxI 0 (mnI 4 v1))), (0, .ref (gad g 13)), (1, vi x1), (2, vi x2), (4, vi x4), (6, vi x6), (7, vi x7), (8, vi x8), (9, vi x9)]) C 5 dX0_reckonFall_80 (by decide) rfl ?_
        refine J_iload C 6 dX0_reckonFall_82 6 rfl ?_
        refine J_aload_n C 0 dX0_reckonFall_84 rfl 2 rfl ?_
        refine J_getR C fl_RX0_15 oC_13 rfl dX0_reckonFall_85 ?_
        refine J_iload_n C 2 dX0_reckonFall_88 rfl 4 rfl ?_
        refine J_iconst C dX0_reckonFall_89 ?_
        refine J_imul C dX0_reckonFall_90 h (fun v11 hv12 h => ?_)
        refine J_iload C 10 dX0_reckonFall_91 1 rfl ?_
        refine J_iadd C dX0_reckonFall_93 h (fun v13 hv14 h => ?_)
        refine J_iald C aC_15 hσ dX0_reckonFall_94 h (fun v15 hv16 h => ?_)
        refine J_iadd C dX0_reckonFall_95 h (fun v17 hv18 h => ?_)
        refine J_istore (lo2 := [(6, vi v17), (5, vi v9), (10, vi (mxI 0 (mnI 4 v1))), (0, .ref (gad g 13)), (1, vi x1), (2, vi x2), (4, vi x4), (7, vi x7), (8, vi x8), (9, vi x9)]) C 6 dX0_reckonFall_96 (by decide) rfl ?_
        refine J_iinc C 7 7 dX0_reckonFall_98 rfl (by decide) h (fun v19 hv20 h => ?_)
        refine J_iload C 7 dX0_reckonFall_101 0 rfl ?_
        refine J_if_gt C hv20 (tgt := 110) dX0_reckonFall_103 (by decide) h (fun h c26 => ?_) (fun h c26 => ?_)
        · refine J_iconst C dX0_reckonFall_106 ?_
          refine J_goto C (tgt := 111) dX0_reckonFall_107 (by decide) ?_
          exact J_sub [4, 5, 6, 7, 2, 1, 0, 9] rfl (pc21 v9 hv10 v17 hv18 v19 hv20 x9 h9 1 rl_1 h)
        · refine J_iconst C dX0_reckonFall_110 ?_
          exact J_sub [4, 5, 6, 7, 2, 1, 0, 9] rfl (pc21 v9 hv10 v17 hv18 v19 hv20 x9 h9 0 rl_0 h)
      · have e9 := sE h
        subst e9
        exact J_sub [0, 1, 4, 5, 7] rfl (k h5 h6 h8)
    · have e9 := sE h
      subst e9
      exact J_sub [0, 1, 4, 5, 7] rfl (k h5 h6 h8)
set_option maxRecDepth 100000 in
set_option maxHeartbeats 4000000 in
theorem m_X0_reckonFall (l : Launch) (g : Gm) (hg : gInj yC g) (x1 : Int) (h1 : rg x1) (x2 : Int) (h2 : rg x2) (x3 : Int) (h3 : rg x3) (x4 : Int) (h4 : rg x4) (σ : Sg) (hσ : wfS yC σ) (q : Sg) (h : fX0_reckonFall x1 x2 x3 x4 σ = some q) : CJ l yC g yX0_reckonFall cX0_reckonFall 11 none 1 40 [.ref (gad g 13), vi x1, vi x2, vi x3, vi x4] σ none q (wfS yC q) := by
  refine CJ_of hg (by decide) rfl (Nat.le_of_ble_eq_true rfl) (lo := [(0, .ref (gad g 13)), (1, vi x1), (2, vi x2), (3, vi x3), (4, vi x4)]) rfl (fun x C E => ?_)
  unfold fX0_reckonFall at h
  refine J_iload_n C 1 dX0_reckonFall_0 rfl 1 rfl ?_
  refine J_if_lt C h1 (tgt := 22) dX0_reckonFall_1 (by decide) h (fun h c42 => ?_) (fun h c42 => ?_)
  · have e9 := sE h
    subst e9
    exact J_vret C E hσ dX0_reckonFall_22
  · refine J_iload_n C 1 dX0_reckonFall_4 rfl 1 rfl ?_
    refine J_aload_n C 0 dX0_reckonFall_5 rfl 0 rfl ?_
    refine J_getR C fl_RX0_18 oC_13 rfl dX0_reckonFall_6 ?_
    refine J_alen C (n := 96) (t0 := 3) aC_16.1 rfl rfl rfl dX0_reckonFall_9 ?_
    refine J_icmp_ge C h1 rl_96 (tgt := 22) dX0_reckonFall_10 (by decide) h (fun h c41 => ?_) (fun h c41 => ?_)
    · refine J_iload_n C 2 dX0_reckonFall_13 rfl 2 rfl ?_
      refine J_if_lt C h2 (tgt := 22) dX0_reckonFall_14 (by decide) h (fun h c40 => ?_) (fun h c40 => ?_)
      · have e9 := sE h
        subst e9
        exact J_vret C E hσ dX0_reckonFall_22
      · refine J_iload_n C 2 dX0_reckonFall_17 rfl 2 rfl ?_
        refine J_iconst C dX0_reckonFall_18 ?_
        refine J_icmp_lt C h2 rl_4 (tgt := 23) dX0_reckonFall_19 (by decide) h (fun h c39 => ?_) (fun h c39 => ?_)
        · refine J_iconst C dX0_reckonFall_23 ?_
          refine J_istore (lo2 := [(5, vi 0), (0, .ref (gad g 13)), (1, vi x1), (2, vi x2), (3, vi x3), (4, vi x4)]) C 5 dX0_reckonFall_24 (by decide) rfl ?_
          refine J_iconst C dX0_reckonFall_26 ?_
          refine J_istore (lo2 := [(6, vi 0), (5, vi 0), (0, .ref (gad g 13)), (1, vi x1), (2, vi x2), (3, vi x3), (4, vi x4)]) C 6 dX0_reckonFall_27 (by decide) rfl ?_
          refine J_iload_n C 3 dX0_reckonFall_29 rfl 5 rfl ?_
          refine J_istore (lo2 := [(7, vi x3), (6, vi 0), (5, vi 0), (0, .ref (gad g 13)), (1, vi x1), (2, vi x2), (3, vi x3), (4, vi x4)]) C 7 dX0_reckonFall_30 (by decide) rfl ?_
          refine J_iconst C dX0_reckonFall_32 ?_
          refine J_istore (lo2 := [(8, vi 0), (7, vi x3), (6, vi 0), (5, vi 0), (0, .ref (gad g 13)), (1, vi x1), (2, vi x2), (3, vi x3), (4, vi x4)]) C 8 dX0_reckonFall_33 (by decide) rfl ?_
          refine J_iconst C dX0_reckonFall_35 ?_
          refine J_istore (lo2 := [(9, vi 0), (8, vi 0), (7, vi x3), (6, vi 0), (5, vi 0), (0, .ref (gad g 13)), (1, vi x1), (2, vi x2), (3, vi x3), (4, vi x4)]) C 9 dX0_reckonFall_36 (by decide) rfl ?_
          obtain ⟨q29, cq29, h⟩ := bdS h
          refine J_sub [5, 6, 7, 9, 4, 3, 2, 1, 0] rfl (wX0_reckonFall_L38 C fu x1 h1 x2 h2 x4 h4 0 rl_0 0 rl_0 x3 h3 0 rl_0 0 rl_0 σ hσ q29 cq29 (fun hr30 hr31 hr32 => ?_))
          refine J_aload_n C 0 dX0_reckonFall_119 rfl 0 rfl ?_
          refine J_getR C fl_RX0_18 oC_13 rfl dX0_reckonFall_120 ?_
          refine J_iload_n C 1 dX0_reckonFall_123 rfl 1 rfl ?_
          refine J_iload C 8 dX0_reckonFall_124 4 rfl ?_
          refine J_zast C aC_16 hσ dX0_reckonFall_126 h (fun σ33 hσ34 h => ?_)
          refine J_aload_n C 0 dX0_reckonFall_127 rfl 0 rfl ?_
          refine J_getR C fl_RX0_22 oC_13 rfl dX0_reckonFall_128 ?_
          refine J_iload_n C 1 dX0_reckonFall_131 rfl 1 rfl ?_
          refine J_iload C 5 dX0_reckonFall_132 2 rfl ?_
          refine J_iast C aC_17 hσ34 hr30 dX0_reckonFall_134 h (fun σ35 hσ36 h => ?_)
          refine J_aload_n C 0 dX0_reckonFall_135 rfl 0 rfl ?_
          refine J_getR C fl_RX0_25 oC_13 rfl dX0_reckonFall_136 ?_
          refine J_iload_n C 1 dX0_reckonFall_139 rfl 1 rfl ?_
          refine J_iload C 6 dX0_reckonFall_140 3 rfl ?_
          refine J_iast C aC_18 hσ36 hr31 dX0_reckonFall_142 h (fun σ37 hσ38 h => ?_)
          have e9 := sE h
          subst e9
          exact J_vret C E hσ38 dX0_reckonFall_143
        · have e9 := sE h
          subst e9
          exact J_vret C E hσ dX0_reckonFall_22
    · have e9 := sE h
      subst e9
      exact J_vret C E hσ dX0_reckonFall_22
set_option maxRecDepth 100000 in
set_option maxHeartbeats 4000000 in
theorem m_X0_reckonFalls (l : Launch) (g : Gm) (hg : gInj yC g) (x2 : Int) (h2 : rg x2) (x3 : Int) (h3 : rg x3) (σ : Sg) (hσ : wfS yC σ) (q : Sg) (h : fX0_reckonFalls x2 x3 σ = some q) : CJ l yC g yX0_reckonFalls cX0_reckonFalls 6 none 2 70 [.ref (gad g 13), .ref (gad g 6), vi x2, vi x3] σ none q (wfS yC q) := by
  refine CJ_of hg (by decide) rfl (Nat.le_of_ble_eq_true rfl) (lo := [(0, .ref (gad g 13)), (1, .ref (gad g 6)), (2, vi x2), (3, vi x3)]) rfl (fun x C E => ?_)
  unfold fX0_reckonFalls at h
  refine J_aload_n C 1 dX0_reckonFalls_0 rfl 1 rfl ?_
  refine J_iload_n C 2 dX0_reckonFalls_1 rfl 2 rfl ?_
  obtain ⟨q1, cq1, h⟩ := bdS h
  refine J_callV C mw_X2_heightOf ml_RX0_38 (m_X2_heightOf x.2.1 g (CxI C) x2 h2 σ hσ q1 cq1) oC_6 rfl (Nat.le_of_ble_eq_true rfl) (Nat.le_of_ble_eq_true rfl) rfl rfl (Nat.le_of_ble_eq_true rfl) dX0_reckonFalls_2 (fun hz2 => ?_)
  refine J_istore (lo2 := [(4, vi q1), (0, .ref (gad g 13)), (1, .ref (gad g 6)), (2, vi x2), (3, vi x3)]) C 4 dX0_reckonFalls_5 (by decide) rfl ?_
  refine J_aload_n C 1 dX0_reckonFalls_7 rfl 2 rfl ?_
  refine J_iload_n C 2 dX0_reckonFalls_8 rfl 3 rfl ?_
  obtain ⟨q3, cq3, h⟩ := bdS h
  refine J_callV C mw_X2_burnOf ml_RX0_44 (m_X2_burnOf x.2.1 g (CxI C) x2 h2 σ hσ q3 cq3) oC_6 rfl (Nat.le_of_ble_eq_true rfl) (Nat.le_of_ble_eq_true rfl) rfl rfl (Nat.le_of_ble_eq_true rfl) dX0_reckonFalls_9 (fun hz4 => ?_)
  refine J_istore (lo2 := [(5, vi q3), (4, vi q1), (0, .ref (gad g 13)), (1, .ref (gad g 6)), (2, vi x2), (3, vi x3)]) C 5 dX0_reckonFalls_12 (by decide) rfl ?_
  refine J_aload_n C 0 dX0_reckonFalls_14 rfl 2 rfl ?_
  refine J_aload_n C 0 dX0_reckonFalls_15 rfl 2 rfl ?_
  refine J_iload_n C 2 dX0_reckonFalls_16 rfl 4 rfl ?_
  refine J_iload_n C 3 dX0_reckonFalls_17 rfl 5 rfl ?_
  refine J_iconst C dX0_reckonFalls_18 ?_
  obtain ⟨q5, cq5, h⟩ := bdS h
  refine J_callV C mw_X0_slot ml_RX0_47 (m_X0_slot x.2.1 g (CxI C) x2 h2 x3 h3 0 rl_0 σ hσ q5 cq5) oC_13 rfl (Nat.le_of_ble_eq_true rfl) (Nat.le_of_ble_eq_true rfl) rfl rfl (Nat.le_of_ble_eq_true rfl) dX0_reckonFalls_19 (fun hz6 => ?_)
  refine J_iload_n C 3 dX0_reckonFalls_22 rfl 5 rfl ?_
  refine J_bipush C dX0_reckonFalls_23 (bp8 (by decide) (by decide)) ?_
  refine J_iload C 4 dX0_reckonFalls_25 1 rfl ?_
  refine J_imul C dX0_reckonFalls_27 h (fun v7 hv8 h => ?_)
  refine J_iload C 5 dX0_reckonFalls_28 0 rfl ?_
  obtain ⟨q9, cq9, h⟩ := bdS h
  refine J_callV C mw_X0_reckonFall ml_RX0_51 (m_X0_reckonFall x.2.1 g (CxI C) q5 hz6 x3 h3 v7 hv8 q3 hz4 σ hσ q9 cq9) oC_13 rfl (Nat.le_of_ble_eq_true rfl) (Nat.le_of_ble_eq_true rfl) rfl rfl (Nat.le_of_ble_eq_true rfl) dX0_reckonFalls_30 (fun hz10 => ?_)
  refine J_aload_n C 0 dX0_reckonFalls_33 rfl 2 rfl ?_
  refine J_aload_n C 0 dX0_reckonFalls_34 rfl 2 rfl ?_
  refine J_iload_n C 2 dX0_reckonFalls_35 rfl 4 rfl ?_
  refine J_iload_n C 3 dX0_reckonFalls_36 rfl 5 rfl ?_
  refine J_iconst C dX0_reckonFalls_37 ?_
  obtain ⟨q11, cq11, h⟩ := bdS h
  refine J_callV C mw_X0_slot ml_RX0_47 (m_X0_slot x.2.1 g (CxI C) x2 h2 x3 h3 1 rl_1 q9 hz10 q11 cq11) oC_13 rfl (Nat.le_of_ble_eq_true rfl) (Nat.le_of_ble_eq_true rfl) rfl rfl (Nat.le_of_ble_eq_true rfl) dX0_reckonFalls_38 (fun hz12 => ?_)
  refine J_iload_n C 3 dX0_reckonFalls_41 rfl 5 rfl ?_
  refine J_iconst C dX0_reckonFalls_42 ?_
  refine J_iload C 4 dX0_reckonFalls_43 1 rfl ?_
  refine J_imul C dX0_reckonFalls_45 h (fun v13 hv14 h => ?_)
  refine J_iload C 5 dX0_reckonFalls_46 0 rfl ?_
  obtain ⟨q15, cq15, h⟩ := bdS h
  refine J_callV C mw_X0_reckonFall ml_RX0_51 (m_X0_reckonFall x.2.1 g (CxI C) q11 hz12 x3 h3 v13 hv14 q3 hz4 q9 hz10 q15 cq15) oC_13 rfl (Nat.le_of_ble_eq_true rfl) (Nat.le_of_ble_eq_true rfl) rfl rfl (Nat.le_of_ble_eq_true rfl) dX0_reckonFalls_48 (fun hz16 => ?_)
  have e9 := sE h
  subst e9
  exact J_vret C E hz16 dX0_reckonFalls_51
set_option maxRecDepth 100000 in
set_option maxHeartbeats 4000000 in
theorem wX0_reckonKind_L2 {x : Ct} {g : Gm} (C : Cx x yC g 4 cX0_reckonKind RX0 3 95) : ∀ (n : Nat) (x2 : Int) (h2 : rg x2) (x3 : Int) (h3 : rg x3) (σ : Sg) (hσ : wfS yC σ) (q : Sg) (h : fX0_reckonKind_L2 n x2 x3 σ = some q) (k : wfS yC q → J x yC g 4 20 [] [] q), J x yC g 4 2 [(0, .ref (gad g 13)), (1, .ref (gad g 6)), (2, vi x2), (3, vi x3)] [] σ := by
  intro n
  induction n with
  | zero =>
    intro x2 h2 x3 h3 σ hσ q h k
    exact absurd h (by intro z; cases z)
  | succ n ih =>
    intro x2 h2 x3 h3 σ hσ q h k
    rw [fX0_reckonKind_L2] at h
    refine J_iload_n C 3 dX0_reckonKind_2 rfl 3 rfl ?_
    refine J_iconst C dX0_reckonKind_3 ?_
    refine J_icmp_ge C h3 rl_4 (tgt := 20) dX0_reckonKind_4 (by decide) h (fun h c5 => ?_) (fun h c5 => ?_)
    · refine J_aload_n C 0 dX0_reckonKind_7 rfl 0 rfl ?_
      refine J_aload_n C 1 dX0_reckonKind_8 rfl 1 rfl ?_
      refine J_iload_n C 2 dX0_reckonKind_9 rfl 2 rfl ?_
      refine J_iload_n C 3 dX0_reckonKind_10 rfl 3 rfl ?_
      obtain ⟨q1, cq1, h⟩ := bdS h
      refine J_callV C mw_X0_reckonFalls ml_RX0_34 (m_X0_reckonFalls x.2.1 g (CxI C) x2 h2 x3 h3 σ hσ q1 cq1) oC_13 rfl (Nat.le_of_ble_eq_true rfl) (Nat.le_of_ble_eq_true rfl) rfl rfl (Nat.le_of_ble_eq_true rfl) dX0_reckonKind_11 (fun hz2 => ?_)
      refine J_iinc C 3 3 dX0_reckonKind_14 rfl (by decide) h (fun v3 hv4 h => ?_)
      refine J_goto C (tgt := 2) dX0_reckonKind_17 (by decide) ?_
      exact J_sub [1, 2, 3, 0] rfl (ih x2 h2 v3 hv4 q1 hz2 q h k)
    · have e9 := sE h
      subst e9
      exact J_sub [] rfl (k hσ)
set_option maxRecDepth 100000 in
set_option maxHeartbeats 4000000 in
theorem m_X0_reckonKind (l : Launch) (g : Gm) (hg : gInj yC g) (x2 : Int) (h2 : rg x2) (σ : Sg) (hσ : wfS yC σ) (q : Sg) (h : fX0_reckonKind x2 σ = some q) : CJ l yC g yX0_reckonKind cX0_reckonKind 4 none 3 95 [.ref (gad g 13), .ref (gad g 6), vi x2] σ none q (wfS yC q) := by
  refine CJ_of hg (by decide) rfl (Nat.le_of_ble_eq_true rfl) (lo := [(0, .ref (gad g 13)), (1, .ref (gad g 6)), (2, vi x2)]) rfl (fun x C E => ?_)
  unfold fX0_reckonKind at h
  refine J_iconst C dX0_reckonKind_0 ?_
  refine J_istore_n (lo2 := [(3, vi 0), (0, .ref (gad g 13)), (1, .ref (gad g 6)), (2, vi x2)]) C 3 dX0_reckonKind_1 rfl (by decide) rfl ?_
  obtain ⟨q6, cq6, h⟩ := bdS h
  refine J_sub [1, 2, 3, 0] rfl (wX0_reckonKind_L2 C fu x2 h2 0 rl_0 σ hσ q6 cq6 (fun hσ7 => ?_))
  have e9 := sE h
  subst e9
  exact J_vret C E hσ7 dX0_reckonKind_20
set_option maxRecDepth 100000 in
set_option maxHeartbeats 4000000 in
theorem m_X11_kind (l : Launch) (g : Gm) (hg : gInj yC g) (x1 : Int) (h1 : rg x1) (x2 : Int) (h2 : rg x2) (x3 : Int) (h3 : rg x3) (x4 : Int) (h4 : rg x4) (x5 : Int) (h5 : rg x5) (σ : Sg) (hσ : wfS yC σ) (q : Int × Sg) (h : fX11_kind x1 x2 x3 x4 x5 σ = some q) : CJ l yC g yX11_kind cX11_kind 6 (some .int) 4 118 [.ref (gad g 0), vi x1, vi x2, vi x3, vi x4, vi x5] σ (some (vi q.1)) q.2 ((rg q.1) ∧ wfS yC q.2) := by
  refine CJ_of hg (by decide) rfl (Nat.le_of_ble_eq_true rfl) (lo := [(0, .ref (gad g 0)), (1, vi x1), (2, vi x2), (3, vi x3), (4, vi x4), (5, vi x5)]) rfl (fun x C E => ?_)
  unfold fX11_kind at h
  refine J_iload_n C 1 dX11_kind_0 rfl 1 rfl ?_
  refine J_if_lt C h1 (tgt := 22) dX11_kind_1 (by decide) h (fun h c12 => ?_) (fun h c12 => ?_)
  · refine J_iconst C dX11_kind_22 ?_
    have e9 := sE h
    subst e9
    exact J_iret C E ⟨rl_m1, hσ⟩ dX11_kind_23
  · refine J_iload_n C 1 dX11_kind_4 rfl 1 rfl ?_
    refine J_bipush C dX11_kind_5 (bp8 (by decide) (by decide)) ?_
    refine J_icmp_ge C h1 rl_12 (tgt := 22) dX11_kind_7 (by decide) h (fun h c11 => ?_) (fun h c11 => ?_)
    · refine J_iload_n C 2 dX11_kind_10 rfl 2 rfl ?_
      refine J_iload_n C 3 dX11_kind_11 rfl 3 rfl ?_
      refine J_iload C 4 dX11_kind_12 4 rfl ?_
      refine J_iload C 5 dX11_kind_14 5 rfl ?_
      obtain ⟨q1, cq1, h⟩ := bdS h
      refine J_callS C mw_X2_isAsSaid ml_RX11_105 (m_X2_isAsSaid x.2.1 g (CxI C) x2 h2 x3 h3 x4 h4 x5 h5 σ hσ q1 cq1) (Nat.le_of_ble_eq_true rfl) (Nat.le_of_ble_eq_true rfl) rfl rfl (Nat.le_of_ble_eq_true rfl) dX11_kind_16 (fun hz2 => ?_)
      refine J_if_ne C (rg01 hz2) (tgt := 24) dX11_kind_19 (by decide) h (fun h c10 => ?_) (fun h c10 => ?_)
      · refine J_iconst C dX11_kind_22 ?_
        have e9 := sE h
        subst e9
        exact J_iret C E ⟨rl_m1, hσ⟩ dX11_kind_23
      · refine J_aload_n C 0 dX11_kind_24 rfl 0 rfl ?_
        refine J_getR C fl_RX11_19 oC_0 rfl dX11_kind_25 ?_
        refine J_iload_n C 1 dX11_kind_28 rfl 1 rfl ?_
        obtain ⟨q3, cq3, h⟩ := bdS h
        refine J_callV C mw_X1_firstBurstOfKind ml_RX11_111 (m_X1_firstBurstOfKind x.2.1 g (CxI C) 19 cues_19 x1 h1 σ hσ q3 cq3) cues_19.1 rfl (Nat.le_of_ble_eq_true rfl) (Nat.le_of_ble_eq_true rfl) rfl rfl (Nat.le_of_ble_eq_true rfl) dX11_kind_29 (fun hz4 => ?_)
        refine J_iload_n C 2 dX11_kind_32 rfl 2 rfl ?_
        refine J_icmp_ge C hz4 h2 (tgt := 39) dX11_kind_33 (by decide) h (fun h c9 => ?_) (fun h c9 => ?_)
        · refine J_bipush C dX11_kind_36 (bp8 (by decide) (by decide)) ?_
          have e9 := sE h
          subst e9
          exact J_iret C E ⟨rl_m5, hσ⟩ dX11_kind_38
        · refine J_aload_n C 0 dX11_kind_39 rfl 0 rfl ?_
          refine J_getR C fl_RX11_10 oC_0 rfl dX11_kind_40 ?_
          refine J_getR C fl_RX11_115 oC_1 rfl dX11_kind_43 ?_
          refine J_iload_n C 1 dX11_kind_46 rfl 1 rfl ?_
          refine J_iload_n C 2 dX11_kind_47 rfl 2 rfl ?_
          refine J_iload_n C 3 dX11_kind_48 rfl 3 rfl ?_
          refine J_iload C 4 dX11_kind_49 4 rfl ?_
          refine J_iload C 5 dX11_kind_51 5 rfl ?_
          obtain ⟨q5, cq5, h⟩ := bdS h
          refine J_callV C mw_X2_tell ml_RX11_119 (m_X2_tell x.2.1 g (CxI C) x1 h1 x2 h2 x3 h3 x4 h4 x5 h5 σ hσ q5 cq5) oC_6 rfl (Nat.le_of_ble_eq_true rfl) (Nat.le_of_ble_eq_true rfl) rfl rfl (Nat.le_of_ble_eq_true rfl) dX11_kind_53 (fun hz6 => ?_)
          refine J_aload_n C 0 dX11_kind_56 rfl 0 rfl ?_
          refine J_getR C fl_RX11_10 oC_0 rfl dX11_kind_57 ?_
          refine J_getR C fl_RX11_123 oC_1 rfl dX11_kind_60 ?_
          refine J_aload_n C 0 dX11_kind_63 rfl 0 rfl ?_
          refine J_getR C fl_RX11_10 oC_0 rfl dX11_kind_64 ?_
          refine J_getR C fl_RX11_115 oC_1 rfl dX11_kind_67 ?_
          refine J_iload_n C 1 dX11_kind_70 rfl 1 rfl ?_
          obtain ⟨q7, cq7, h⟩ := bdS h
          refine J_callV C mw_X0_reckonKind ml_RX11_127 (m_X0_reckonKind x.2.1 g (CxI C) x1 h1 q5 hz6 q7 cq7) oC_13 rfl (Nat.le_of_ble_eq_true rfl) (Nat.le_of_ble_eq_true rfl) rfl rfl (Nat.le_of_ble_eq_true rfl) dX11_kind_71 (fun hz8 => ?_)
          refine J_iload_n C 1 dX11_kind_74 rfl 1 rfl ?_
          have e9 := sE h
          subst e9
          exact J_iret C E ⟨h1, hz8⟩ dX11_kind_75
    · refine J_iconst C dX11_kind_22 ?_
      have e9 := sE h
      subst e9
      exact J_iret C E ⟨rl_m1, hσ⟩ dX11_kind_23
set_option maxRecDepth 100000 in
set_option maxHeartbeats 4000000 in
theorem m_X8_tellBarge (l : Launch) (g : Gm) (hg : gInj yC g) (x1 : Int) (h1 : rg x1) (x2 : Int) (h2 : rg x2) (x3 : Int) (h3 : rg x3) (x4 : Int) (h4 : rg x4) (σ : Sg) (hσ : wfS yC σ) (q : Sg) (h : fX8_tellBarge x1 x2 x3 x4 σ = some q) : CJ l yC g yX8_tellBarge cX8_tellBarge 5 none 0 0 [.ref (gad g 1), vi x1, vi x2, vi x3, vi x4] σ none q (wfS yC q) := by
  refine CJ_of hg (by decide) rfl (Nat.le_of_ble_eq_true rfl) (lo := [(0, .ref (gad g 1)), (1, vi x1), (2, vi x2), (3, vi x3), (4, vi x4)]) rfl (fun x C E => ?_)
  unfold fX8_tellBarge at h
  refine J_iload_n C 1 dX8_tellBarge_0 rfl 1 rfl ?_
  refine J_if_lt C h1 (tgt := 10) dX8_tellBarge_1 (by decide) h (fun h c8 => ?_) (fun h c8 => ?_)
  · have e9 := sE h
    subst e9
    exact J_vret C E hσ dX8_tellBarge_10
  · refine J_iload_n C 1 dX8_tellBarge_4 rfl 1 rfl ?_
    refine J_bipush C dX8_tellBarge_5 (bp8 (by decide) (by decide)) ?_
    refine J_icmp_lt C h1 rl_6 (tgt := 11) dX8_tellBarge_7 (by decide) h (fun h c7 => ?_) (fun h c7 => ?_)
    · refine J_aload_n C 0 dX8_tellBarge_11 rfl 0 rfl ?_
      refine J_getR C fl_RX8_15 oC_1 rfl dX8_tellBarge_12 ?_
      refine J_iload_n C 1 dX8_tellBarge_15 rfl 1 rfl ?_
      refine J_iload_n C 2 dX8_tellBarge_16 rfl 2 rfl ?_
      refine J_iast C aC_3 hσ h2 dX8_tellBarge_17 h (fun σ1 hσ2 h => ?_)
      refine J_aload_n C 0 dX8_tellBarge_18 rfl 0 rfl ?_
      refine J_getR C fl_RX8_19 oC_1 rfl dX8_tellBarge_19 ?_
      refine J_iload_n C 1 dX8_tellBarge_22 rfl 1 rfl ?_
      refine J_iload_n C 3 dX8_tellBarge_23 rfl 3 rfl ?_
      refine J_iast C aC_4 hσ2 h3 dX8_tellBarge_24 h (fun σ3 hσ4 h => ?_)
      refine J_aload_n C 0 dX8_tellBarge_25 rfl 0 rfl ?_
      refine J_getR C fl_RX8_22 oC_1 rfl dX8_tellBarge_26 ?_
      refine J_iload_n C 1 dX8_tellBarge_29 rfl 1 rfl ?_
      refine J_iload C 4 dX8_tellBarge_30 4 rfl ?_
      refine J_iast C aC_5 hσ4 h4 dX8_tellBarge_32 h (fun σ5 hσ6 h => ?_)
      have e9 := sE h
      subst e9
      exact J_vret C E hσ6 dX8_tellBarge_33
    · have e9 := sE h
      subst e9
      exact J_vret C E hσ dX8_tellBarge_10
set_option maxRecDepth 100000 in
set_option maxHeartbeats 4000000 in
theorem m_X11_barge (l : Launch) (g : Gm) (hg : gInj yC g) (x1 : Int) (h1 : rg x1) (x2 : Int) (h2 : rg x2) (x3 : Int) (h3 : rg x3) (x4 : Int) (h4 : rg x4) (σ : Sg) (hσ : wfS yC σ) (q : Int × Sg) (h : fX11_barge x1 x2 x3 x4 σ = some q) : CJ l yC g yX11_barge cX11_barge 5 (some .int) 1 24 [.ref (gad g 0), vi x1, vi x2, vi x3, vi x4] σ (some (vi q.1)) q.2 ((rg q.1) ∧ wfS yC q.2) := by
  refine CJ_of hg (by decide) rfl (Nat.le_of_ble_eq_true rfl) (lo := [(0, .ref (gad g 0)), (1, vi x1), (2, vi x2), (3, vi x3), (4, vi x4)]) rfl (fun x C E => ?_)
  unfold fX11_barge at h
  refine J_iload_n C 1 dX11_barge_0 rfl 1 rfl ?_
  refine J_if_lt C h1 (tgt := 30) dX11_barge_1 (by decide) h (fun h c10 => ?_) (fun h c10 => ?_)
  · refine J_iconst C dX11_barge_30 ?_
    have e9 := sE h
    subst e9
    exact J_iret C E ⟨rl_m1, hσ⟩ dX11_barge_31
  · refine J_iload_n C 1 dX11_barge_4 rfl 1 rfl ?_
    refine J_bipush C dX11_barge_5 (bp8 (by decide) (by decide)) ?_
    refine J_icmp_ge C h1 rl_6 (tgt := 30) dX11_barge_7 (by decide) h (fun h c9 => ?_) (fun h c9 => ?_)
    · refine J_iload_n C 2 dX11_barge_10 rfl 2 rfl ?_
      refine J_if_lt C h2 (tgt := 30) dX11_barge_11 (by decide) h (fun h c8 => ?_) (fun h c8 => ?_)
      · refine J_iconst C dX11_barge_30 ?_
        have e9 := sE h
        subst e9
        exact J_iret C E ⟨rl_m1, hσ⟩ dX11_barge_31
      · refine J_iload_n C 2 dX11_barge_14 rfl 2 rfl ?_
        refine J_bipush C dX11_barge_15 (bp8 (by decide) (by decide)) ?_
        refine J_icmp_ge C h2 rl_32 (tgt := 30) dX11_barge_17 (by decide) h (fun h c7 => ?_) (fun h c7 => ?_)
        · refine J_iload_n C 3 dX11_barge_20 rfl 3 rfl ?_
          refine J_if_lt C h3 (tgt := 30) dX11_barge_21 (by decide) h (fun h c6 => ?_) (fun h c6 => ?_)
          · refine J_iconst C dX11_barge_30 ?_
            have e9 := sE h
            subst e9
            exact J_iret C E ⟨rl_m1, hσ⟩ dX11_barge_31
          · refine J_iload_n C 3 dX11_barge_24 rfl 3 rfl ?_
            refine J_bipush C dX11_barge_25 (bp8 (by decide) (by decide)) ?_
            refine J_icmp_lt C h3 rl_32 (tgt := 32) dX11_barge_27 (by decide) h (fun h c5 => ?_) (fun h c5 => ?_)
            · refine J_iload C 4 dX11_barge_32 4 rfl ?_
              refine J_iconst C dX11_barge_34 ?_
              refine J_icmp_lt C h4 rl_1 (tgt := 45) dX11_barge_35 (by decide) h (fun h c4 => ?_) (fun h c4 => ?_)
              · refine J_iconst C dX11_barge_45 ?_
                have e9 := sE h
                subst e9
                exact J_iret C E ⟨rl_m1, hσ⟩ dX11_barge_46
              · refine J_iload C 4 dX11_barge_38 4 rfl ?_
                refine J_bipush C dX11_barge_40 (bp8 (by decide) (by decide)) ?_
                refine J_icmp_le C h4 rl_40 (tgt := 47) dX11_barge_42 (by decide) h (fun h c3 => ?_) (fun h c3 => ?_)
                · refine J_aload_n C 0 dX11_barge_47 rfl 0 rfl ?_
                  refine J_getR C fl_RX11_10 oC_0 rfl dX11_barge_48 ?_
                  refine J_iload_n C 1 dX11_barge_51 rfl 1 rfl ?_
                  refine J_iload_n C 2 dX11_barge_52 rfl 2 rfl ?_
                  refine J_iload_n C 3 dX11_barge_53 rfl 3 rfl ?_
                  refine J_iload C 4 dX11_barge_54 4 rfl ?_
                  obtain ⟨q1, cq1, h⟩ := bdS h
                  refine J_callV C mw_X8_tellBarge ml_RX11_133 (m_X8_tellBarge x.2.1 g (CxI C) x1 h1 x2 h2 x3 h3 x4 h4 σ hσ q1 cq1) oC_1 rfl (Nat.le_of_ble_eq_true rfl) (Nat.le_of_ble_eq_true rfl) rfl rfl (Nat.le_of_ble_eq_true rfl) dX11_barge_56 (fun hz2 => ?_)
                  refine J_iload_n C 1 dX11_barge_59 rfl 1 rfl ?_
                  have e9 := sE h
                  subst e9
                  exact J_iret C E ⟨h1, hz2⟩ dX11_barge_60
                · refine J_iconst C dX11_barge_45 ?_
                  have e9 := sE h
                  subst e9
                  exact J_iret C E ⟨rl_m1, hσ⟩ dX11_barge_46
            · refine J_iconst C dX11_barge_30 ?_
              have e9 := sE h
              subst e9
              exact J_iret C E ⟨rl_m1, hσ⟩ dX11_barge_31
        · refine J_iconst C dX11_barge_30 ?_
          have e9 := sE h
          subst e9
          exact J_iret C E ⟨rl_m1, hσ⟩ dX11_barge_31
    · refine J_iconst C dX11_barge_30 ?_
      have e9 := sE h
      subst e9
      exact J_iret C E ⟨rl_m1, hσ⟩ dX11_barge_31
set_option maxRecDepth 100000 in
set_option maxHeartbeats 4000000 in
theorem m_X11_isDrift (l : Launch) (g : Gm) (hg : gInj yC g) (x0 : Int) (h0 : rg x0) (σ : Sg) (hσ : wfS yC σ) (q : Int) (h : fX11_isDrift x0 σ = some q) : CJ l yC g yX11_isDrift cX11_isDrift 1 (some .boolean) 0 0 [vi x0] σ (some (vi q)) σ (q = 0 ∨ q = 1) := by
  refine CJ_of hg (by decide) rfl (Nat.le_of_ble_eq_true rfl) (lo := [(0, vi x0)]) rfl (fun x C E => ?_)
  unfold fX11_isDrift at h
  refine J_iload_n C 0 dX11_isDrift_0 rfl 0 rfl ?_
  refine J_bipush C dX11_isDrift_1 (bp8 (by decide) (by decide)) ?_
  refine J_icmp_lt C h0 rl_m50 (tgt := 16) dX11_isDrift_3 (by decide) h (fun h c2 => ?_) (fun h c2 => ?_)
  · refine J_iconst C dX11_isDrift_16 ?_
    have e9 := sE h
    subst e9
    exact J_zret C (Or.inl rfl) E (Or.inl rfl) dX11_isDrift_17
  · refine J_iload_n C 0 dX11_isDrift_6 rfl 0 rfl ?_
    refine J_bipush C dX11_isDrift_7 (bp8 (by decide) (by decide)) ?_
    refine J_icmp_gt C h0 rl_50 (tgt := 16) dX11_isDrift_9 (by decide) h (fun h c1 => ?_) (fun h c1 => ?_)
    · refine J_iconst C dX11_isDrift_12 ?_
      refine J_goto C (tgt := 17) dX11_isDrift_13 (by decide) ?_
      have e9 := sE h
      subst e9
      exact J_zret C (Or.inr rfl) E (Or.inr rfl) dX11_isDrift_17
    · refine J_iconst C dX11_isDrift_16 ?_
      have e9 := sE h
      subst e9
      exact J_zret C (Or.inl rfl) E (Or.inl rfl) dX11_isDrift_17
set_option maxRecDepth 100000 in
set_option maxHeartbeats 4000000 in
theorem m_X0_setDrift (l : Launch) (g : Gm) (hg : gInj yC g) (x1 : Int) (h1 : rg x1) (x2 : Int) (h2 : rg x2) (x3 : Int) (h3 : rg x3) (x4 : Int) (h4 : rg x4) (σ : Sg) (hσ : wfS yC σ) (q : Sg) (h : fX0_setDrift x1 x2 x3 x4 σ = some q) : CJ l yC g yX0_setDrift cX0_setDrift 5 none 0 0 [.ref (gad g 13), vi x1, vi x2, vi x3, vi x4] σ none q (wfS yC q) := by
  refine CJ_of hg (by decide) rfl (Nat.le_of_ble_eq_true rfl) (lo := [(0, .ref (gad g 13)), (1, vi x1), (2, vi x2), (3, vi x3), (4, vi x4)]) rfl (fun x C E => ?_)
  unfold fX0_setDrift at h
  refine J_iload_n C 1 dX0_setDrift_0 rfl 1 rfl ?_
  refine J_if_lt C h1 (tgt := 18) dX0_setDrift_1 (by decide) h (fun h c16 => ?_) (fun h c16 => ?_)
  · have e9 := sE h
    subst e9
    exact J_vret C E hσ dX0_setDrift_18
  · refine J_iload_n C 1 dX0_setDrift_4 rfl 1 rfl ?_
    refine J_iconst C dX0_setDrift_5 ?_
    refine J_icmp_ge C h1 rl_4 (tgt := 18) dX0_setDrift_6 (by decide) h (fun h c15 => ?_) (fun h c15 => ?_)
    · refine J_iload_n C 2 dX0_setDrift_9 rfl 2 rfl ?_
      refine J_if_lt C h2 (tgt := 18) dX0_setDrift_10 (by decide) h (fun h c14 => ?_) (fun h c14 => ?_)
      · have e9 := sE h
        subst e9
        exact J_vret C E hσ dX0_setDrift_18
      · refine J_iload_n C 2 dX0_setDrift_13 rfl 2 rfl ?_
        refine J_iconst C dX0_setDrift_14 ?_
        refine J_icmp_lt C h2 rl_5 (tgt := 19) dX0_setDrift_15 (by decide) h (fun h c13 => ?_) (fun h c13 => ?_)
        · refine J_aload_n C 0 dX0_setDrift_19 rfl 0 rfl ?_
          refine J_getR C fl_RX0_9 oC_13 rfl dX0_setDrift_20 ?_
          refine J_iload_n C 1 dX0_setDrift_23 rfl 1 rfl ?_
          refine J_iconst C dX0_setDrift_24 ?_
          refine J_imul C dX0_setDrift_25 h (fun v1 hv2 h => ?_)
          refine J_iload_n C 2 dX0_setDrift_26 rfl 2 rfl ?_
          refine J_iadd C dX0_setDrift_27 h (fun v3 hv4 h => ?_)
          refine J_iload_n C 3 dX0_setDrift_28 rfl 3 rfl ?_
          refine J_iast C aC_14 hσ h3 dX0_setDrift_29 h (fun σ5 hσ6 h => ?_)
          refine J_aload_n C 0 dX0_setDrift_30 rfl 0 rfl ?_
          refine J_getR C fl_RX0_15 oC_13 rfl dX0_setDrift_31 ?_
          refine J_iload_n C 1 dX0_setDrift_34 rfl 1 rfl ?_
          refine J_iconst C dX0_setDrift_35 ?_
          refine J_imul C dX0_setDrift_36 h (fun v7 hv8 h => ?_)
          refine J_iload_n C 2 dX0_setDrift_37 rfl 2 rfl ?_
          refine J_iadd C dX0_setDrift_38 h (fun v9 hv10 h => ?_)
          refine J_iload C 4 dX0_setDrift_39 4 rfl ?_
          refine J_iast C aC_15 hσ6 h4 dX0_setDrift_41 h (fun σ11 hσ12 h => ?_)
          have e9 := sE h
          subst e9
          exact J_vret C E hσ12 dX0_setDrift_42
        · have e9 := sE h
          subst e9
          exact J_vret C E hσ dX0_setDrift_18
    · have e9 := sE h
      subst e9
      exact J_vret C E hσ dX0_setDrift_18
set_option maxRecDepth 100000 in
set_option maxHeartbeats 4000000 in
theorem wX0_reckonWind_L2 {x : Ct} {g : Gm} (C : Cx x yC g 4 cX0_reckonWind RX0 3 95) : ∀ (n : Nat) (x2 : Int) (h2 : rg x2) (x3 : Int) (h3 : rg x3) (σ : Sg) (hσ : wfS yC σ) (q : Sg) (h : fX0_reckonWind_L2 n x2 x3 σ = some q) (k : wfS yC q → J x yC g 4 21 [] [] q), J x yC g 4 2 [(0, .ref (gad g 13)), (1, .ref (gad g 6)), (2, vi x2), (3, vi x3)] [] σ := by
  intro n
  induction n with
  | zero =>
    intro x2 h2 x3 h3 σ hσ q h k
    exact absurd h (by intro z; cases z)
  | succ n ih =>
    intro x2 h2 x3 h3 σ hσ q h k
    rw [fX0_reckonWind_L2] at h
    refine J_iload_n C 3 dX0_reckonWind_2 rfl 3 rfl ?_
    refine J_bipush C dX0_reckonWind_3 (bp8 (by decide) (by decide)) ?_
    refine J_icmp_ge C h3 rl_12 (tgt := 21) dX0_reckonWind_5 (by decide) h (fun h c5 => ?_) (fun h c5 => ?_)
    · refine J_aload_n C 0 dX0_reckonWind_8 rfl 0 rfl ?_
      refine J_aload_n C 1 dX0_reckonWind_9 rfl 1 rfl ?_
      refine J_iload_n C 3 dX0_reckonWind_10 rfl 3 rfl ?_
      refine J_iload_n C 2 dX0_reckonWind_11 rfl 2 rfl ?_
      obtain ⟨q1, cq1, h⟩ := bdS h
      refine J_callV C mw_X0_reckonFalls ml_RX0_34 (m_X0_reckonFalls x.2.1 g (CxI C) x3 h3 x2 h2 σ hσ q1 cq1) oC_13 rfl (Nat.le_of_ble_eq_true rfl) (Nat.le_of_ble_eq_true rfl) rfl rfl (Nat.le_of_ble_eq_true rfl) dX0_reckonWind_12 (fun hz2 => ?_)
      refine J_iinc C 3 3 dX0_reckonWind_15 rfl (by decide) h (fun v3 hv4 h => ?_)
      refine J_goto C (tgt := 2) dX0_reckonWind_18 (by decide) ?_
      exact J_sub [1, 2, 3, 0] rfl (ih x2 h2 v3 hv4 q1 hz2 q h k)
    · have e9 := sE h
      subst e9
      exact J_sub [] rfl (k hσ)
set_option maxRecDepth 100000 in
set_option maxHeartbeats 4000000 in
theorem m_X0_reckonWind (l : Launch) (g : Gm) (hg : gInj yC g) (x2 : Int) (h2 : rg x2) (σ : Sg) (hσ : wfS yC σ) (q : Sg) (h : fX0_reckonWind x2 σ = some q) : CJ l yC g yX0_reckonWind cX0_reckonWind 4 none 3 95 [.ref (gad g 13), .ref (gad g 6), vi x2] σ none q (wfS yC q) := by
  refine CJ_of hg (by decide) rfl (Nat.le_of_ble_eq_true rfl) (lo := [(0, .ref (gad g 13)), (1, .ref (gad g 6)), (2, vi x2)]) rfl (fun x C E => ?_)
  unfold fX0_reckonWind at h
  refine J_iconst C dX0_reckonWind_0 ?_
  refine J_istore_n (lo2 := [(3, vi 0), (0, .ref (gad g 13)), (1, .ref (gad g 6)), (2, vi x2)]) C 3 dX0_reckonWind_1 rfl (by decide) rfl ?_
  obtain ⟨q6, cq6, h⟩ := bdS h
  refine J_sub [1, 2, 3, 0] rfl (wX0_reckonWind_L2 C fu x2 h2 0 rl_0 σ hσ q6 cq6 (fun hσ7 => ?_))
  have e9 := sE h
  subst e9
  exact J_vret C E hσ7 dX0_reckonWind_21
set_option maxRecDepth 100000 in
set_option maxHeartbeats 4000000 in
theorem m_X11_wind (l : Launch) (g : Gm) (hg : gInj yC g) (x1 : Int) (h1 : rg x1) (x2 : Int) (h2 : rg x2) (x3 : Int) (h3 : rg x3) (x4 : Int) (h4 : rg x4) (σ : Sg) (hσ : wfS yC σ) (q : Int × Sg) (h : fX11_wind x1 x2 x3 x4 σ = some q) : CJ l yC g yX11_wind cX11_wind 5 (some .int) 4 118 [.ref (gad g 0), vi x1, vi x2, vi x3, vi x4] σ (some (vi q.1)) q.2 ((rg q.1) ∧ wfS yC q.2) := by
  refine CJ_of hg (by decide) rfl (Nat.le_of_ble_eq_true rfl) (lo := [(0, .ref (gad g 0)), (1, vi x1), (2, vi x2), (3, vi x3), (4, vi x4)]) rfl (fun x C E => ?_)
  unfold fX11_wind at h
  refine J_iload_n C 1 dX11_wind_0 rfl 1 rfl ?_
  refine J_if_lt C h1 (tgt := 33) dX11_wind_1 (by decide) h (fun h c14 => ?_) (fun h c14 => ?_)
  · refine J_iconst C dX11_wind_33 ?_
    have e9 := sE h
    subst e9
    exact J_iret C E ⟨rl_m1, hσ⟩ dX11_wind_34
  · refine J_iload_n C 1 dX11_wind_4 rfl 1 rfl ?_
    refine J_iconst C dX11_wind_5 ?_
    refine J_icmp_ge C h1 rl_4 (tgt := 33) dX11_wind_6 (by decide) h (fun h c13 => ?_) (fun h c13 => ?_)
    · refine J_iload_n C 2 dX11_wind_9 rfl 2 rfl ?_
      refine J_if_lt C h2 (tgt := 33) dX11_wind_10 (by decide) h (fun h c12 => ?_) (fun h c12 => ?_)
      · refine J_iconst C dX11_wind_33 ?_
        have e9 := sE h
        subst e9
        exact J_iret C E ⟨rl_m1, hσ⟩ dX11_wind_34
      · refine J_iload_n C 2 dX11_wind_13 rfl 2 rfl ?_
        refine J_iconst C dX11_wind_14 ?_
        refine J_icmp_ge C h2 rl_5 (tgt := 33) dX11_wind_15 (by decide) h (fun h c11 => ?_) (fun h c11 => ?_)
        · refine J_iload_n C 3 dX11_wind_18 rfl 3 rfl ?_
          obtain ⟨q1, cq1, h⟩ := bdS h
          refine J_callS C mw_X11_isDrift ml_RX11_137 (m_X11_isDrift x.2.1 g (CxI C) x3 h3 σ hσ q1 cq1) (Nat.le_of_ble_eq_true rfl) (Nat.le_of_ble_eq_true rfl) rfl rfl (Nat.le_of_ble_eq_true rfl) dX11_wind_19 (fun hz2 => ?_)
          refine J_if_eq C (rg01 hz2) (tgt := 33) dX11_wind_22 (by decide) h (fun h c10 => ?_) (fun h c10 => ?_)
          · refine J_iconst C dX11_wind_33 ?_
            have e9 := sE h
            subst e9
            exact J_iret C E ⟨rl_m1, hσ⟩ dX11_wind_34
          · refine J_iload C 4 dX11_wind_25 4 rfl ?_
            obtain ⟨q3, cq3, h⟩ := bdS h
            refine J_callS C mw_X11_isDrift ml_RX11_137 (m_X11_isDrift x.2.1 g (CxI C) x4 h4 σ hσ q3 cq3) (Nat.le_of_ble_eq_true rfl) (Nat.le_of_ble_eq_true rfl) rfl rfl (Nat.le_of_ble_eq_true rfl) dX11_wind_27 (fun hz4 => ?_)
            refine J_if_ne C (rg01 hz4) (tgt := 35) dX11_wind_30 (by decide) h (fun h c9 => ?_) (fun h c9 => ?_)
            · refine J_iconst C dX11_wind_33 ?_
              have e9 := sE h
              subst e9
              exact J_iret C E ⟨rl_m1, hσ⟩ dX11_wind_34
            · refine J_aload_n C 0 dX11_wind_35 rfl 0 rfl ?_
              refine J_getR C fl_RX11_10 oC_0 rfl dX11_wind_36 ?_
              refine J_getR C fl_RX11_123 oC_1 rfl dX11_wind_39 ?_
              refine J_iload_n C 1 dX11_wind_42 rfl 1 rfl ?_
              refine J_iload_n C 2 dX11_wind_43 rfl 2 rfl ?_
              refine J_iload_n C 3 dX11_wind_44 rfl 3 rfl ?_
              refine J_iload C 4 dX11_wind_45 4 rfl ?_
              obtain ⟨q5, cq5, h⟩ := bdS h
              refine J_callV C mw_X0_setDrift ml_RX11_141 (m_X0_setDrift x.2.1 g (CxI C) x1 h1 x2 h2 x3 h3 x4 h4 σ hσ q5 cq5) oC_13 rfl (Nat.le_of_ble_eq_true rfl) (Nat.le_of_ble_eq_true rfl) rfl rfl (Nat.le_of_ble_eq_true rfl) dX11_wind_47 (fun hz6 => ?_)
              refine J_aload_n C 0 dX11_wind_50 rfl 0 rfl ?_
              refine J_getR C fl_RX11_10 oC_0 rfl dX11_wind_51 ?_
              refine J_getR C fl_RX11_123 oC_1 rfl dX11_wind_54 ?_
              refine J_aload_n C 0 dX11_wind_57 rfl 0 rfl ?_
              refine J_getR C fl_RX11_10 oC_0 rfl dX11_wind_58 ?_
              refine J_getR C fl_RX11_115 oC_1 rfl dX11_wind_61 ?_
              refine J_iload_n C 1 dX11_wind_64 rfl 1 rfl ?_
              obtain ⟨q7, cq7, h⟩ := bdS h
              refine J_callV C mw_X0_reckonWind ml_RX11_144 (m_X0_reckonWind x.2.1 g (CxI C) x1 h1 q5 hz6 q7 cq7) oC_13 rfl (Nat.le_of_ble_eq_true rfl) (Nat.le_of_ble_eq_true rfl) rfl rfl (Nat.le_of_ble_eq_true rfl) dX11_wind_65 (fun hz8 => ?_)
              refine J_iconst C dX11_wind_68 ?_
              have e9 := sE h
              subst e9
              exact J_iret C E ⟨rl_0, hz8⟩ dX11_wind_69
        · refine J_iconst C dX11_wind_33 ?_
          have e9 := sE h
          subst e9
          exact J_iret C E ⟨rl_m1, hσ⟩ dX11_wind_34
    · refine J_iconst C dX11_wind_33 ?_
      have e9 := sE h
      subst e9
      exact J_iret C E ⟨rl_m1, hσ⟩ dX11_wind_34
set_option maxRecDepth 100000 in
set_option maxHeartbeats 4000000 in
theorem m_X11_apart (l : Launch) (g : Gm) (hg : gInj yC g) (x1 : Int) (h1 : rg x1) (σ : Sg) (hσ : wfS yC σ) (q : Int × Sg) (h : fX11_apart x1 σ = some q) : CJ l yC g yX11_apart cX11_apart 3 (some .int) 0 0 [.ref (gad g 0), vi x1] σ (some (vi q.1)) q.2 ((rg q.1) ∧ wfS yC q.2) := by
  refine CJ_of hg (by decide) rfl (Nat.le_of_ble_eq_true rfl) (lo := [(0, .ref (gad g 0)), (1, vi x1)]) rfl (fun x C E => ?_)
  unfold fX11_apart at h
  refine J_iload_n C 1 dX11_apart_0 rfl 1 rfl ?_
  refine J_if_lt C h1 (tgt := 10) dX11_apart_1 (by decide) h (fun h c4 => ?_) (fun h c4 => ?_)
  · refine J_iconst C dX11_apart_10 ?_
    have e9 := sE h
    subst e9
    exact J_iret C E ⟨rl_m1, hσ⟩ dX11_apart_11
  · refine J_iload_n C 1 dX11_apart_4 rfl 1 rfl ?_
    refine J_bipush C dX11_apart_5 (bp8 (by decide) (by decide)) ?_
    refine J_icmp_le C h1 rl_20 (tgt := 12) dX11_apart_7 (by decide) h (fun h c3 => ?_) (fun h c3 => ?_)
    · refine J_aload_n C 0 dX11_apart_12 rfl 0 rfl ?_
      refine J_getI C fl_RX11_80 oC_0 rfl dX11_apart_13 ?_
      refine J_istore_n (lo2 := [(2, vi (σ 0 9)), (0, .ref (gad g 0)), (1, vi x1)]) C 2 dX11_apart_16 rfl (by decide) rfl ?_
      refine J_aload_n C 0 dX11_apart_17 rfl 1 rfl ?_
      refine J_iload_n C 1 dX11_apart_18 rfl 2 rfl ?_
      refine J_putI C fl_RX11_80 fp_RX11_9 oC_0 rfl rfl lC_0 hσ h1 dX11_apart_19 h (fun σ1 hσ2 h => ?_)
      refine J_iload_n C 2 dX11_apart_22 rfl 0 rfl ?_
      have e9 := sE h
      subst e9
      exact J_iret C E ⟨(hσ 0 9 lC_0), hσ2⟩ dX11_apart_23
    · refine J_iconst C dX11_apart_10 ?_
      have e9 := sE h
      subst e9
      exact J_iret C E ⟨rl_m1, hσ⟩ dX11_apart_11
set_option maxRecDepth 100000 in
set_option maxHeartbeats 4000000 in
theorem m_X8_isBarge (l : Launch) (g : Gm) (hg : gInj yC g) (x1 : Int) (h1 : rg x1) (σ : Sg) (hσ : wfS yC σ) (q : Int) (h : fX8_isBarge x1 σ = some q) : CJ l yC g yX8_isBarge cX8_isBarge 2 (some .boolean) 0 0 [.ref (gad g 1), vi x1] σ (some (vi q)) σ (q = 0 ∨ q = 1) := by
  refine CJ_of hg (by decide) rfl (Nat.le_of_ble_eq_true rfl) (lo := [(0, .ref (gad g 1)), (1, vi x1)]) rfl (fun x C E => ?_)
  unfold fX8_isBarge at h
  refine J_iload_n C 1 dX8_isBarge_0 rfl 1 rfl ?_
  refine J_if_lt C h1 (tgt := 23) dX8_isBarge_1 (by decide) h (fun h c5 => ?_) (fun h c5 => ?_)
  · refine J_iconst C dX8_isBarge_23 ?_
    have e9 := sE h
    subst e9
    exact J_zret C (Or.inl rfl) E (Or.inl rfl) dX8_isBarge_24
  · refine J_iload_n C 1 dX8_isBarge_4 rfl 1 rfl ?_
    refine J_bipush C dX8_isBarge_5 (bp8 (by decide) (by decide)) ?_
    refine J_icmp_ge C h1 rl_6 (tgt := 23) dX8_isBarge_7 (by decide) h (fun h c4 => ?_) (fun h c4 => ?_)
    · refine J_aload_n C 0 dX8_isBarge_10 rfl 0 rfl ?_
      refine J_getR C fl_RX8_22 oC_1 rfl dX8_isBarge_11 ?_
      refine J_iload_n C 1 dX8_isBarge_14 rfl 1 rfl ?_
      refine J_iald C aC_5 hσ dX8_isBarge_15 h (fun v1 hv2 h => ?_)
      refine J_if_le C hv2 (tgt := 23) dX8_isBarge_16 (by decide) h (fun h c3 => ?_) (fun h c3 => ?_)
      · refine J_iconst C dX8_isBarge_23 ?_
        have e9 := sE h
        subst e9
        exact J_zret C (Or.inl rfl) E (Or.inl rfl) dX8_isBarge_24
      · refine J_iconst C dX8_isBarge_19 ?_
        refine J_goto C (tgt := 24) dX8_isBarge_20 (by decide) ?_
        have e9 := sE h
        subst e9
        exact J_zret C (Or.inr rfl) E (Or.inr rfl) dX8_isBarge_24
    · refine J_iconst C dX8_isBarge_23 ?_
      have e9 := sE h
      subst e9
      exact J_zret C (Or.inl rfl) E (Or.inl rfl) dX8_isBarge_24
set_option maxRecDepth 100000 in
set_option maxHeartbeats 4000000 in
theorem wX8_holds_L101 {x : Ct} {g : Gm} (C : Cx x yC g 8 cX8_holds RX8 2 42) : ∀ (n : Nat) (x1 : Int) (h1 : rg x1) (x3 : Int) (h3 : rg x3) (x4 : Int) (h4 : rg x4) (x5 : Int) (h5 : rg x5) (x6 : Int) (h6 : rg x6) (x7 : Int) (h7 : rg x7) (σ : Sg) (hσ : wfS yC σ) (q : (Unit) ⊕ (Unit)) (h : fX8_holds_L101 n x1 x3 x4 x5 x6 x7 σ = some q) (k0 : ∀ a : Unit, q = .inl a → J x yC g 8 120 [] [] σ) (k1 : ∀ a : Unit, q = .inr a → J x yC g 8 128 [(0, .ref (gad g 1)), (1, vi x1), (3, vi x3), (4, vi x4), (5, vi x5), (6, vi x6)] [] σ), J x yC g 8 101 [(0, .ref (gad g 1)), (1, vi x1), (3, vi x3), (4, vi x4), (5, vi x5), (6, vi x6), (7, vi x7)] [] σ := by
  intro n
  induction n with
  | zero =>
    intro x1 h1 x3 h3 x4 h4 x5 h5 x6 h6 x7 h7 σ hσ q h k0 k1
    exact absurd h (by intro z; cases z)
  | succ n ih =>
    intro x1 h1 x3 h3 x4 h4 x5 h5 x6 h6 x7 h7 σ hσ q h k0 k1
    rw [fX8_holds_L101] at h
    refine J_iload C 7 dX8_holds_101 6 rfl ?_
    refine J_iload C 4 dX8_holds_103 3 rfl ?_
    refine J_icmp_gt C h7 h4 (tgt := 128) dX8_holds_105 (by decide) h (fun h c32 => ?_) (fun h c32 => ?_)
    · refine J_aload_n C 0 dX8_holds_108 rfl 0 rfl ?_
      refine J_iload C 7 dX8_holds_109 6 rfl ?_
      refine J_iload C 6 dX8_holds_111 5 rfl ?_
      obtain ⟨q27, cq27, h⟩ := bdS h
      refine J_callV C mw_X8_groundOf ml_RX8_90 (m_X8_groundOf x.2.1 g (CxI C) x7 h7 x6 h6 σ hσ q27 cq27) oC_1 rfl (Nat.le_of_ble_eq_true rfl) (Nat.le_of_ble_eq_true rfl) rfl rfl (Nat.le_of_ble_eq_true rfl) dX8_holds_113 (fun hz28 => ?_)
      refine J_iconst C dX8_holds_116 ?_
      refine J_icmp_ne C hz28 rl_2 (tgt := 122) dX8_holds_117 (by decide) h (fun h c31 => ?_) (fun h c31 => ?_)
      · have e9 := sE h
        exact J_sub [] rfl (k0 () e9.symm)
      · refine J_iinc C 7 6 dX8_holds_122 rfl (by decide) h (fun v29 hv30 h => ?_)
        refine J_goto C (tgt := 101) dX8_holds_125 (by decide) ?_
        exact J_sub [1, 2, 3, 4, 5, 6, 0] rfl (ih x1 h1 x3 h3 x4 h4 x5 h5 x6 h6 v29 hv30 σ hσ q h k0 k1)
    · have e9 := sE h
      exact J_sub [0, 1, 2, 3, 4, 5] rfl (k1 () e9.symm)
set_option maxRecDepth 100000 in
set_option maxHeartbeats 4000000 in
theorem wX8_holds_L80 {x : Ct} {g : Gm} (C : Cx x yC g 8 cX8_holds RX8 2 42) : ∀ (n : Nat) (x1 : Int) (h1 : rg x1) (x3 : Int) (h3 : rg x3) (x4 : Int) (h4 : rg x4) (x5 : Int) (h5 : rg x5) (x6 : Int) (h6 : rg x6) (σ : Sg) (hσ : wfS yC σ) (q : (Unit) ⊕ (Unit)) (h : fX8_holds_L80 n x1 x3 x4 x5 x6 σ = some q) (k0 : ∀ a : Unit, q = .inl a → J x yC g 8 120 [] [] σ) (k1 : ∀ a : Unit, q = .inr a → J x yC g 8 134 [] [] σ), J x yC g 8 80 [(0, .ref (gad g 1)), (1, vi x1), (3, vi x3), (4, vi x4), (5, vi x5), (6, vi x6)] [] σ := by
  intro n
  induction n with
  | zero =>
    intro x1 h1 x3 h3 x4 h4 x5 h5 x6 h6 σ hσ q h k0 k1
    exact absurd h (by intro z; cases z)
  | succ n ih =>
    intro x1 h1 x3 h3 x4 h4 x5 h5 x6 h6 σ hσ q h k0 k1
    rw [fX8_holds_L80] at h
    refine J_iload C 6 dX8_holds_80 5 rfl ?_
    refine J_iload C 5 dX8_holds_82 4 rfl ?_
    refine J_icmp_gt C h6 h5 (tgt := 134) dX8_holds_84 (by decide) h (fun h c38 => ?_) (fun h c38 => ?_)
    · refine J_iconst C dX8_holds_87 ?_
      refine J_aload_n C 0 dX8_holds_88 rfl 0 rfl ?_
      refine J_getR C fl_RX8_15 oC_1 rfl dX8_holds_89 ?_
      refine J_iload_n C 1 dX8_holds_92 rfl 1 rfl ?_
      refine J_iald C aC_3 hσ dX8_holds_93 h (fun v23 hv24 h => ?_)
      refine J_iload_n C 3 dX8_holds_94 rfl 2 rfl ?_
      refine J_isub C dX8_holds_95 h (fun v25 hv26 h => ?_)
      refine J_max C rl_0 hv26 mth_max ml_RX8_87 (Nat.le_of_ble_eq_true rfl) (Nat.le_of_ble_eq_true rfl) dX8_holds_96 ?_
      refine J_istore (lo2 := [(7, vi (mxI 0 v25)), (0, .ref (gad g 1)), (1, vi x1), (3, vi x3), (4, vi x4), (5, vi x5), (6, vi x6)]) C 7 dX8_holds_99 (by decide) rfl ?_
      obtain ⟨q33, cq33, h⟩ := bdS h
      refine J_sub [1, 2, 3, 4, 5, 6, 0] rfl (wX8_holds_L101 C fu x1 h1 x3 h3 x4 h4 x5 h5 x6 h6 (mxI 0 v25) (rg_mx rl_0 hv26) σ hσ q33 cq33 (fun a34 ea34 => ?_) (fun a35 ea35 => ?_))
      · subst ea34
        have h := elL h
        have e9 := sE h
        exact J_sub [] rfl (k0 () e9.symm)
      · subst ea35
        have h := elR h
        refine J_iinc C 6 5 dX8_holds_128 rfl (by decide) h (fun v36 hv37 h => ?_)
        refine J_goto C (tgt := 80) dX8_holds_131 (by decide) ?_
        exact J_sub [1, 2, 3, 4, 5, 0] rfl (ih x1 h1 x3 h3 x4 h4 x5 h5 v36 hv37 σ hσ q h k0 k1)
    · have e9 := sE h
      exact J_sub [] rfl (k1 () e9.symm)
set_option maxRecDepth 100000 in
set_option maxHeartbeats 4000000 in
theorem m_X8_holds (l : Launch) (g : Gm) (hg : gInj yC g) (x1 : Int) (h1 : rg x1) (x2 : Int) (h2 : rg x2) (σ : Sg) (hσ : wfS yC σ) (q : Int) (h : fX8_holds x1 x2 σ = some q) : CJ l yC g yX8_holds cX8_holds 8 (some .boolean) 2 42 [.ref (gad g 1), vi x1, vi x2] σ (some (vi q)) σ (q = 0 ∨ q = 1) := by
  refine CJ_of hg (by decide) rfl (Nat.le_of_ble_eq_true rfl) (lo := [(0, .ref (gad g 1)), (1, vi x1), (2, vi x2)]) rfl (fun x C E => ?_)
  unfold fX8_holds at h
  refine J_aload_n C 0 dX8_holds_0 rfl 0 rfl ?_
  refine J_iload_n C 1 dX8_holds_1 rfl 1 rfl ?_
  obtain ⟨q1, cq1, h⟩ := bdS h
  refine J_callV C mw_X8_isBarge ml_RX8_52 (m_X8_isBarge x.2.1 g (CxI C) x1 h1 σ hσ q1 cq1) oC_1 rfl (Nat.le_of_ble_eq_true rfl) (Nat.le_of_ble_eq_true rfl) rfl rfl (Nat.le_of_ble_eq_true rfl) dX8_holds_2 (fun hz2 => ?_)
  refine J_if_eq C (rg01 hz2) (tgt := 19) dX8_holds_5 (by decide) h (fun h c43 => ?_) (fun h c43 => ?_)
  · refine J_iconst C dX8_holds_19 ?_
    have e9 := sE h
    subst e9
    exact J_zret C (Or.inl rfl) E (Or.inl rfl) dX8_holds_20
  · refine J_aload_n C 0 dX8_holds_8 rfl 0 rfl ?_
    refine J_getR C fl_RX8_28 oC_1 rfl dX8_holds_9 ?_
    refine J_iload_n C 2 dX8_holds_12 rfl 2 rfl ?_
    obtain ⟨q3, cq3, h⟩ := bdS h
    refine J_callV C mw_X2_isTold ml_RX8_75 (m_X2_isTold x.2.1 g (CxI C) x2 h2 σ hσ q3 cq3) oC_6 rfl (Nat.le_of_ble_eq_true rfl) (Nat.le_of_ble_eq_true rfl) rfl rfl (Nat.le_of_ble_eq_true rfl) dX8_holds_13 (fun hz4 => ?_)
    refine J_if_ne C (rg01 hz4) (tgt := 21) dX8_holds_16 (by decide) h (fun h c42 => ?_) (fun h c42 => ?_)
    · refine J_iconst C dX8_holds_19 ?_
      have e9 := sE h
      subst e9
      exact J_zret C (Or.inl rfl) E (Or.inl rfl) dX8_holds_20
    · refine J_iconst C dX8_holds_21 ?_
      refine J_aload_n C 0 dX8_holds_22 rfl 0 rfl ?_
      refine J_getR C fl_RX8_28 oC_1 rfl dX8_holds_23 ?_
      refine J_iload_n C 2 dX8_holds_26 rfl 2 rfl ?_
      obtain ⟨q5, cq5, h⟩ := bdS h
      refine J_callV C mw_X2_heightOf ml_RX8_78 (m_X2_heightOf x.2.1 g (CxI C) x2 h2 σ hσ q5 cq5) oC_6 rfl (Nat.le_of_ble_eq_true rfl) (Nat.le_of_ble_eq_true rfl) rfl rfl (Nat.le_of_ble_eq_true rfl) dX8_holds_27 (fun hz6 => ?_)
      refine J_imul C dX8_holds_30 h (fun v7 hv8 h => ?_)
      refine J_sipush C dX8_holds_31 (bp16 (by decide) (by decide)) ?_
      refine J_idiv C hv8 rl_200 dX8_holds_34 h (fun v9 hv10 h => ?_)
      refine J_istore_n (lo2 := [(3, vi v9), (0, .ref (gad g 1)), (1, vi x1), (2, vi x2)]) C 3 dX8_holds_35 rfl (by decide) rfl ?_
      refine J_bipush C dX8_holds_36 (bp8 (by decide) (by decide)) ?_
      refine J_aload_n C 0 dX8_holds_38 rfl 1 rfl ?_
      refine J_getR C fl_RX8_15 oC_1 rfl dX8_holds_39 ?_
      refine J_iload_n C 1 dX8_holds_42 rfl 2 rfl ?_
      refine J_iald C aC_3 hσ dX8_holds_43 h (fun v11 hv12 h => ?_)
      refine J_iload_n C 3 dX8_holds_44 rfl 0 rfl ?_
      refine J_iadd C dX8_holds_45 h (fun v13 hv14 h => ?_)
      refine J_min C rl_31 hv14 mth_min ml_RX8_81 (Nat.le_of_ble_eq_true rfl) (Nat.le_of_ble_eq_true rfl) dX8_holds_46 ?_
      refine J_istore (lo2 := [(4, vi (mnI 31 v13)), (3, vi v9), (0, .ref (gad g 1)), (1, vi x1), (2, vi x2)]) C 4 dX8_holds_49 (by decide) rfl ?_
      refine J_bipush C dX8_holds_51 (bp8 (by decide) (by decide)) ?_
      refine J_aload_n C 0 dX8_holds_53 rfl 2 rfl ?_
      refine J_getR C fl_RX8_19 oC_1 rfl dX8_holds_54 ?_
      refine J_iload_n C 1 dX8_holds_57 rfl 3 rfl ?_
      refine J_iald C aC_4 hσ dX8_holds_58 h (fun v15 hv16 h => ?_)
      refine J_iload_n C 3 dX8_holds_59 rfl 1 rfl ?_
      refine J_iadd C dX8_holds_60 h (fun v17 hv18 h => ?_)
      refine J_min C rl_31 hv18 mth_min ml_RX8_81 (Nat.le_of_ble_eq_true rfl) (Nat.le_of_ble_eq_true rfl) dX8_holds_61 ?_
      refine J_istore (lo2 := [(5, vi (mnI 31 v17)), (4, vi (mnI 31 v13)), (3, vi v9), (0, .ref (gad g 1)), (1, vi x1), (2, vi x2)]) C 5 dX8_holds_64 (by decide) rfl ?_
      refine J_iconst C dX8_holds_66 ?_
      refine J_aload_n C 0 dX8_holds_67 rfl 3 rfl ?_
      refine J_getR C fl_RX8_19 oC_1 rfl dX8_holds_68 ?_
      refine J_iload_n C 1 dX8_holds_71 rfl 4 rfl ?_
      refine J_iald C aC_4 hσ dX8_holds_72 h (fun v19 hv20 h => ?_)
      refine J_iload_n C 3 dX8_holds_73 rfl 2 rfl ?_
      refine J_isub C dX8_holds_74 h (fun v21 hv22 h => ?_)
      refine J_max C rl_0 hv22 mth_max ml_RX8_87 (Nat.le_of_ble_eq_true rfl) (Nat.le_of_ble_eq_true rfl) dX8_holds_75 ?_
      refine J_istore (lo2 := [(6, vi (mxI 0 v21)), (5, vi (mnI 31 v17)), (4, vi (mnI 31 v13)), (3, vi v9), (0, .ref (gad g 1)), (1, vi x1), (2, vi x2)]) C 6 dX8_holds_78 (by decide) rfl ?_
      obtain ⟨q39, cq39, h⟩ := bdS h
      refine J_sub [4, 5, 3, 2, 1, 0] rfl (wX8_holds_L80 C fu x1 h1 v9 hv10 (mnI 31 v13) (rg_mn rl_31 hv14) (mnI 31 v17) (rg_mn rl_31 hv18) (mxI 0 v21) (rg_mx rl_0 hv22) σ hσ q39 cq39 (fun a40 ea40 => ?_) (fun a41 ea41 => ?_))
      · subst ea40
        have h := elL h
        refine J_iconst C dX8_holds_120 ?_
        have e9 := sE h
        subst e9
        exact J_zret C (Or.inl rfl) E (Or.inl rfl) dX8_holds_121
      · subst ea41
        have h := elR h
        refine J_iconst C dX8_holds_134 ?_
        have e9 := sE h
        subst e9
        exact J_zret C (Or.inr rfl) E (Or.inr rfl) dX8_holds_135
set_option maxRecDepth 100000 in
set_option maxHeartbeats 4000000 in
theorem m_X11_may (l : Launch) (g : Gm) (hg : gInj yC g) (x1 : Int) (h1 : rg x1) (x2 : Int) (h2 : rg x2) (σ : Sg) (hσ : wfS yC σ) (q : Int) (h : fX11_may x1 x2 σ = some q) : CJ l yC g yX11_may cX11_may 3 (some .int) 3 69 [.ref (gad g 0), vi x1, vi x2] σ (some (vi q)) σ (rg q) := by
  refine CJ_of hg (by decide) rfl (Nat.le_of_ble_eq_true rfl) (lo := [(0, .ref (gad g 0)), (1, vi x1), (2, vi x2)]) rfl (fun x C E => ?_)
  unfold fX11_may at h
  refine J_aload_n C 0 dX11_may_0 rfl 0 rfl ?_
  refine J_getR C fl_RX11_10 oC_0 rfl dX11_may_1 ?_
  refine J_iload_n C 1 dX11_may_4 rfl 1 rfl ?_
  obtain ⟨q1, cq1, h⟩ := bdS h
  refine J_callV C mw_X8_isBarge ml_RX11_147 (m_X8_isBarge x.2.1 g (CxI C) x1 h1 σ hσ q1 cq1) oC_1 rfl (Nat.le_of_ble_eq_true rfl) (Nat.le_of_ble_eq_true rfl) rfl rfl (Nat.le_of_ble_eq_true rfl) dX11_may_5 (fun hz2 => ?_)
  refine J_if_eq C (rg01 hz2) (tgt := 25) dX11_may_8 (by decide) h (fun h c9 => ?_) (fun h c9 => ?_)
  · refine J_iconst C dX11_may_25 ?_
    have e9 := sE h
    subst e9
    exact J_iret C E rl_m1 dX11_may_26
  · refine J_aload_n C 0 dX11_may_11 rfl 0 rfl ?_
    refine J_getR C fl_RX11_10 oC_0 rfl dX11_may_12 ?_
    refine J_getR C fl_RX11_115 oC_1 rfl dX11_may_15 ?_
    refine J_iload_n C 2 dX11_may_18 rfl 2 rfl ?_
    obtain ⟨q3, cq3, h⟩ := bdS h
    refine J_callV C mw_X2_isTold ml_RX11_150 (m_X2_isTold x.2.1 g (CxI C) x2 h2 σ hσ q3 cq3) oC_6 rfl (Nat.le_of_ble_eq_true rfl) (Nat.le_of_ble_eq_true rfl) rfl rfl (Nat.le_of_ble_eq_true rfl) dX11_may_19 (fun hz4 => ?_)
    refine J_if_ne C (rg01 hz4) (tgt := 27) dX11_may_22 (by decide) h (fun h c8 => ?_) (fun h c8 => ?_)
    · refine J_iconst C dX11_may_25 ?_
      have e9 := sE h
      subst e9
      exact J_iret C E rl_m1 dX11_may_26
    · refine J_aload_n C 0 dX11_may_27 rfl 0 rfl ?_
      refine J_getR C fl_RX11_10 oC_0 rfl dX11_may_28 ?_
      refine J_iload_n C 1 dX11_may_31 rfl 1 rfl ?_
      refine J_iload_n C 2 dX11_may_32 rfl 2 rfl ?_
      obtain ⟨q5, cq5, h⟩ := bdS h
      refine J_callV C mw_X8_holds ml_RX11_153 (m_X8_holds x.2.1 g (CxI C) x1 h1 x2 h2 σ hσ q5 cq5) oC_1 rfl (Nat.le_of_ble_eq_true rfl) (Nat.le_of_ble_eq_true rfl) rfl rfl (Nat.le_of_ble_eq_true rfl) dX11_may_33 (fun hz6 => ?_)
      refine J_if_eq C (rg01 hz6) (tgt := 43) dX11_may_36 (by decide) h (fun h c7 => ?_) (fun h c7 => ?_)
      · refine J_iconst C dX11_may_43 ?_
        have e9 := sE h
        subst e9
        exact J_iret C E rl_0 dX11_may_44
      · refine J_iconst C dX11_may_39 ?_
        refine J_goto C (tgt := 44) dX11_may_40 (by decide) ?_
        have e9 := sE h
        subst e9
        exact J_iret C E rl_1 dX11_may_44
set_option maxRecDepth 100000 in
set_option maxHeartbeats 4000000 in
theorem m_X11_isAngle (l : Launch) (g : Gm) (hg : gInj yC g) (x0 : Int) (h0 : rg x0) (σ : Sg) (hσ : wfS yC σ) (q : Int) (h : fX11_isAngle x0 σ = some q) : CJ l yC g yX11_isAngle cX11_isAngle 1 (some .boolean) 0 0 [vi x0] σ (some (vi q)) σ (q = 0 ∨ q = 1) := by
  refine CJ_of hg (by decide) rfl (Nat.le_of_ble_eq_true rfl) (lo := [(0, vi x0)]) rfl (fun x C E => ?_)
  unfold fX11_isAngle at h
  refine J_iload_n C 0 dX11_isAngle_0 rfl 0 rfl ?_
  refine J_bipush C dX11_isAngle_1 (bp8 (by decide) (by decide)) ?_
  refine J_icmp_lt C h0 rl_m4 (tgt := 15) dX11_isAngle_3 (by decide) h (fun h c2 => ?_) (fun h c2 => ?_)
  · refine J_iconst C dX11_isAngle_15 ?_
    have e9 := sE h
    subst e9
    exact J_zret C (Or.inl rfl) E (Or.inl rfl) dX11_isAngle_16
  · refine J_iload_n C 0 dX11_isAngle_6 rfl 0 rfl ?_
    refine J_iconst C dX11_isAngle_7 ?_
    refine J_icmp_gt C h0 rl_4 (tgt := 15) dX11_isAngle_8 (by decide) h (fun h c1 => ?_) (fun h c1 => ?_)
    · refine J_iconst C dX11_isAngle_11 ?_
      refine J_goto C (tgt := 16) dX11_isAngle_12 (by decide) ?_
      have e9 := sE h
      subst e9
      exact J_zret C (Or.inr rfl) E (Or.inr rfl) dX11_isAngle_16
    · refine J_iconst C dX11_isAngle_15 ?_
      have e9 := sE h
      subst e9
      exact J_zret C (Or.inl rfl) E (Or.inl rfl) dX11_isAngle_16
set_option maxRecDepth 100000 in
set_option maxHeartbeats 4000000 in
theorem m_X11_isLight (l : Launch) (g : Gm) (hg : gInj yC g) (x1 : Int) (h1 : rg x1) (x2 : Int) (h2 : rg x2) (x3 : Int) (h3 : rg x3) (x4 : Int) (h4 : rg x4) (σ : Sg) (hσ : wfS yC σ) (q : Int) (h : fX11_isLight x1 x2 x3 x4 σ = some q) : CJ l yC g yX11_isLight cX11_isLight 5 (some .boolean) 1 21 [.ref (gad g 0), vi x1, vi x2, vi x3, vi x4] σ (some (vi q)) σ (q = 0 ∨ q = 1) := by
  refine CJ_of hg (by decide) rfl (Nat.le_of_ble_eq_true rfl) (lo := [(0, .ref (gad g 0)), (1, vi x1), (2, vi x2), (3, vi x3), (4, vi x4)]) rfl (fun x C E => ?_)
  unfold fX11_isLight at h
  refine J_aload_n C 0 dX11_isLight_0 rfl 0 rfl ?_
  refine J_getR C fl_RX11_10 oC_0 rfl dX11_isLight_1 ?_
  refine J_getR C fl_RX11_115 oC_1 rfl dX11_isLight_4 ?_
  refine J_iload_n C 1 dX11_isLight_7 rfl 1 rfl ?_
  obtain ⟨q1, cq1, h⟩ := bdS h
  refine J_callV C mw_X2_isTold ml_RX11_150 (m_X2_isTold x.2.1 g (CxI C) x1 h1 σ hσ q1 cq1) oC_6 rfl (Nat.le_of_ble_eq_true rfl) (Nat.le_of_ble_eq_true rfl) rfl rfl (Nat.le_of_ble_eq_true rfl) dX11_isLight_8 (fun hz2 => ?_)
  refine J_if_eq C (rg01 hz2) (tgt := 47) dX11_isLight_11 (by decide) h (fun h c11 => ?_) (fun h c11 => ?_)
  · refine J_iconst C dX11_isLight_47 ?_
    have e9 := sE h
    subst e9
    exact J_zret C (Or.inl rfl) E (Or.inl rfl) dX11_isLight_48
  · refine J_aload_n C 0 dX11_isLight_14 rfl 0 rfl ?_
    refine J_getR C fl_RX11_10 oC_0 rfl dX11_isLight_15 ?_
    refine J_iload_n C 2 dX11_isLight_18 rfl 2 rfl ?_
    obtain ⟨q3, cq3, h⟩ := bdS h
    refine J_callV C mw_X8_isBarge ml_RX11_147 (m_X8_isBarge x.2.1 g (CxI C) x2 h2 σ hσ q3 cq3) oC_1 rfl (Nat.le_of_ble_eq_true rfl) (Nat.le_of_ble_eq_true rfl) rfl rfl (Nat.le_of_ble_eq_true rfl) dX11_isLight_19 (fun hz4 => ?_)
    refine J_if_eq C (rg01 hz4) (tgt := 47) dX11_isLight_22 (by decide) h (fun h c10 => ?_) (fun h c10 => ?_)
    · refine J_iconst C dX11_isLight_47 ?_
      have e9 := sE h
      subst e9
      exact J_zret C (Or.inl rfl) E (Or.inl rfl) dX11_isLight_48
    · refine J_iload_n C 3 dX11_isLight_25 rfl 3 rfl ?_
      obtain ⟨q5, cq5, h⟩ := bdS h
      refine J_callS C mw_X11_isAngle ml_RX11_383 (m_X11_isAngle x.2.1 g (CxI C) x3 h3 σ hσ q5 cq5) (Nat.le_of_ble_eq_true rfl) (Nat.le_of_ble_eq_true rfl) rfl rfl (Nat.le_of_ble_eq_true rfl) dX11_isLight_26 (fun hz6 => ?_)
      refine J_if_eq C (rg01 hz6) (tgt := 47) dX11_isLight_29 (by decide) h (fun h c9 => ?_) (fun h c9 => ?_)
      · refine J_iconst C dX11_isLight_47 ?_
        have e9 := sE h
        subst e9
        exact J_zret C (Or.inl rfl) E (Or.inl rfl) dX11_isLight_48
      · refine J_iload C 4 dX11_isLight_32 4 rfl ?_
        refine J_if_lt C h4 (tgt := 47) dX11_isLight_34 (by decide) h (fun h c8 => ?_) (fun h c8 => ?_)
        · refine J_iconst C dX11_isLight_47 ?_
          have e9 := sE h
          subst e9
          exact J_zret C (Or.inl rfl) E (Or.inl rfl) dX11_isLight_48
        · refine J_iload C 4 dX11_isLight_37 4 rfl ?_
          refine J_iconst C dX11_isLight_39 ?_
          refine J_icmp_ge C h4 rl_4 (tgt := 47) dX11_isLight_40 (by decide) h (fun h c7 => ?_) (fun h c7 => ?_)
          · refine J_iconst C dX11_isLight_43 ?_
            refine J_goto C (tgt := 48) dX11_isLight_44 (by decide) ?_
            have e9 := sE h
            subst e9
            exact J_zret C (Or.inr rfl) E (Or.inr rfl) dX11_isLight_48
          · refine J_iconst C dX11_isLight_47 ?_
            have e9 := sE h
            subst e9
            exact J_zret C (Or.inl rfl) E (Or.inl rfl) dX11_isLight_48
set_option maxRecDepth 100000 in
set_option maxHeartbeats 4000000 in
theorem m_X0_isHot (l : Launch) (g : Gm) (hg : gInj yC g) (x1 : Int) (h1 : rg x1) (σ : Sg) (hσ : wfS yC σ) (q : Int) (h : fX0_isHot x1 σ = some q) : CJ l yC g yX0_isHot cX0_isHot 2 (some .boolean) 0 0 [.ref (gad g 13), vi x1] σ (some (vi q)) σ (q = 0 ∨ q = 1) := by
  refine CJ_of hg (by decide) rfl (Nat.le_of_ble_eq_true rfl) (lo := [(0, .ref (gad g 13)), (1, vi x1)]) rfl (fun x C E => ?_)
  unfold fX0_isHot at h
  refine J_iload_n C 1 dX0_isHot_0 rfl 1 rfl ?_
  refine J_if_lt C h1 (tgt := 26) dX0_isHot_1 (by decide) h (fun h c5 => ?_) (fun h c5 => ?_)
  · refine J_iconst C dX0_isHot_26 ?_
    have e9 := sE h
    subst e9
    exact J_zret C (Or.inl rfl) E (Or.inl rfl) dX0_isHot_27
  · refine J_iload_n C 1 dX0_isHot_4 rfl 1 rfl ?_
    refine J_aload_n C 0 dX0_isHot_5 rfl 0 rfl ?_
    refine J_getR C fl_RX0_18 oC_13 rfl dX0_isHot_6 ?_
    refine J_alen C (n := 96) (t0 := 3) aC_16.1 rfl rfl rfl dX0_isHot_9 ?_
    refine J_icmp_ge C h1 rl_96 (tgt := 26) dX0_isHot_10 (by decide) h (fun h c4 => ?_) (fun h c4 => ?_)
    · refine J_aload_n C 0 dX0_isHot_13 rfl 0 rfl ?_
      refine J_getR C fl_RX0_18 oC_13 rfl dX0_isHot_14 ?_
      refine J_iload_n C 1 dX0_isHot_17 rfl 1 rfl ?_
      refine J_zald C aC_16 hσ dX0_isHot_18 h (fun v1 hv2 h => ?_)
      refine J_if_eq C hv2 (tgt := 26) dX0_isHot_19 (by decide) h (fun h c3 => ?_) (fun h c3 => ?_)
      · refine J_iconst C dX0_isHot_26 ?_
        have e9 := sE h
        subst e9
        exact J_zret C (Or.inl rfl) E (Or.inl rfl) dX0_isHot_27
      · refine J_iconst C dX0_isHot_22 ?_
        refine J_goto C (tgt := 27) dX0_isHot_23 (by decide) ?_
        have e9 := sE h
        subst e9
        exact J_zret C (Or.inr rfl) E (Or.inr rfl) dX0_isHot_27
    · refine J_iconst C dX0_isHot_26 ?_
      have e9 := sE h
      subst e9
      exact J_zret C (Or.inl rfl) E (Or.inl rfl) dX0_isHot_27
set_option maxRecDepth 100000 in
set_option maxHeartbeats 4000000 in
theorem m_X2_spreadOf (l : Launch) (g : Gm) (hg : gInj yC g) (x1 : Int) (h1 : rg x1) (σ : Sg) (hσ : wfS yC σ) (q : Int) (h : fX2_spreadOf x1 σ = some q) : CJ l yC g yX2_spreadOf cX2_spreadOf 2 (some .int) 1 21 [.ref (gad g 6), vi x1] σ (some (vi q)) σ (rg q) := by
  refine CJ_of hg (by decide) rfl (Nat.le_of_ble_eq_true rfl) (lo := [(0, .ref (gad g 6)), (1, vi x1)]) rfl (fun x C E => ?_)
  unfold fX2_spreadOf at h
  refine J_aload_n C 0 dX2_spreadOf_0 rfl 0 rfl ?_
  refine J_iload_n C 1 dX2_spreadOf_1 rfl 1 rfl ?_
  obtain ⟨q1, cq1, h⟩ := bdS h
  refine J_callV C mw_X2_isTold ml_RX2_36 (m_X2_isTold x.2.1 g (CxI C) x1 h1 σ hσ q1 cq1) oC_6 rfl (Nat.le_of_ble_eq_true rfl) (Nat.le_of_ble_eq_true rfl) rfl rfl (Nat.le_of_ble_eq_true rfl) dX2_spreadOf_2 (fun hz2 => ?_)
  refine J_if_eq C (rg01 hz2) (tgt := 17) dX2_spreadOf_5 (by decide) h (fun h c5 => ?_) (fun h c5 => ?_)
  · refine J_iconst C dX2_spreadOf_17 ?_
    have e9 := sE h
    subst e9
    exact J_iret C E rl_0 dX2_spreadOf_18
  · refine J_aload_n C 0 dX2_spreadOf_8 rfl 0 rfl ?_
    refine J_getR C fl_RX2_18 oC_6 rfl dX2_spreadOf_9 ?_
    refine J_iload_n C 1 dX2_spreadOf_12 rfl 1 rfl ?_
    refine J_iald C aC_9 hσ dX2_spreadOf_13 h (fun v3 hv4 h => ?_)
    refine J_goto C (tgt := 18) dX2_spreadOf_14 (by decide) ?_
    have e9 := sE h
    subst e9
    exact J_iret C E hv4 dX2_spreadOf_18
set_option maxRecDepth 100000 in
set_option maxHeartbeats 4000000 in
theorem m_X0_shiftXOf (l : Launch) (g : Gm) (hg : gInj yC g) (x1 : Int) (h1 : rg x1) (σ : Sg) (hσ : wfS yC σ) (q : Int) (h : fX0_shiftXOf x1 σ = some q) : CJ l yC g yX0_shiftXOf cX0_shiftXOf 2 (some .int) 0 0 [.ref (gad g 13), vi x1] σ (some (vi q)) σ (rg q) := by
  refine CJ_of hg (by decide) rfl (Nat.le_of_ble_eq_true rfl) (lo := [(0, .ref (gad g 13)), (1, vi x1)]) rfl (fun x C E => ?_)
  unfold fX0_shiftXOf at h
  refine J_iload_n C 1 dX0_shiftXOf_0 rfl 1 rfl ?_
  refine J_if_lt C h1 (tgt := 22) dX0_shiftXOf_1 (by decide) h (fun h c4 => ?_) (fun h c4 => ?_)
  · refine J_iconst C dX0_shiftXOf_22 ?_
    have e9 := sE h
    subst e9
    exact J_iret C E rl_0 dX0_shiftXOf_23
  · refine J_iload_n C 1 dX0_shiftXOf_4 rfl 1 rfl ?_
    refine J_aload_n C 0 dX0_shiftXOf_5 rfl 0 rfl ?_
    refine J_getR C fl_RX0_22 oC_13 rfl dX0_shiftXOf_6 ?_
    refine J_alen C (n := 96) (t0 := 0) aC_17.1 rfl rfl rfl dX0_shiftXOf_9 ?_
    refine J_icmp_ge C h1 rl_96 (tgt := 22) dX0_shiftXOf_10 (by decide) h (fun h c3 => ?_) (fun h c3 => ?_)
    · refine J_aload_n C 0 dX0_shiftXOf_13 rfl 0 rfl ?_
      refine J_getR C fl_RX0_22 oC_13 rfl dX0_shiftXOf_14 ?_
      refine J_iload_n C 1 dX0_shiftXOf_17 rfl 1 rfl ?_
      refine J_iald C aC_17 hσ dX0_shiftXOf_18 h (fun v1 hv2 h => ?_)
      refine J_goto C (tgt := 23) dX0_shiftXOf_19 (by decide) ?_
      have e9 := sE h
      subst e9
      exact J_iret C E hv2 dX0_shiftXOf_23
    · refine J_iconst C dX0_shiftXOf_22 ?_
      have e9 := sE h
      subst e9
      exact J_iret C E rl_0 dX0_shiftXOf_23
set_option maxRecDepth 100000 in
set_option maxHeartbeats 4000000 in
theorem m_X0_shiftYOf (l : Launch) (g : Gm) (hg : gInj yC g) (x1 : Int) (h1 : rg x1) (σ : Sg) (hσ : wfS yC σ) (q : Int) (h : fX0_shiftYOf x1 σ = some q) : CJ l yC g yX0_shiftYOf cX0_shiftYOf 2 (some .int) 0 0 [.ref (gad g 13), vi x1] σ (some (vi q)) σ (rg q) := by
  refine CJ_of hg (by decide) rfl (Nat.le_of_ble_eq_true rfl) (lo := [(0, .ref (gad g 13)), (1, vi x1)]) rfl (fun x C E => ?_)
  unfold fX0_shiftYOf at h
  refine J_iload_n C 1 dX0_shiftYOf_0 rfl 1 rfl ?_
  refine J_if_lt C h1 (tgt := 22) dX0_shiftYOf_1 (by decide) h (fun h c4 => ?_) (fun h c4 => ?_)
  · refine J_iconst C dX0_shiftYOf_22 ?_
    have e9 := sE h
    subst e9
    exact J_iret C E rl_0 dX0_shiftYOf_23
  · refine J_iload_n C 1 dX0_shiftYOf_4 rfl 1 rfl ?_
    refine J_aload_n C 0 dX0_shiftYOf_5 rfl 0 rfl ?_
    refine J_getR C fl_RX0_25 oC_13 rfl dX0_shiftYOf_6 ?_
    refine J_alen C (n := 96) (t0 := 0) aC_18.1 rfl rfl rfl dX0_shiftYOf_9 ?_
    refine J_icmp_ge C h1 rl_96 (tgt := 22) dX0_shiftYOf_10 (by decide) h (fun h c3 => ?_) (fun h c3 => ?_)
    · refine J_aload_n C 0 dX0_shiftYOf_13 rfl 0 rfl ?_
      refine J_getR C fl_RX0_25 oC_13 rfl dX0_shiftYOf_14 ?_
      refine J_iload_n C 1 dX0_shiftYOf_17 rfl 1 rfl ?_
      refine J_iald C aC_18 hσ dX0_shiftYOf_18 h (fun v1 hv2 h => ?_)
      refine J_goto C (tgt := 23) dX0_shiftYOf_19 (by decide) ?_
      have e9 := sE h
      subst e9
      exact J_iret C E hv2 dX0_shiftYOf_23
    · refine J_iconst C dX0_shiftYOf_22 ?_
      have e9 := sE h
      subst e9
      exact J_iret C E rl_0 dX0_shiftYOf_23
set_option maxRecDepth 100000 in
set_option maxHeartbeats 4000000 in
theorem m_X8_landing (l : Launch) (g : Gm) (hg : gInj yC g) (x1 : Int) (h1 : rg x1) (x2 : Int) (h2 : rg x2) (x3 : Int) (h3 : rg x3) (x4 : Int) (h4 : rg x4) (x5 : Int) (h5 : rg x5) (σ : Sg) (hσ : wfS yC σ) (q : Int) (h : fX8_landing x1 x2 x3 x4 x5 σ = some q) : CJ l yC g yX8_landing cX8_landing 11 (some .int) 2 42 [.ref (gad g 1), vi x1, vi x2, vi x3, vi x4, vi x5] σ (some (vi q)) σ (rg q) := by
  refine CJ_of hg (by decide) rfl (Nat.le_of_ble_eq_true rfl) (lo := [(0, .ref (gad g 1)), (1, vi x1), (2, vi x2), (3, vi x3), (4, vi x4), (5, vi x5)]) rfl (fun x C E => ?_)
  unfold fX8_landing at h
  have pc38 : ∀ (x7 : Int) (h7 : rg x7) (y0 : Int) (g0 : rg y0) (y1 : Int) (g1 : rg y1), fX8_landing_P152 x7 y0 y1 σ = some q → J x yC g 11 152 [(7, vi x7)] [vi y0, vi y1] σ := by
    intro x7 h7 y0 g0 y1 g1 h
    unfold fX8_landing_P152 at h
    refine J_iadd C dX8_landing_152 h (fun v39 hv40 h => ?_)
    refine J_istore (lo2 := [(8, vi v39), (7, vi x7)]) C 8 dX8_landing_153 (by decide) rfl ?_
    refine J_iload C 7 dX8_landing_155 1 rfl ?_
    refine J_sipush C dX8_landing_157 (bp16 (by decide) (by decide)) ?_
    refine J_floorDiv C h7 rl_200 ml_RX8_116 (Nat.le_of_ble_eq_true rfl) (Nat.le_of_ble_eq_true rfl) dX8_landing_160 h (fun v41 hv42 h => ?_)
    refine J_istore (lo2 := [(9, vi v41), (8, vi v39), (7, vi x7)]) C 9 dX8_landing_163 (by decide) rfl ?_
    refine J_iload C 8 dX8_landing_165 1 rfl ?_
    refine J_sipush C dX8_landing_167 (bp16 (by decide) (by decide)) ?_
    refine J_floorDiv C hv40 rl_200 ml_RX8_116 (Nat.le_of_ble_eq_true rfl) (Nat.le_of_ble_eq_true rfl) dX8_landing_170 h (fun v43 hv44 h => ?_)
    refine J_istore (lo2 := [(10, vi v43), (9, vi v41), (8, vi v39), (7, vi x7)]) C 10 dX8_landing_173 (by decide) rfl ?_
    refine J_iload C 9 dX8_landing_175 1 rfl ?_
    refine J_if_lt C hv42 (tgt := 199) dX8_landing_177 (by decide) h (fun h c52 => ?_) (fun h c52 => ?_)
    · refine J_bipush C dX8_landing_199 (bp8 (by decide) (by decide)) ?_
      have e9 := sE h
      subst e9
      exact J_iret C E rl_m3 dX8_landing_201
    · refine J_iload C 9 dX8_landing_180 1 rfl ?_
      refine J_bipush C dX8_landing_182 (bp8 (by decide) (by decide)) ?_
      refine J_icmp_ge C hv42 rl_32 (tgt := 199) dX8_landing_184 (by decide) h (fun h c51 => ?_) (fun h c51 => ?_)
      · refine J_iload C 10 dX8_landing_187 0 rfl ?_
        refine J_if_lt C hv44 (tgt := 199) dX8_landing_189 (by decide) h (fun h c50 => ?_) (fun h c50 => ?_)
        · refine J_bipush C dX8_landing_199 (bp8 (by decide) (by decide)) ?_
          have e9 := sE h
          subst e9
          exact J_iret C E rl_m3 dX8_landing_201
        · refine J_iload C 10 dX8_landing_192 0 rfl ?_
          refine J_bipush C dX8_landing_194 (bp8 (by decide) (by decide)) ?_
          refine J_icmp_lt C hv44 rl_32 (tgt := 202) dX8_landing_196 (by decide) h (fun h c49 => ?_) (fun h c49 => ?_)
          · refine J_bipush C dX8_landing_202 (bp8 (by decide) (by decide)) ?_
            refine J_iload C 10 dX8_landing_204 0 rfl ?_
            refine J_imul C dX8_landing_206 h (fun v45 hv46 h => ?_)
            refine J_iload C 9 dX8_landing_207 1 rfl ?_
            refine J_iadd C dX8_landing_209 h (fun v47 hv48 h => ?_)
            have e9 := sE h
            subst e9
            exact J_iret C E hv48 dX8_landing_210
          · refine J_bipush C dX8_landing_199 (bp8 (by decide) (by decide)) ?_
            have e9 := sE h
            subst e9
            exact J_iret C E rl_m3 dX8_landing_201
      · refine J_bipush C dX8_landing_199 (bp8 (by decide) (by decide)) ?_
        have e9 := sE h
        subst e9
        exact J_iret C E rl_m3 dX8_landing_201
  have pc35 : ∀ (x6 : Int) (h6 : rg x6) (x8 : Int) (h8 : rg x8) (y0 : Int) (g0 : rg y0) (y1 : Int) (g1 : rg y1), fX8_landing_P123 x5 x6 x8 y0 y1 σ = some q → J x yC g 11 123 [(5, vi x5), (6, vi x6), (8, vi x8)] [vi y0, vi y1] σ := by
    intro x6 h6 x8 h8 y0 g0 y1 g1 h
    unfold fX8_landing_P123 at h
    refine J_iadd C dX8_landing_123 h (fun v36 hv37 h => ?_)
    refine J_istore (lo2 := [(7, vi v36), (5, vi x5), (6, vi x6), (8, vi x8)]) C 7 dX8_landing_124 (by decide) rfl ?_
    refine J_iload C 8 dX8_landing_126 3 rfl ?_
    refine J_iload C 5 dX8_landing_128 1 rfl ?_
    refine J_iconst C dX8_landing_130 ?_
    refine J_icmp_ne C h5 rl_3 (tgt := 139) dX8_landing_131 (by decide) h (fun h c70 => ?_) (fun h c70 => ?_)
    · refine J_iload C 6 dX8_landing_134 2 rfl ?_
      refine J_goto C (tgt := 152) dX8_landing_136 (by decide) ?_
      exact J_sub [0] rfl (pc38 v36 hv37 x6 h6 x8 h8 h)
    · refine J_iload C 5 dX8_landing_139 1 rfl ?_
      refine J_iconst C dX8_landing_141 ?_
      refine J_icmp_ne C h5 rl_4 (tgt := 151) dX8_landing_142 (by decide) h (fun h c69 => ?_) (fun h c69 => ?_)
      · refine J_iload C 6 dX8_landing_145 2 rfl ?_
        refine J_ineg C dX8_landing_147 h (fun v67 hv68 h => ?_)
        refine J_goto C (tgt := 152) dX8_landing_148 (by decide) ?_
        exact J_sub [0] rfl (pc38 v36 hv37 v67 hv68 x8 h8 h)
      · refine J_iconst C dX8_landing_151 ?_
        exact J_sub [0] rfl (pc38 v36 hv37 0 rl_0 x8 h8 h)
  refine J_aload_n C 0 dX8_landing_0 rfl 0 rfl ?_
  refine J_iload_n C 2 dX8_landing_1 rfl 2 rfl ?_
  obtain ⟨q1, cq1, h⟩ := bdS h
  refine J_callV C mw_X8_isBarge ml_RX8_52 (m_X8_isBarge x.2.1 g (CxI C) x2 h2 σ hσ q1 cq1) oC_1 rfl (Nat.le_of_ble_eq_true rfl) (Nat.le_of_ble_eq_true rfl) rfl rfl (Nat.le_of_ble_eq_true rfl) dX8_landing_2 (fun hz2 => ?_)
  refine J_if_eq C (rg01 hz2) (tgt := 20) dX8_landing_5 (by decide) h (fun h c82 => ?_) (fun h c82 => ?_)
  · refine J_bipush C dX8_landing_20 (bp8 (by decide) (by decide)) ?_
    have e9 := sE h
    subst e9
    exact J_iret C E rl_m2 dX8_landing_22
  · refine J_aload_n C 0 dX8_landing_8 rfl 0 rfl ?_
    refine J_getR C fl_RX8_35 oC_1 rfl dX8_landing_9 ?_
    refine J_iload C 4 dX8_landing_12 4 rfl ?_
    obtain ⟨q3, cq3, h⟩ := bdS h
    refine J_callV C mw_X0_isHot ml_RX8_104 (m_X0_isHot x.2.1 g (CxI C) x4 h4 σ hσ q3 cq3) oC_13 rfl (Nat.le_of_ble_eq_true rfl) (Nat.le_of_ble_eq_true rfl) rfl rfl (Nat.le_of_ble_eq_true rfl) dX8_landing_14 (fun hz4 => ?_)
    refine J_if_ne C (rg01 hz4) (tgt := 23) dX8_landing_17 (by decide) h (fun h c81 => ?_) (fun h c81 => ?_)
    · refine J_bipush C dX8_landing_20 (bp8 (by decide) (by decide)) ?_
      have e9 := sE h
      subst e9
      exact J_iret C E rl_m2 dX8_landing_22
    · refine J_bipush C dX8_landing_23 (bp8 (by decide) (by decide)) ?_
      refine J_aload_n C 0 dX8_landing_25 rfl 0 rfl ?_
      refine J_getR C fl_RX8_28 oC_1 rfl dX8_landing_26 ?_
      refine J_iload_n C 1 dX8_landing_29 rfl 1 rfl ?_
      obtain ⟨q5, cq5, h⟩ := bdS h
      refine J_callV C mw_X2_spreadOf ml_RX8_107 (m_X2_spreadOf x.2.1 g (CxI C) x1 h1 σ hσ q5 cq5) oC_6 rfl (Nat.le_of_ble_eq_true rfl) (Nat.le_of_ble_eq_true rfl) rfl rfl (Nat.le_of_ble_eq_true rfl) dX8_landing_30 (fun hz6 => ?_)
      refine J_imul C dX8_landing_33 h (fun v7 hv8 h => ?_)
      refine J_istore (lo2 := [(6, vi v7), (0, .ref (gad g 1)), (1, vi x1), (2, vi x2), (3, vi x3), (4, vi x4), (5, vi x5)]) C 6 dX8_landing_34 (by decide) rfl ?_
      refine J_sipush C dX8_landing_36 (bp16 (by decide) (by decide)) ?_
      refine J_aload_n C 0 dX8_landing_39 rfl 1 rfl ?_
      refine J_getR C fl_RX8_15 oC_1 rfl dX8_landing_40 ?_
      refine J_iload_n C 2 dX8_landing_43 rfl 3 rfl ?_
      refine J_iald C aC_3 hσ dX8_landing_44 h (fun v9 hv10 h => ?_)
      refine J_imul C dX8_landing_45 h (fun v11 hv12 h => ?_)
      refine J_bipush C dX8_landing_46 (bp8 (by decide) (by decide)) ?_
      refine J_iadd C dX8_landing_48 h (fun v13 hv14 h => ?_)
      refine J_iload_n C 3 dX8_landing_49 rfl 4 rfl ?_
      refine J_aload_n C 0 dX8_landing_50 rfl 1 rfl ?_
      refine J_getR C fl_RX8_28 oC_1 rfl dX8_landing_51 ?_
      refine J_iload_n C 1 dX8_landing_54 rfl 2 rfl ?_
      obtain ⟨q15, cq15, h⟩ := bdS h
      refine J_callV C mw_X2_heightOf ml_RX8_78 (m_X2_heightOf x.2.1 g (CxI C) x1 h1 σ hσ q15 cq15) oC_6 rfl (Nat.le_of_ble_eq_true rfl) (Nat.le_of_ble_eq_true rfl) rfl rfl (Nat.le_of_ble_eq_true rfl) dX8_landing_55 (fun hz16 => ?_)
      refine J_imul C dX8_landing_58 h (fun v17 hv18 h => ?_)
      refine J_iadd C dX8_landing_59 h (fun v19 hv20 h => ?_)
      refine J_aload_n C 0 dX8_landing_60 rfl 1 rfl ?_
      refine J_getR C fl_RX8_35 oC_1 rfl dX8_landing_61 ?_
      refine J_iload C 4 dX8_landing_64 5 rfl ?_
      obtain ⟨q21, cq21, h⟩ := bdS h
      refine J_callV C mw_X0_shiftXOf ml_RX8_110 (m_X0_shiftXOf x.2.1 g (CxI C) x4 h4 σ hσ q21 cq21) oC_13 rfl (Nat.le_of_ble_eq_true rfl) (Nat.le_of_ble_eq_true rfl) rfl rfl (Nat.le_of_ble_eq_true rfl) dX8_landing_66 (fun hz22 => ?_)
      refine J_iadd C dX8_landing_69 h (fun v23 hv24 h => ?_)
      refine J_istore (lo2 := [(7, vi v23), (6, vi v7), (0, .ref (gad g 1)), (1, vi x1), (2, vi x2), (3, vi x3), (4, vi x4), (5, vi x5)]) C 7 dX8_landing_70 (by decide) rfl ?_
      refine J_sipush C dX8_landing_72 (bp16 (by decide) (by decide)) ?_
      refine J_aload_n C 0 dX8_landing_75 rfl 2 rfl ?_
      refine J_getR C fl_RX8_19 oC_1 rfl dX8_landing_76 ?_
      refine J_iload_n C 2 dX8_landing_79 rfl 4 rfl ?_
      refine J_iald C aC_4 hσ dX8_landing_80 h (fun v25 hv26 h => ?_)
      refine J_imul C dX8_landing_81 h (fun v27 hv28 h => ?_)
      refine J_bipush C dX8_landing_82 (bp8 (by decide) (by decide)) ?_
      refine J_iadd C dX8_landing_84 h (fun v29 hv30 h => ?_)
      refine J_aload_n C 0 dX8_landing_85 rfl 2 rfl ?_
      refine J_getR C fl_RX8_35 oC_1 rfl dX8_landing_86 ?_
      refine J_iload C 4 dX8_landing_89 6 rfl ?_
      obtain ⟨q31, cq31, h⟩ := bdS h
      refine J_callV C mw_X0_shiftYOf ml_RX8_113 (m_X0_shiftYOf x.2.1 g (CxI C) x4 h4 σ hσ q31 cq31) oC_13 rfl (Nat.le_of_ble_eq_true rfl) (Nat.le_of_ble_eq_true rfl) rfl rfl (Nat.le_of_ble_eq_true rfl) dX8_landing_91 (fun hz32 => ?_)
      refine J_iadd C dX8_landing_94 h (fun v33 hv34 h => ?_)
      refine J_istore (lo2 := [(8, vi v33), (7, vi v23), (6, vi v7), (0, .ref (gad g 1)), (1, vi x1), (2, vi x2), (3, vi x3), (4, vi x4), (5, vi x5)]) C 8 dX8_landing_95 (by decide) rfl ?_
      refine J_iload C 7 dX8_landing_97 1 rfl ?_
      refine J_iload C 5 dX8_landing_99 8 rfl ?_
      refine J_iconst C dX8_landing_101 ?_
      refine J_icmp_ne C h5 rl_1 (tgt := 110) dX8_landing_102 (by decide) h (fun h c80 => ?_) (fun h c80 => ?_)
      · refine J_iload C 6 dX8_landing_105 2 rfl ?_
        refine J_goto C (tgt := 123) dX8_landing_107 (by decide) ?_
        exact J_sub [8, 2, 0] rfl (pc35 v7 hv8 v33 hv34 v7 hv8 v23 hv24 h)
      · refine J_iload C 5 dX8_landing_110 8 rfl ?_
        refine J_iconst C dX8_landing_112 ?_
        refine J_icmp_ne C h5 rl_2 (tgt := 122) dX8_landing_113 (by decide) h (fun h c79 => ?_) (fun h c79 => ?_)
        · refine J_iload C 6 dX8_landing_116 2 rfl ?_
          refine J_ineg C dX8_landing_118 h (fun v77 hv78 h => ?_)
          refine J_goto C (tgt := 123) dX8_landing_119 (by decide) ?_
          exact J_sub [8, 2, 0] rfl (pc35 v7 hv8 v33 hv34 v77 hv78 v23 hv24 h)
        · refine J_iconst C dX8_landing_122 ?_
          exact J_sub [8, 2, 0] rfl (pc35 v7 hv8 v33 hv34 0 rl_0 v23 hv24 h)
set_option maxRecDepth 100000 in
set_option maxHeartbeats 4000000 in
theorem m_X8_groundAt (l : Launch) (g : Gm) (hg : gInj yC g) (x1 : Int) (h1 : rg x1) (σ : Sg) (hσ : wfS yC σ) (q : Int) (h : fX8_groundAt x1 σ = some q) : CJ l yC g yX8_groundAt cX8_groundAt 2 (some .int) 0 0 [.ref (gad g 1), vi x1] σ (some (vi q)) σ (rg q) := by
  refine CJ_of hg (by decide) rfl (Nat.le_of_ble_eq_true rfl) (lo := [(0, .ref (gad g 1)), (1, vi x1)]) rfl (fun x C E => ?_)
  unfold fX8_groundAt at h
  refine J_iload_n C 1 dX8_groundAt_0 rfl 1 rfl ?_
  refine J_if_lt C h1 (tgt := 22) dX8_groundAt_1 (by decide) h (fun h c4 => ?_) (fun h c4 => ?_)
  · refine J_iconst C dX8_groundAt_22 ?_
    have e9 := sE h
    subst e9
    exact J_iret C E rl_1 dX8_groundAt_23
  · refine J_iload_n C 1 dX8_groundAt_4 rfl 1 rfl ?_
    refine J_aload_n C 0 dX8_groundAt_5 rfl 0 rfl ?_
    refine J_getR C fl_RX8_9 oC_1 rfl dX8_groundAt_6 ?_
    refine J_alen C (n := 1024) (t0 := 2) aC_2.1 rfl rfl rfl dX8_groundAt_9 ?_
    refine J_icmp_ge C h1 rl_1024 (tgt := 22) dX8_groundAt_10 (by decide) h (fun h c3 => ?_) (fun h c3 => ?_)
    · refine J_aload_n C 0 dX8_groundAt_13 rfl 0 rfl ?_
      refine J_getR C fl_RX8_9 oC_1 rfl dX8_groundAt_14 ?_
      refine J_iload_n C 1 dX8_groundAt_17 rfl 1 rfl ?_
      refine J_bald C aC_2 hσ dX8_groundAt_18 h (fun v1 hv2 h => ?_)
      refine J_goto C (tgt := 23) dX8_groundAt_19 (by decide) ?_
      have e9 := sE h
      subst e9
      exact J_iret C E hv2 dX8_groundAt_23
    · refine J_iconst C dX8_groundAt_22 ?_
      have e9 := sE h
      subst e9
      exact J_iret C E rl_1 dX8_groundAt_23
set_option maxRecDepth 100000 in
set_option maxHeartbeats 4000000 in
theorem wX8_isSafe_L29 {x : Ct} {g : Gm} (C : Cx x yC g 10 cX8_isSafe RX8 3 72) : ∀ (n : Nat) (x1 : Int) (h1 : rg x1) (x2 : Int) (h2 : rg x2) (x3 : Int) (h3 : rg x3) (x5 : Int) (h5 : rg x5) (x6 : Int) (h6 : rg x6) (x7 : Int) (h7 : rg x7) (σ : Sg) (hσ : wfS yC σ) (q : (Unit) ⊕ ((Unit) ⊕ (Unit))) (h : fX8_isSafe_L29 n x1 x2 x3 x5 x6 x7 σ = some q) (k0 : ∀ a : Unit, q = .inl a → J x yC g 10 64 [] [] σ) (k1 : ∀ a : Unit, q = .inr (.inl a) → J x yC g 10 96 [] [] σ) (k2 : ∀ a : Unit, q = .inr (.inr a) → J x yC g 10 104 [] [] σ), J x yC g 10 29 [(0, .ref (gad g 1)), (1, vi x1), (2, vi x2), (3, vi x3), (5, vi x5), (6, vi x6), (7, vi x7)] [] σ := by
  intro n
  induction n with
  | zero =>
    intro x1 h1 x2 h2 x3 h3 x5 h5 x6 h6 x7 h7 σ hσ q h k0 k1 k2
    exact absurd h (by intro z; cases z)
  | succ n ih =>
    intro x1 h1 x2 h2 x3 h3 x5 h5 x6 h6 x7 h7 σ hσ q h k0 k1 k2
    rw [fX8_isSafe_L29] at h
    have pc10 : ∀ (x7 : Int) (h7 : rg x7), fX8_isSafe_L29P98 (fX8_isSafe_L29 n) x1 x2 x3 x5 x6 x7 σ = some q → J x yC g 10 98 [(0, .ref (gad g 1)), (1, vi x1), (2, vi x2), (3, vi x3), (5, vi x5), (6, vi x6), (7, vi x7)] [] σ := by
      intro x7 h7 h
      unfold fX8_isSafe_L29P98 at h
      refine J_iinc C 7 6 dX8_isSafe_98 rfl (by decide) h (fun v11 hv12 h => ?_)
      refine J_goto C (tgt := 29) dX8_isSafe_101 (by decide) ?_
      exact J_sub [1, 2, 3, 4, 5, 6, 0] rfl (ih x1 h1 x2 h2 x3 h3 x5 h5 x6 h6 v11 hv12 σ hσ q h k0 k1 k2)
    have pc7 : ∀ (x7 : Int) (h7 : rg x7), fX8_isSafe_L29P66 (fX8_isSafe_L29 n) x1 x2 x3 x5 x6 x7 σ = some q → J x yC g 10 66 [(0, .ref (gad g 1)), (1, vi x1), (2, vi x2), (3, vi x3), (5, vi x5), (6, vi x6), (7, vi x7)] [] σ := by
      intro x7 h7 h
      unfold fX8_isSafe_L29P66 at h
      refine J_aload_n C 0 dX8_isSafe_66 rfl 0 rfl ?_
      refine J_iload_n C 1 dX8_isSafe_67 rfl 1 rfl ?_
      refine J_iload_n C 2 dX8_isSafe_68 rfl 2 rfl ?_
      refine J_iload_n C 3 dX8_isSafe_69 rfl 3 rfl ?_
      refine J_iload C 6 dX8_isSafe_70 5 rfl ?_
      refine J_iload C 7 dX8_isSafe_72 6 rfl ?_
      obtain ⟨q8, cq8, h⟩ := bdS h
      refine J_callV C mw_X8_landing ml_RX8_97 (m_X8_landing x.2.1 g (CxI C) x1 h1 x2 h2 x3 h3 x6 h6 x7 h7 σ hσ q8 cq8) oC_1 rfl (Nat.le_of_ble_eq_true rfl) (Nat.le_of_ble_eq_true rfl) rfl rfl (Nat.le_of_ble_eq_true rfl) dX8_isSafe_74 (fun hz9 => ?_)
      refine J_istore (lo2 := [(9, vi q8), (0, .ref (gad g 1)), (1, vi x1), (2, vi x2), (3, vi x3), (5, vi x5), (6, vi x6), (7, vi x7)]) C 9 dX8_isSafe_77 (by decide) rfl ?_
      refine J_iload C 9 dX8_isSafe_79 0 rfl ?_
      refine J_bipush C dX8_isSafe_81 (bp8 (by decide) (by decide)) ?_
      refine J_icmp_eq C hz9 rl_m2 (tgt := 98) dX8_isSafe_83 (by decide) h (fun h c18 => ?_) (fun h c18 => ?_)
      · exact J_sub [1, 2, 3, 4, 5, 6, 7] rfl (pc10 x7 h7 h)
      · refine J_aload_n C 0 dX8_isSafe_86 rfl 1 rfl ?_
        refine J_iload C 9 dX8_isSafe_87 0 rfl ?_
        obtain ⟨q15, cq15, h⟩ := bdS h
        refine J_callV C mw_X8_groundAt ml_RX8_101 (m_X8_groundAt x.2.1 g (CxI C) q8 hz9 σ hσ q15 cq15) oC_1 rfl (Nat.le_of_ble_eq_true rfl) (Nat.le_of_ble_eq_true rfl) rfl rfl (Nat.le_of_ble_eq_true rfl) dX8_isSafe_89 (fun hz16 => ?_)
        refine J_iconst C dX8_isSafe_92 ?_
        refine J_icmp_ne C hz16 rl_2 (tgt := 98) dX8_isSafe_93 (by decide) h (fun h c17 => ?_) (fun h c17 => ?_)
        · have e9 := sE h
          exact J_sub [] rfl (k1 () e9.symm)
        · exact J_sub [1, 2, 3, 4, 5, 6, 7] rfl (pc10 x7 h7 h)
    refine J_iload C 7 dX8_isSafe_29 6 rfl ?_
    refine J_iconst C dX8_isSafe_31 ?_
    refine J_icmp_ge C h7 rl_5 (tgt := 104) dX8_isSafe_32 (by decide) h (fun h c29 => ?_) (fun h c29 => ?_)
    · refine J_aload_n C 0 dX8_isSafe_35 rfl 0 rfl ?_
      refine J_iload_n C 1 dX8_isSafe_36 rfl 1 rfl ?_
      refine J_iload_n C 2 dX8_isSafe_37 rfl 2 rfl ?_
      refine J_iload_n C 3 dX8_isSafe_38 rfl 3 rfl ?_
      refine J_iload C 5 dX8_isSafe_39 4 rfl ?_
      refine J_iload C 7 dX8_isSafe_41 6 rfl ?_
      obtain ⟨q5, cq5, h⟩ := bdS h
      refine J_callV C mw_X8_landing ml_RX8_97 (m_X8_landing x.2.1 g (CxI C) x1 h1 x2 h2 x3 h3 x5 h5 x7 h7 σ hσ q5 cq5) oC_1 rfl (Nat.le_of_ble_eq_true rfl) (Nat.le_of_ble_eq_true rfl) rfl rfl (Nat.le_of_ble_eq_true rfl) dX8_isSafe_43 (fun hz6 => ?_)
      refine J_istore (lo2 := [(8, vi q5), (0, .ref (gad g 1)), (1, vi x1), (2, vi x2), (3, vi x3), (5, vi x5), (6, vi x6), (7, vi x7)]) C 8 dX8_isSafe_46 (by decide) rfl ?_
      refine J_iload C 8 dX8_isSafe_48 0 rfl ?_
      refine J_bipush C dX8_isSafe_50 (bp8 (by decide) (by decide)) ?_
      refine J_icmp_eq C hz6 rl_m2 (tgt := 66) dX8_isSafe_52 (by decide) h (fun h c28 => ?_) (fun h c28 => ?_)
      · exact J_sub [1, 2, 3, 4, 5, 6, 7] rfl (pc7 x7 h7 h)
      · refine J_aload_n C 0 dX8_isSafe_55 rfl 1 rfl ?_
        refine J_iload C 8 dX8_isSafe_56 0 rfl ?_
        obtain ⟨q25, cq25, h⟩ := bdS h
        refine J_callV C mw_X8_groundAt ml_RX8_101 (m_X8_groundAt x.2.1 g (CxI C) q5 hz6 σ hσ q25 cq25) oC_1 rfl (Nat.le_of_ble_eq_true rfl) (Nat.le_of_ble_eq_true rfl) rfl rfl (Nat.le_of_ble_eq_true rfl) dX8_isSafe_58 (fun hz26 => ?_)
        refine J_if_eq C hz26 (tgt := 66) dX8_isSafe_61 (by decide) h (fun h c27 => ?_) (fun h c27 => ?_)
        · exact J_sub [1, 2, 3, 4, 5, 6, 7] rfl (pc7 x7 h7 h)
        · have e9 := sE h
          exact J_sub [] rfl (k0 () e9.symm)
    · have e9 := sE h
      exact J_sub [] rfl (k2 () e9.symm)
set_option maxRecDepth 100000 in
set_option maxHeartbeats 4000000 in
theorem m_X8_isSafe (l : Launch) (g : Gm) (hg : gInj yC g) (x1 : Int) (h1 : rg x1) (x2 : Int) (h2 : rg x2) (x3 : Int) (h3 : rg x3) (x4 : Int) (h4 : rg x4) (σ : Sg) (hσ : wfS yC σ) (q : Int) (h : fX8_isSafe x1 x2 x3 x4 σ = some q) : CJ l yC g yX8_isSafe cX8_isSafe 10 (some .boolean) 3 72 [.ref (gad g 1), vi x1, vi x2, vi x3, vi x4] σ (some (vi q)) σ (q = 0 ∨ q = 1) := by
  refine CJ_of hg (by decide) rfl (Nat.le_of_ble_eq_true rfl) (lo := [(0, .ref (gad g 1)), (1, vi x1), (2, vi x2), (3, vi x3), (4, vi x4)]) rfl (fun x C E => ?_)
  unfold fX8_isSafe at h
  refine J_aload_n C 0 dX8_isSafe_0 rfl 0 rfl ?_
  refine J_getR C fl_RX8_35 oC_1 rfl dX8_isSafe_1 ?_
  refine J_iload_n C 1 dX8_isSafe_4 rfl 1 rfl ?_
  refine J_iload C 4 dX8_isSafe_5 4 rfl ?_
  refine J_iconst C dX8_isSafe_7 ?_
  obtain ⟨q1, cq1, h⟩ := bdS h
  refine J_callV C mw_X0_slot ml_RX8_93 (m_X0_slot x.2.1 g (CxI C) x1 h1 x4 h4 0 rl_0 σ hσ q1 cq1) oC_13 rfl (Nat.le_of_ble_eq_true rfl) (Nat.le_of_ble_eq_true rfl) rfl rfl (Nat.le_of_ble_eq_true rfl) dX8_isSafe_8 (fun hz2 => ?_)
  refine J_istore (lo2 := [(5, vi q1), (0, .ref (gad g 1)), (1, vi x1), (2, vi x2), (3, vi x3), (4, vi x4)]) C 5 dX8_isSafe_11 (by decide) rfl ?_
  refine J_aload_n C 0 dX8_isSafe_13 rfl 1 rfl ?_
  refine J_getR C fl_RX8_35 oC_1 rfl dX8_isSafe_14 ?_
  refine J_iload_n C 1 dX8_isSafe_17 rfl 2 rfl ?_
  refine J_iload C 4 dX8_isSafe_18 5 rfl ?_
  refine J_iconst C dX8_isSafe_20 ?_
  obtain ⟨q3, cq3, h⟩ := bdS h
  refine J_callV C mw_X0_slot ml_RX8_93 (m_X0_slot x.2.1 g (CxI C) x1 h1 x4 h4 1 rl_1 σ hσ q3 cq3) oC_13 rfl (Nat.le_of_ble_eq_true rfl) (Nat.le_of_ble_eq_true rfl) rfl rfl (Nat.le_of_ble_eq_true rfl) dX8_isSafe_21 (fun hz4 => ?_)
  refine J_istore (lo2 := [(6, vi q3), (5, vi q1), (0, .ref (gad g 1)), (1, vi x1), (2, vi x2), (3, vi x3), (4, vi x4)]) C 6 dX8_isSafe_24 (by decide) rfl ?_
  refine J_iconst C dX8_isSafe_26 ?_
  refine J_istore (lo2 := [(7, vi 0), (6, vi q3), (5, vi q1), (0, .ref (gad g 1)), (1, vi x1), (2, vi x2), (3, vi x3), (4, vi x4)]) C 7 dX8_isSafe_27 (by decide) rfl ?_
  obtain ⟨q30, cq30, h⟩ := bdS h
  refine J_sub [3, 4, 5, 6, 2, 1, 0] rfl (wX8_isSafe_L29 C fu x1 h1 x2 h2 x3 h3 q1 hz2 q3 hz4 0 rl_0 σ hσ q30 cq30 (fun a31 ea31 => ?_) (fun a32 ea32 => ?_) (fun a33 ea33 => ?_))
  · subst ea31
    have h := elL h
    refine J_iconst C dX8_isSafe_64 ?_
    have e9 := sE h
    subst e9
    exact J_zret C (Or.inl rfl) E (Or.inl rfl) dX8_isSafe_65
  · subst ea32
    have h := elR h
    have h := elL h
    refine J_iconst C dX8_isSafe_96 ?_
    have e9 := sE h
    subst e9
    exact J_zret C (Or.inl rfl) E (Or.inl rfl) dX8_isSafe_97
  · subst ea33
    have h := elR h
    have h := elR h
    refine J_iconst C dX8_isSafe_104 ?_
    have e9 := sE h
    subst e9
    exact J_zret C (Or.inr rfl) E (Or.inr rfl) dX8_isSafe_105
set_option maxRecDepth 100000 in
set_option maxHeartbeats 4000000 in
theorem m_X11_safe (l : Launch) (g : Gm) (hg : gInj yC g) (x1 : Int) (h1 : rg x1) (x2 : Int) (h2 : rg x2) (x3 : Int) (h3 : rg x3) (x4 : Int) (h4 : rg x4) (σ : Sg) (hσ : wfS yC σ) (q : Int) (h : fX11_safe x1 x2 x3 x4 σ = some q) : CJ l yC g yX11_safe cX11_safe 5 (some .int) 4 101 [.ref (gad g 0), vi x1, vi x2, vi x3, vi x4] σ (some (vi q)) σ (rg q) := by
  refine CJ_of hg (by decide) rfl (Nat.le_of_ble_eq_true rfl) (lo := [(0, .ref (gad g 0)), (1, vi x1), (2, vi x2), (3, vi x3), (4, vi x4)]) rfl (fun x C E => ?_)
  unfold fX11_safe at h
  refine J_aload_n C 0 dX11_safe_0 rfl 0 rfl ?_
  refine J_iload_n C 1 dX11_safe_1 rfl 1 rfl ?_
  refine J_iload_n C 2 dX11_safe_2 rfl 2 rfl ?_
  refine J_iload_n C 3 dX11_safe_3 rfl 3 rfl ?_
  refine J_iload C 4 dX11_safe_4 4 rfl ?_
  obtain ⟨q1, cq1, h⟩ := bdS h
  refine J_callV C mw_X11_isLight ml_RX11_157 (m_X11_isLight x.2.1 g (CxI C) x1 h1 x2 h2 x3 h3 x4 h4 σ hσ q1 cq1) oC_0 rfl (Nat.le_of_ble_eq_true rfl) (Nat.le_of_ble_eq_true rfl) rfl rfl (Nat.le_of_ble_eq_true rfl) dX11_safe_6 (fun hz2 => ?_)
  refine J_if_ne C (rg01 hz2) (tgt := 14) dX11_safe_9 (by decide) h (fun h c6 => ?_) (fun h c6 => ?_)
  · refine J_iconst C dX11_safe_12 ?_
    have e9 := sE h
    subst e9
    exact J_iret C E rl_m1 dX11_safe_13
  · refine J_aload_n C 0 dX11_safe_14 rfl 0 rfl ?_
    refine J_getR C fl_RX11_10 oC_0 rfl dX11_safe_15 ?_
    refine J_iload_n C 1 dX11_safe_18 rfl 1 rfl ?_
    refine J_iload_n C 2 dX11_safe_19 rfl 2 rfl ?_
    refine J_iload_n C 3 dX11_safe_20 rfl 3 rfl ?_
    refine J_iload C 4 dX11_safe_21 4 rfl ?_
    obtain ⟨q3, cq3, h⟩ := bdS h
    refine J_callV C mw_X8_isSafe ml_RX11_160 (m_X8_isSafe x.2.1 g (CxI C) x1 h1 x2 h2 x3 h3 x4 h4 σ hσ q3 cq3) oC_1 rfl (Nat.le_of_ble_eq_true rfl) (Nat.le_of_ble_eq_true rfl) rfl rfl (Nat.le_of_ble_eq_true rfl) dX11_safe_23 (fun hz4 => ?_)
    refine J_if_eq C (rg01 hz4) (tgt := 33) dX11_safe_26 (by decide) h (fun h c5 => ?_) (fun h c5 => ?_)
    · refine J_iconst C dX11_safe_33 ?_
      have e9 := sE h
      subst e9
      exact J_iret C E rl_0 dX11_safe_34
    · refine J_iconst C dX11_safe_29 ?_
      refine J_goto C (tgt := 34) dX11_safe_30 (by decide) ?_
      have e9 := sE h
      subst e9
      exact J_iret C E rl_1 dX11_safe_34
set_option maxRecDepth 100000 in
set_option maxHeartbeats 4000000 in
theorem m_X11_hot (l : Launch) (g : Gm) (hg : gInj yC g) (x1 : Int) (h1 : rg x1) (x2 : Int) (h2 : rg x2) (x3 : Int) (h3 : rg x3) (x4 : Int) (h4 : rg x4) (x5 : Int) (h5 : rg x5) (σ : Sg) (hσ : wfS yC σ) (q : Int) (h : fX11_hot x1 x2 x3 x4 x5 σ = some q) : CJ l yC g yX11_hot cX11_hot 6 (some .int) 3 72 [.ref (gad g 0), vi x1, vi x2, vi x3, vi x4, vi x5] σ (some (vi q)) σ (rg q) := by
  refine CJ_of hg (by decide) rfl (Nat.le_of_ble_eq_true rfl) (lo := [(0, .ref (gad g 0)), (1, vi x1), (2, vi x2), (3, vi x3), (4, vi x4), (5, vi x5)]) rfl (fun x C E => ?_)
  unfold fX11_hot at h
  refine J_aload_n C 0 dX11_hot_0 rfl 0 rfl ?_
  refine J_iload_n C 1 dX11_hot_1 rfl 1 rfl ?_
  refine J_iload_n C 2 dX11_hot_2 rfl 2 rfl ?_
  refine J_iload_n C 3 dX11_hot_3 rfl 3 rfl ?_
  refine J_iload C 4 dX11_hot_4 4 rfl ?_
  obtain ⟨q1, cq1, h⟩ := bdS h
  refine J_callV C mw_X11_isLight ml_RX11_157 (m_X11_isLight x.2.1 g (CxI C) x1 h1 x2 h2 x3 h3 x4 h4 σ hσ q1 cq1) oC_0 rfl (Nat.le_of_ble_eq_true rfl) (Nat.le_of_ble_eq_true rfl) rfl rfl (Nat.le_of_ble_eq_true rfl) dX11_hot_6 (fun hz2 => ?_)
  refine J_if_eq C (rg01 hz2) (tgt := 23) dX11_hot_9 (by decide) h (fun h c9 => ?_) (fun h c9 => ?_)
  · refine J_iconst C dX11_hot_23 ?_
    have e9 := sE h
    subst e9
    exact J_iret C E rl_m1 dX11_hot_24
  · refine J_iload C 5 dX11_hot_12 5 rfl ?_
    refine J_if_lt C h5 (tgt := 23) dX11_hot_14 (by decide) h (fun h c8 => ?_) (fun h c8 => ?_)
    · refine J_iconst C dX11_hot_23 ?_
      have e9 := sE h
      subst e9
      exact J_iret C E rl_m1 dX11_hot_24
    · refine J_iload C 5 dX11_hot_17 5 rfl ?_
      refine J_iconst C dX11_hot_19 ?_
      refine J_icmp_lt C h5 rl_5 (tgt := 25) dX11_hot_20 (by decide) h (fun h c7 => ?_) (fun h c7 => ?_)
      · refine J_aload_n C 0 dX11_hot_25 rfl 0 rfl ?_
        refine J_getR C fl_RX11_10 oC_0 rfl dX11_hot_26 ?_
        refine J_iload_n C 1 dX11_hot_29 rfl 1 rfl ?_
        refine J_iload_n C 2 dX11_hot_30 rfl 2 rfl ?_
        refine J_iload_n C 3 dX11_hot_31 rfl 3 rfl ?_
        refine J_aload_n C 0 dX11_hot_32 rfl 0 rfl ?_
        refine J_getR C fl_RX11_10 oC_0 rfl dX11_hot_33 ?_
        refine J_getR C fl_RX11_123 oC_1 rfl dX11_hot_36 ?_
        refine J_iload_n C 1 dX11_hot_39 rfl 1 rfl ?_
        refine J_iload C 4 dX11_hot_40 4 rfl ?_
        refine J_iconst C dX11_hot_42 ?_
        obtain ⟨q3, cq3, h⟩ := bdS h
        refine J_callV C mw_X0_slot ml_RX11_163 (m_X0_slot x.2.1 g (CxI C) x1 h1 x4 h4 0 rl_0 σ hσ q3 cq3) oC_13 rfl (Nat.le_of_ble_eq_true rfl) (Nat.le_of_ble_eq_true rfl) rfl rfl (Nat.le_of_ble_eq_true rfl) dX11_hot_43 (fun hz4 => ?_)
        refine J_iload C 5 dX11_hot_46 5 rfl ?_
        obtain ⟨q5, cq5, h⟩ := bdS h
        refine J_callV C mw_X8_landing ml_RX11_167 (m_X8_landing x.2.1 g (CxI C) x1 h1 x2 h2 x3 h3 q3 hz4 x5 h5 σ hσ q5 cq5) oC_1 rfl (Nat.le_of_ble_eq_true rfl) (Nat.le_of_ble_eq_true rfl) rfl rfl (Nat.le_of_ble_eq_true rfl) dX11_hot_48 (fun hz6 => ?_)
        have e9 := sE h
        subst e9
        exact J_iret C E hz6 dX11_hot_51
      · refine J_iconst C dX11_hot_23 ?_
        have e9 := sE h
        subst e9
        exact J_iret C E rl_m1 dX11_hot_24
set_option maxRecDepth 100000 in
set_option maxHeartbeats 4000000 in
theorem m_X9_refusalAs (l : Launch) (g : Gm) (hg : gInj yC g) (x0 : Nat) (h0 : isTape x0) (x1 : Int) (h1 : rg x1) (σ : Sg) (hσ : wfS yC σ) (q : Int) (h : fX9_refusalAs x0 x1 σ = some q) : CJ l yC g yX9_refusalAs cX9_refusalAs 2 (some .int) 0 0 [.ref (gad g x0), vi x1] σ (some (vi q)) σ (rg q) := by
  refine CJ_of hg (by decide) rfl (Nat.le_of_ble_eq_true rfl) (lo := [(0, .ref (gad g x0)), (1, vi x1)]) rfl (fun x C E => ?_)
  unfold fX9_refusalAs at h
  refine J_aload_n C 0 dX9_refusalAs_0 rfl 0 rfl ?_
  refine J_getI C fl_RX9_22 h0.1 rfl dX9_refusalAs_1 ?_
  refine J_if_ne C (hσ x0 0 h0.2.1) (tgt := 10) dX9_refusalAs_4 (by decide) h (fun h c2 => ?_) (fun h c2 => ?_)
  · refine J_bipush C dX9_refusalAs_7 (bp8 (by decide) (by decide)) ?_
    have e9 := sE h
    subst e9
    exact J_iret C E rl_m11 dX9_refusalAs_9
  · refine J_aload_n C 0 dX9_refusalAs_10 rfl 0 rfl ?_
    refine J_getI C fl_RX9_22 h0.1 rfl dX9_refusalAs_11 ?_
    refine J_iload_n C 1 dX9_refusalAs_14 rfl 1 rfl ?_
    refine J_icmp_ne C (hσ x0 0 h0.2.1) h1 (tgt := 22) dX9_refusalAs_15 (by decide) h (fun h c1 => ?_) (fun h c1 => ?_)
    · refine J_iconst C dX9_refusalAs_18 ?_
      refine J_goto C (tgt := 24) dX9_refusalAs_19 (by decide) ?_
      have e9 := sE h
      subst e9
      exact J_iret C E rl_0 dX9_refusalAs_24
    · refine J_bipush C dX9_refusalAs_22 (bp8 (by decide) (by decide)) ?_
      have e9 := sE h
      subst e9
      exact J_iret C E rl_m12 dX9_refusalAs_24
set_option maxRecDepth 100000 in
set_option maxHeartbeats 4000000 in
theorem m_X11_refuse (l : Launch) (g : Gm) (hg : gInj yC g) (x1 : Int) (h1 : rg x1) (σ : Sg) (hσ : wfS yC σ) (q : Int × Sg) (h : fX11_refuse x1 σ = some q) : CJ l yC g yX11_refuse cX11_refuse 2 (some .int) 0 0 [.ref (gad g 0), vi x1] σ (some (vi q.1)) q.2 ((rg q.1) ∧ wfS yC q.2) := by
  refine CJ_of hg (by decide) rfl (Nat.le_of_ble_eq_true rfl) (lo := [(0, .ref (gad g 0)), (1, vi x1)]) rfl (fun x C E => ?_)
  unfold fX11_refuse at h
  refine J_aload_n C 0 dX11_refuse_0 rfl 0 rfl ?_
  refine J_dup C rfl dX11_refuse_1 ?_
  refine J_getI C fl_RX11_84 oC_0 rfl dX11_refuse_2 ?_
  refine J_iconst C dX11_refuse_5 ?_
  refine J_iadd C dX11_refuse_6 h (fun v1 hv2 h => ?_)
  refine J_putI C fl_RX11_84 fp_RX11_10 oC_0 rfl rfl lC_0 hσ hv2 dX11_refuse_7 h (fun σ3 hσ4 h => ?_)
  refine J_iload_n C 1 dX11_refuse_10 rfl 1 rfl ?_
  have e9 := sE h
  subst e9
  exact J_iret C E ⟨h1, hσ4⟩ dX11_refuse_11
set_option maxRecDepth 100000 in
set_option maxHeartbeats 4000000 in
theorem m_X9_hasPlace (l : Launch) (g : Gm) (hg : gInj yC g) (x0 : Nat) (h0 : isTape x0) (x1 : Int) (h1 : rg x1) (σ : Sg) (hσ : wfS yC σ) (q : Int) (h : fX9_hasPlace x0 x1 σ = some q) : CJ l yC g yX9_hasPlace cX9_hasPlace 2 (some .boolean) 0 0 [.ref (gad g x0), vi x1] σ (some (vi q)) σ (q = 0 ∨ q = 1) := by
  refine CJ_of hg (by decide) rfl (Nat.le_of_ble_eq_true rfl) (lo := [(0, .ref (gad g x0)), (1, vi x1)]) rfl (fun x C E => ?_)
  unfold fX9_hasPlace at h
  refine J_iload_n C 1 dX9_hasPlace_0 rfl 1 rfl ?_
  refine J_if_lt C h1 (tgt := 22) dX9_hasPlace_1 (by decide) h (fun h c3 => ?_) (fun h c3 => ?_)
  · refine J_iconst C dX9_hasPlace_22 ?_
    have e9 := sE h
    subst e9
    exact J_zret C (Or.inl rfl) E (Or.inl rfl) dX9_hasPlace_23
  · refine J_iload_n C 1 dX9_hasPlace_4 rfl 1 rfl ?_
    refine J_aload_n C 0 dX9_hasPlace_5 rfl 0 rfl ?_
    refine J_getI C fl_RX9_26 h0.1 rfl dX9_hasPlace_6 ?_
    refine J_icmp_ge C h1 (hσ x0 1 h0.2.1) (tgt := 22) dX9_hasPlace_9 (by decide) h (fun h c2 => ?_) (fun h c2 => ?_)
    · refine J_iload_n C 1 dX9_hasPlace_12 rfl 1 rfl ?_
      refine J_bipush C dX9_hasPlace_13 (bp8 (by decide) (by decide)) ?_
      refine J_icmp_ge C h1 rl_100 (tgt := 22) dX9_hasPlace_15 (by decide) h (fun h c1 => ?_) (fun h c1 => ?_)
      · refine J_iconst C dX9_hasPlace_18 ?_
        refine J_goto C (tgt := 23) dX9_hasPlace_19 (by decide) ?_
        have e9 := sE h
        subst e9
        exact J_zret C (Or.inr rfl) E (Or.inr rfl) dX9_hasPlace_23
      · refine J_iconst C dX9_hasPlace_22 ?_
        have e9 := sE h
        subst e9
        exact J_zret C (Or.inl rfl) E (Or.inl rfl) dX9_hasPlace_23
    · refine J_iconst C dX9_hasPlace_22 ?_
      have e9 := sE h
      subst e9
      exact J_zret C (Or.inl rfl) E (Or.inl rfl) dX9_hasPlace_23
set_option maxRecDepth 100000 in
set_option maxHeartbeats 4000000 in
theorem m_X9_valueAt (l : Launch) (g : Gm) (hg : gInj yC g) (x0 : Nat) (h0 : isTape x0) (x1 : Int) (h1 : rg x1) (σ : Sg) (hσ : wfS yC σ) (q : Int) (h : fX9_valueAt x0 x1 σ = some q) : CJ l yC g yX9_valueAt cX9_valueAt 2 (some .long) 1 21 [.ref (gad g x0), vi x1] σ (some (vl q)) σ (True) := by
  refine CJ_of hg (by decide) rfl (Nat.le_of_ble_eq_true rfl) (lo := [(0, .ref (gad g x0)), (1, vi x1)]) rfl (fun x C E => ?_)
  unfold fX9_valueAt at h
  refine J_aload_n C 0 dX9_valueAt_0 rfl 0 rfl ?_
  refine J_iload_n C 1 dX9_valueAt_1 rfl 1 rfl ?_
  obtain ⟨q1, cq1, h⟩ := bdS h
  refine J_callV C mw_X9_hasPlace ml_RX9_39 (m_X9_hasPlace x.2.1 g (CxI C) x0 h0 x1 h1 σ hσ q1 cq1) h0.1 rfl (Nat.le_of_ble_eq_true rfl) (Nat.le_of_ble_eq_true rfl) rfl rfl (Nat.le_of_ble_eq_true rfl) dX9_valueAt_2 (fun hz2 => ?_)
  refine J_if_eq C (rg01 hz2) (tgt := 17) dX9_valueAt_5 (by decide) h (fun h c5 => ?_) (fun h c5 => ?_)
  · refine J_lconst0 C dX9_valueAt_17 ?_
    have e9 := sE h
    subst e9
    exact J_lret C E trivial dX9_valueAt_18
  · refine J_aload_n C 0 dX9_valueAt_8 rfl 0 rfl ?_
    refine J_getR C fl_RX9_9 h0.1 rfl dX9_valueAt_9 ?_
    refine J_iload_n C 1 dX9_valueAt_12 rfl 1 rfl ?_
    refine J_lald C h0.2.2.1 dX9_valueAt_13 h (fun v3 h => ?_)
    refine J_goto C (tgt := 18) dX9_valueAt_14 (by decide) ?_
    have e9 := sE h
    subst e9
    exact J_lret C E trivial dX9_valueAt_18
set_option maxRecDepth 100000 in
set_option maxHeartbeats 4000000 in
theorem m_X9_numberAt (l : Launch) (g : Gm) (hg : gInj yC g) (x0 : Nat) (h0 : isTape x0) (x1 : Int) (h1 : rg x1) (σ : Sg) (hσ : wfS yC σ) (q : Int) (h : fX9_numberAt x0 x1 σ = some q) : CJ l yC g yX9_numberAt cX9_numberAt 2 (some .int) 2 42 [.ref (gad g x0), vi x1] σ (some (vi q)) σ (rg q) := by
  refine CJ_of hg (by decide) rfl (Nat.le_of_ble_eq_true rfl) (lo := [(0, .ref (gad g x0)), (1, vi x1)]) rfl (fun x C E => ?_)
  unfold fX9_numberAt at h
  refine J_aload_n C 0 dX9_numberAt_0 rfl 0 rfl ?_
  refine J_iload_n C 1 dX9_numberAt_1 rfl 1 rfl ?_
  obtain ⟨q1, cq1, h⟩ := bdS h
  refine J_callV C mw_X9_valueAt ml_RX9_43 (m_X9_valueAt x.2.1 g (CxI C) x0 h0 x1 h1 σ hσ q1 cq1) h0.1 rfl (Nat.le_of_ble_eq_true rfl) (Nat.le_of_ble_eq_true rfl) rfl rfl (Nat.le_of_ble_eq_true rfl) dX9_numberAt_2 (fun hz2 => ?_)
  refine J_l2i C dX9_numberAt_5 ?_
  have e9 := sE h
  subst e9
  exact J_iret C E (rg_toInt _) dX9_numberAt_6
set_option maxRecDepth 100000 in
set_option maxHeartbeats 4000000 in
theorem m_X6_moveOn (l : Launch) (g : Gm) (hg : gInj yC g) (x1 : Int) (h1 : rg x1) (σ : Sg) (hσ : wfS yC σ) (q : Int × Sg) (h : fX6_moveOn x1 σ = some q) : CJ l yC g yX6_moveOn cX6_moveOn 2 (some .boolean) 0 0 [.ref (gad g 24), vi x1] σ (some (vi q.1)) q.2 ((q.1 = 0 ∨ q.1 = 1) ∧ wfS yC q.2) := by
  refine CJ_of hg (by decide) rfl (Nat.le_of_ble_eq_true rfl) (lo := [(0, .ref (gad g 24)), (1, vi x1)]) rfl (fun x C E => ?_)
  unfold fX6_moveOn at h
  refine J_iload_n C 1 dX6_moveOn_0 rfl 1 rfl ?_
  refine J_iconst C dX6_moveOn_1 ?_
  refine J_icmp_lt C h1 rl_1 (tgt := 11) dX6_moveOn_2 (by decide) h (fun h c8 => ?_) (fun h c8 => ?_)
  · refine J_iconst C dX6_moveOn_11 ?_
    have e9 := sE h
    subst e9
    exact J_zret C (Or.inl rfl) E ⟨(Or.inl rfl), hσ⟩ dX6_moveOn_12
  · refine J_iload_n C 1 dX6_moveOn_5 rfl 1 rfl ?_
    refine J_bipush C dX6_moveOn_6 (bp8 (by decide) (by decide)) ?_
    refine J_icmp_le C h1 rl_50 (tgt := 13) dX6_moveOn_8 (by decide) h (fun h c7 => ?_) (fun h c7 => ?_)
    · refine J_aload_n C 0 dX6_moveOn_13 rfl 0 rfl ?_
      refine J_dup C rfl dX6_moveOn_14 ?_
      refine J_getI C fl_RX6_36 oC_24 rfl dX6_moveOn_15 ?_
      refine J_iload_n C 1 dX6_moveOn_18 rfl 1 rfl ?_
      refine J_aload_n C 0 dX6_moveOn_19 rfl 0 rfl ?_
      refine J_getI C fl_RX6_39 oC_24 rfl dX6_moveOn_20 ?_
      refine J_imul C dX6_moveOn_23 h (fun v1 hv2 h => ?_)
      refine J_iadd C dX6_moveOn_24 h (fun v3 hv4 h => ?_)
      refine J_putI C fl_RX6_36 fp_RX6_5 oC_24 rfl rfl lC_24 hσ hv4 dX6_moveOn_25 h (fun σ5 hσ6 h => ?_)
      refine J_iconst C dX6_moveOn_28 ?_
      have e9 := sE h
      subst e9
      exact J_zret C (Or.inr rfl) E ⟨(Or.inr rfl), hσ6⟩ dX6_moveOn_29
    · refine J_iconst C dX6_moveOn_11 ?_
      have e9 := sE h
      subst e9
      exact J_zret C (Or.inl rfl) E ⟨(Or.inl rfl), hσ⟩ dX6_moveOn_12
set_option maxRecDepth 100000 in
set_option maxHeartbeats 4000000 in
theorem m_X6_enter (l : Launch) (g : Gm) (hg : gInj yC g) (x1 : Int) (h1 : rg x1) (x2 : Int) (h2 : rg x2) (σ : Sg) (hσ : wfS yC σ) (q : Int × Sg) (h : fX6_enter x1 x2 σ = some q) : CJ l yC g yX6_enter cX6_enter 3 (some .boolean) 0 0 [.ref (gad g 24), vi x1, vi x2] σ (some (vi q.1)) q.2 ((q.1 = 0 ∨ q.1 = 1) ∧ wfS yC q.2) := by
  refine CJ_of hg (by decide) rfl (Nat.le_of_ble_eq_true rfl) (lo := [(0, .ref (gad g 24)), (1, vi x1), (2, vi x2)]) rfl (fun x C E => ?_)
  unfold fX6_enter at h
  refine J_iload_n C 1 dX6_enter_0 rfl 1 rfl ?_
  refine J_iconst C dX6_enter_1 ?_
  refine J_icmp_lt C h1 rl_2 (tgt := 26) dX6_enter_2 (by decide) h (fun h c14 => ?_) (fun h c14 => ?_)
  · refine J_iconst C dX6_enter_26 ?_
    have e9 := sE h
    subst e9
    exact J_zret C (Or.inl rfl) E ⟨(Or.inl rfl), hσ⟩ dX6_enter_27
  · refine J_iload_n C 1 dX6_enter_5 rfl 1 rfl ?_
    refine J_bipush C dX6_enter_6 (bp8 (by decide) (by decide)) ?_
    refine J_icmp_gt C h1 rl_9 (tgt := 26) dX6_enter_8 (by decide) h (fun h c13 => ?_) (fun h c13 => ?_)
    · refine J_aload_n C 0 dX6_enter_11 rfl 0 rfl ?_
      refine J_getI C fl_RX6_33 oC_24 rfl dX6_enter_12 ?_
      refine J_if_lt C (hσ 24 4 lC_24) (tgt := 26) dX6_enter_15 (by decide) h (fun h c12 => ?_) (fun h c12 => ?_)
      · refine J_iconst C dX6_enter_26 ?_
        have e9 := sE h
        subst e9
        exact J_zret C (Or.inl rfl) E ⟨(Or.inl rfl), hσ⟩ dX6_enter_27
      · refine J_aload_n C 0 dX6_enter_18 rfl 0 rfl ?_
        refine J_getI C fl_RX6_33 oC_24 rfl dX6_enter_19 ?_
        refine J_iconst C dX6_enter_22 ?_
        refine J_icmp_lt C (hσ 24 4 lC_24) rl_3 (tgt := 28) dX6_enter_23 (by decide) h (fun h c11 => ?_) (fun h c11 => ?_)
        · refine J_aload_n C 0 dX6_enter_28 rfl 0 rfl ?_
          refine J_getR C fl_RX6_18 oC_24 rfl dX6_enter_29 ?_
          refine J_aload_n C 0 dX6_enter_32 rfl 0 rfl ?_
          refine J_getI C fl_RX6_33 oC_24 rfl dX6_enter_33 ?_
          refine J_iload_n C 2 dX6_enter_36 rfl 2 rfl ?_
          refine J_iast C aC_30 hσ h2 dX6_enter_37 h (fun σ1 hσ2 h => ?_)
          refine J_aload_n C 0 dX6_enter_38 rfl 0 rfl ?_
          refine J_getR C fl_RX6_22 oC_24 rfl dX6_enter_39 ?_
          refine J_aload_n C 0 dX6_enter_42 rfl 0 rfl ?_
          refine J_getI C fl_RX6_33 oC_24 rfl dX6_enter_43 ?_
          refine J_iload_n C 1 dX6_enter_46 rfl 1 rfl ?_
          refine J_iconst C dX6_enter_47 ?_
          refine J_isub C dX6_enter_48 h (fun v3 hv4 h => ?_)
          refine J_iast C aC_31 hσ2 hv4 dX6_enter_49 h (fun σ5 hσ6 h => ?_)
          refine J_aload_n C 0 dX6_enter_50 rfl 0 rfl ?_
          refine J_dup C rfl dX6_enter_51 ?_
          refine J_getI C fl_RX6_33 oC_24 rfl dX6_enter_52 ?_
          refine J_iconst C dX6_enter_55 ?_
          refine J_iadd C dX6_enter_56 h (fun v7 hv8 h => ?_)
          refine J_putI C fl_RX6_33 fp_RX6_4 oC_24 rfl rfl lC_24 hσ6 hv8 dX6_enter_57 h (fun σ9 hσ10 h => ?_)
          refine J_iconst C dX6_enter_60 ?_
          have e9 := sE h
          subst e9
          exact J_zret C (Or.inr rfl) E ⟨(Or.inr rfl), hσ10⟩ dX6_enter_61
        · refine J_iconst C dX6_enter_26 ?_
          have e9 := sE h
          subst e9
          exact J_zret C (Or.inl rfl) E ⟨(Or.inl rfl), hσ⟩ dX6_enter_27
    · refine J_iconst C dX6_enter_26 ?_
      have e9 := sE h
      subst e9
      exact J_zret C (Or.inl rfl) E ⟨(Or.inl rfl), hσ⟩ dX6_enter_27
set_option maxRecDepth 100000 in
set_option maxHeartbeats 4000000 in
theorem m_X6_leave (l : Launch) (g : Gm) (hg : gInj yC g) (x1 : Int) (h1 : rg x1) (σ : Sg) (hσ : wfS yC σ) (q : Int × Sg) (h : fX6_leave x1 σ = some q) : CJ l yC g yX6_leave cX6_leave 3 (some .int) 0 0 [.ref (gad g 24), vi x1] σ (some (vi q.1)) q.2 ((rg q.1) ∧ wfS yC q.2) := by
  refine CJ_of hg (by decide) rfl (Nat.le_of_ble_eq_true rfl) (lo := [(0, .ref (gad g 24)), (1, vi x1)]) rfl (fun x C E => ?_)
  unfold fX6_leave at h
  refine J_aload_n C 0 dX6_leave_0 rfl 0 rfl ?_
  refine J_getI C fl_RX6_33 oC_24 rfl dX6_leave_1 ?_
  refine J_iconst C dX6_leave_4 ?_
  refine J_isub C dX6_leave_5 h (fun v1 hv2 h => ?_)
  refine J_istore_n (lo2 := [(2, vi v1), (0, .ref (gad g 24)), (1, vi x1)]) C 2 dX6_leave_6 rfl (by decide) rfl ?_
  refine J_iload_n C 2 dX6_leave_7 rfl 0 rfl ?_
  refine J_if_lt C hv2 (tgt := 16) dX6_leave_8 (by decide) h (fun h c17 => ?_) (fun h c17 => ?_)
  · refine J_bipush C dX6_leave_16 (bp8 (by decide) (by decide)) ?_
    have e9 := sE h
    subst e9
    exact J_iret C E ⟨rl_m2, hσ⟩ dX6_leave_18
  · refine J_iload_n C 2 dX6_leave_11 rfl 0 rfl ?_
    refine J_iconst C dX6_leave_12 ?_
    refine J_icmp_lt C hv2 rl_3 (tgt := 19) dX6_leave_13 (by decide) h (fun h c16 => ?_) (fun h c16 => ?_)
    · refine J_aload_n C 0 dX6_leave_19 rfl 1 rfl ?_
      refine J_getR C fl_RX6_22 oC_24 rfl dX6_leave_20 ?_
      refine J_iload_n C 2 dX6_leave_23 rfl 0 rfl ?_
      refine J_iald C aC_31 hσ dX6_leave_24 h (fun v3 hv4 h => ?_)
      refine J_if_le C hv4 (tgt := 45) dX6_leave_25 (by decide) h (fun h c15 => ?_) (fun h c15 => ?_)
      · refine J_aload_n C 0 dX6_leave_45 rfl 1 rfl ?_
        refine J_iload_n C 2 dX6_leave_46 rfl 0 rfl ?_
        refine J_putI C fl_RX6_33 fp_RX6_4 oC_24 rfl rfl lC_24 hσ hv2 dX6_leave_47 h (fun σ5 hσ6 h => ?_)
        refine J_iload_n C 1 dX6_leave_50 rfl 2 rfl ?_
        have e9 := sE h
        subst e9
        exact J_iret C E ⟨h1, hσ6⟩ dX6_leave_51
      · refine J_aload_n C 0 dX6_leave_28 rfl 1 rfl ?_
        refine J_getR C fl_RX6_22 oC_24 rfl dX6_leave_29 ?_
        refine J_iload_n C 2 dX6_leave_32 rfl 0 rfl ?_
        refine J_dup2 C rfl rfl dX6_leave_33 ?_
        refine J_iald C aC_31 hσ dX6_leave_34 h (fun v7 hv8 h => ?_)
        refine J_iconst C dX6_leave_35 ?_
        refine J_isub C dX6_leave_36 h (fun v9 hv10 h => ?_)
        refine J_iast C aC_31 hσ hv10 dX6_leave_37 h (fun σ11 hσ12 h => ?_)
        refine J_aload_n C 0 dX6_leave_38 rfl 1 rfl ?_
        refine J_getR C fl_RX6_18 oC_24 rfl dX6_leave_39 ?_
        refine J_iload_n C 2 dX6_leave_42 rfl 0 rfl ?_
        refine J_iald C aC_30 hσ12 dX6_leave_43 h (fun v13 hv14 h => ?_)
        have e9 := sE h
        subst e9
        exact J_iret C E ⟨hv14, hσ12⟩ dX6_leave_44
    · refine J_bipush C dX6_leave_16 (bp8 (by decide) (by decide)) ?_
      have e9 := sE h
      subst e9
      exact J_iret C E ⟨rl_m2, hσ⟩ dX6_leave_18
