set_option maxRecDepth 100000 in
set_option maxHeartbeats 4000000 in
theorem m_X7_kindHad (l : Launch) (g : Gm) (hg : gInj yC g) (x1 : Int) (h1 : rg x1) (σ : Sg) (hσ : wfS yC σ) (q : Int) (h : fX7_kindHad x1 σ = some q) : CJ l yC g yX7_kindHad cX7_kindHad 2 (some .int) 0 0 [.ref (gad g 48), vi x1] σ (some (vi q)) σ (rg q) := by
  refine CJ_of hg (by decide) rfl (Nat.le_of_ble_eq_true rfl) (lo := [(0, .ref (gad g 48)), (1, vi x1)]) rfl (fun x C E => ?_)
  unfold fX7_kindHad at h
  refine J_iload_n C 1 dX7_kindHad_0 rfl 1 rfl ?_
  refine J_if_lt C h1 (tgt := 19) dX7_kindHad_1 (by decide) h (fun h c4 => ?_) (fun h c4 => ?_)
  · refine J_iconst C dX7_kindHad_19 ?_
    have e9 := sE h
    subst e9
    exact J_iret C E rl_m1 dX7_kindHad_20
  · refine J_iload_n C 1 dX7_kindHad_4 rfl 1 rfl ?_
    refine J_bipush C dX7_kindHad_5 (bp8 (by decide) (by decide)) ?_
    refine J_icmp_ge C h1 rl_120 (tgt := 19) dX7_kindHad_7 (by decide) h (fun h c3 => ?_) (fun h c3 => ?_)
    · refine J_aload_n C 0 dX7_kindHad_10 rfl 0 rfl ?_
      refine J_getR C fl_RX7_24 oC_48 rfl dX7_kindHad_11 ?_
      refine J_iload_n C 1 dX7_kindHad_14 rfl 1 rfl ?_
      refine J_iald C aC_53 hσ dX7_kindHad_15 h (fun v1 hv2 h => ?_)
      refine J_goto C (tgt := 20) dX7_kindHad_16 (by decide) ?_
      have e9 := sE h
      subst e9
      exact J_iret C E hv2 dX7_kindHad_20
    · refine J_iconst C dX7_kindHad_19 ?_
      have e9 := sE h
      subst e9
      exact J_iret C E rl_m1 dX7_kindHad_20
set_option maxRecDepth 100000 in
set_option maxHeartbeats 4000000 in
theorem m_X11_goes (l : Launch) (g : Gm) (hg : gInj yC g) (x1 : Int) (h1 : rg x1) (x2 : Int) (h2 : rg x2) (σ : Sg) (hσ : wfS yC σ) (q : Int × Sg) (h : fX11_goes x1 x2 σ = some q) : CJ l yC g yX11_goes cX11_goes 5 (some .int) 7 174 [.ref (gad g 0), vi x1, vi x2] σ (some (vi q.1)) q.2 ((rg q.1) ∧ wfS yC q.2) := by
  refine CJ_of hg (by decide) rfl (Nat.le_of_ble_eq_true rfl) (lo := [(0, .ref (gad g 0)), (1, vi x1), (2, vi x2)]) rfl (fun x C E => ?_)
  unfold fX11_goes at h
  have pc3 : ∀  (σ : Sg) (hσ : wfS yC σ), fX11_goes_P20  σ = some q → J x yC g 5 20 [] [] σ := by
    intro  σ hσ h
    unfold fX11_goes_P20 at h
    exact absurd h (by intro z; cases z)
  have pc8 : ∀  (σ : Sg) (hσ : wfS yC σ), fX11_goes_P67 x1 x2 σ = some q → J x yC g 5 67 [(0, .ref (gad g 0)), (1, vi x1), (2, vi x2)] [] σ := by
    intro  σ hσ h
    unfold fX11_goes_P67 at h
    refine J_aload_n C 0 dX11_goes_67 rfl 0 rfl ?_
    refine J_getR C fl_RX11_60 oC_0 rfl dX11_goes_68 ?_
    refine J_iload_n C 1 dX11_goes_71 rfl 1 rfl ?_
    obtain ⟨q9, cq9, h⟩ := bdS h
    refine J_callV C mw_X7_kindHad ml_RX11_301 (m_X7_kindHad x.2.1 g (CxI C) x1 h1 σ hσ q9 cq9) oC_48 rfl (Nat.le_of_ble_eq_true rfl) (Nat.le_of_ble_eq_true rfl) rfl rfl (Nat.le_of_ble_eq_true rfl) dX11_goes_72 (fun hz10 => ?_)
    refine J_istore (lo2 := [(4, vi q9), (0, .ref (gad g 0)), (1, vi x1), (2, vi x2)]) C 4 dX11_goes_75 (by decide) rfl ?_
    refine J_iload_n C 2 dX11_goes_77 rfl 3 rfl ?_
    rcases lt_or h with ⟨c17, h⟩ | ⟨c17, h⟩
    · refine J_lookup C (tgt := 104) h2 dX11_goes_78 (by decide +kernel) (26) (by rw [c17]; rfl) (by decide) ?_
      refine J_iload C 4 dX11_goes_104 0 rfl ?_
      have e9 := sE h
      subst e9
      exact J_iret C E ⟨hz10, hσ⟩ dX11_goes_106
    · rcases lt_or h with ⟨c18, h⟩ | ⟨c18, h⟩
      · refine J_lookup C (tgt := 107) h2 dX11_goes_78 (by decide +kernel) (29) (by rw [c18]; rfl) (by decide) ?_
        refine J_aload_n C 0 dX11_goes_107 rfl 1 rfl ?_
        refine J_getR C fl_RX11_19 oC_0 rfl dX11_goes_108 ?_
        refine J_iload_n C 1 dX11_goes_111 rfl 2 rfl ?_
        obtain ⟨q19, cq19, h⟩ := bdS h
        refine J_callV C mw_X1_burstOf ml_RX11_207 (m_X1_burstOf x.2.1 g (CxI C) 19 cues_19 x1 h1 σ hσ q19 cq19) cues_19.1 rfl (Nat.le_of_ble_eq_true rfl) (Nat.le_of_ble_eq_true rfl) rfl rfl (Nat.le_of_ble_eq_true rfl) dX11_goes_112 (fun hz20 => ?_)
        refine J_aload_n C 0 dX11_goes_115 rfl 1 rfl ?_
        refine J_getR C fl_RX11_10 oC_0 rfl dX11_goes_116 ?_
        refine J_getR C fl_RX11_115 oC_1 rfl dX11_goes_119 ?_
        refine J_iload C 4 dX11_goes_122 0 rfl ?_
        obtain ⟨q21, cq21, h⟩ := bdS h
        refine J_callV C mw_X2_liftOf ml_RX11_227 (m_X2_liftOf x.2.1 g (CxI C) q9 hz10 σ hσ q21 cq21) oC_6 rfl (Nat.le_of_ble_eq_true rfl) (Nat.le_of_ble_eq_true rfl) rfl rfl (Nat.le_of_ble_eq_true rfl) dX11_goes_124 (fun hz22 => ?_)
        refine J_isub C dX11_goes_127 h (fun v23 hv24 h => ?_)
        have e9 := sE h
        subst e9
        exact J_iret C E ⟨hv24, hσ⟩ dX11_goes_128
      · refine J_lookup C (tgt := 129) h2 dX11_goes_78 (by decide +kernel) (51) (lk2 c17 c18) (by decide) ?_
        refine J_aload_n C 0 dX11_goes_129 rfl 1 rfl ?_
        refine J_getR C fl_RX11_19 oC_0 rfl dX11_goes_130 ?_
        refine J_iload_n C 1 dX11_goes_133 rfl 2 rfl ?_
        obtain ⟨q11, cq11, h⟩ := bdS h
        refine J_callV C mw_X1_burstOf ml_RX11_207 (m_X1_burstOf x.2.1 g (CxI C) 19 cues_19 x1 h1 σ hσ q11 cq11) cues_19.1 rfl (Nat.le_of_ble_eq_true rfl) (Nat.le_of_ble_eq_true rfl) rfl rfl (Nat.le_of_ble_eq_true rfl) dX11_goes_134 (fun hz12 => ?_)
        refine J_aload_n C 0 dX11_goes_137 rfl 1 rfl ?_
        refine J_getR C fl_RX11_60 oC_0 rfl dX11_goes_138 ?_
        refine J_iload_n C 1 dX11_goes_141 rfl 2 rfl ?_
        obtain ⟨q13, cq13, h⟩ := bdS h
        refine J_callV C mw_X7_faultOf ml_RX11_282 (m_X7_faultOf x.2.1 g (CxI C) x1 h1 σ hσ q13 cq13) oC_48 rfl (Nat.le_of_ble_eq_true rfl) (Nat.le_of_ble_eq_true rfl) rfl rfl (Nat.le_of_ble_eq_true rfl) dX11_goes_142 (fun hz14 => ?_)
        refine J_iadd C dX11_goes_145 h (fun v15 hv16 h => ?_)
        have e9 := sE h
        subst e9
        exact J_iret C E ⟨hv16, hσ⟩ dX11_goes_146
  refine J_aload_n C 0 dX11_goes_0 rfl 0 rfl ?_
  refine J_getR C fl_RX11_19 oC_0 rfl dX11_goes_1 ?_
  refine J_iload_n C 1 dX11_goes_4 rfl 1 rfl ?_
  obtain ⟨q1, cq1, h⟩ := bdS h
  refine J_callV C mw_X1_isCue ml_RX11_199 (m_X1_isCue x.2.1 g (CxI C) 19 cues_19 x1 h1 σ hσ q1 cq1) cues_19.1 rfl (Nat.le_of_ble_eq_true rfl) (Nat.le_of_ble_eq_true rfl) rfl rfl (Nat.le_of_ble_eq_true rfl) dX11_goes_5 (fun hz2 => ?_)
  refine J_if_eq C (rg01 hz2) (tgt := 20) dX11_goes_8 (by decide) h (fun h c45 => ?_) (fun h c45 => ?_)
  · exact J_sub [] rfl (pc3 σ hσ h)
  · refine J_iload_n C 2 dX11_goes_11 rfl 2 rfl ?_
    refine J_if_lt C h2 (tgt := 20) dX11_goes_12 (by decide) h (fun h c44 => ?_) (fun h c44 => ?_)
    · exact J_sub [] rfl (pc3 σ hσ h)
    · refine J_iload_n C 2 dX11_goes_15 rfl 2 rfl ?_
      refine J_iconst C dX11_goes_16 ?_
      refine J_icmp_le C h2 rl_2 (tgt := 31) dX11_goes_17 (by decide) h (fun h c43 => ?_) (fun h c43 => ?_)
      · refine J_aload_n C 0 dX11_goes_31 rfl 0 rfl ?_
        refine J_getR C fl_RX11_60 oC_0 rfl dX11_goes_32 ?_
        obtain ⟨q4, cq4, h⟩ := bdS h
        refine J_callV C mw_X7_reckon ml_RX11_291 (m_X7_reckon x.2.1 g (CxI C) σ hσ q4 cq4) oC_48 rfl (Nat.le_of_ble_eq_true rfl) (Nat.le_of_ble_eq_true rfl) rfl rfl (Nat.le_of_ble_eq_true rfl) dX11_goes_35 (fun hz5 => ?_)
        refine J_aload_n C 0 dX11_goes_38 rfl 0 rfl ?_
        refine J_getR C fl_RX11_60 oC_0 rfl dX11_goes_39 ?_
        refine J_iload_n C 1 dX11_goes_42 rfl 1 rfl ?_
        obtain ⟨q6, cq6, h⟩ := bdS h
        refine J_callV C mw_X7_fateOf ml_RX11_294 (m_X7_fateOf x.2.1 g (CxI C) x1 h1 q4 hz5 q6 cq6) oC_48 rfl (Nat.le_of_ble_eq_true rfl) (Nat.le_of_ble_eq_true rfl) rfl rfl (Nat.le_of_ble_eq_true rfl) dX11_goes_43 (fun hz7 => ?_)
        refine J_istore_n (lo2 := [(3, vi q6), (0, .ref (gad g 0)), (1, vi x1), (2, vi x2)]) C 3 dX11_goes_46 rfl (by decide) rfl ?_
        refine J_iload_n C 3 dX11_goes_47 rfl 0 rfl ?_
        refine J_if_eq C hz7 (tgt := 67) dX11_goes_48 (by decide) h (fun h c42 => ?_) (fun h c42 => ?_)
        · exact J_sub [1, 2, 3] rfl (pc8 q4 hz5 h)
        · refine J_iload_n C 3 dX11_goes_51 rfl 0 rfl ?_
          refine J_iconst C dX11_goes_52 ?_
          refine J_icmp_eq C hz7 rl_1 (tgt := 67) dX11_goes_53 (by decide) h (fun h c41 => ?_) (fun h c41 => ?_)
          · exact J_sub [1, 2, 3] rfl (pc8 q4 hz5 h)
          · exact absurd h (by intro z; cases z)
      · exact J_sub [] rfl (pc3 σ hσ h)
set_option maxRecDepth 100000 in
set_option maxHeartbeats 4000000 in
theorem t_X11_goesT (l : Launch) (g : Gm) (hg : gInj yC g) (hlt : l.stackTraces = false) (x1 : Int) (h1 : rg x1) (x2 : Int) (h2 : rg x2) (σ : Sg) (hσ : wfS yC σ) (q : Int × Sg) (h : fX11_goesT x1 x2 σ = some q) : TJ l yC g yX11_goes cX11_goes 5 (some .int) 7 174 [.ref (gad g 0), vi x1, vi x2] σ (exName q.1) q.2 (wfS yC q.2) := by
  refine TJ_of hg (by decide) rfl (Nat.le_of_ble_eq_true rfl) (lo := [(0, .ref (gad g 0)), (1, vi x1), (2, vi x2)]) rfl (fun x C E hxl => ?_)
  unfold fX11_goesT at h
  have pc3 : ∀  (σ : Sg) (hσ : wfS yC σ), fX11_goesT_P20  σ = some q → J x yC g 5 20 [] [] σ := by
    intro  σ hσ h
    unfold fX11_goesT_P20 at h
    have e9 := sE h
    subst e9
    exact J_throwW C (by rw [hxl]; exact hlt) ew_RX11_192_196 (List.mem_of_getElem? (i := 3) rfl) E hσ (Nat.le_of_ble_eq_true rfl) (Nat.le_of_ble_eq_true rfl) (Nat.le_of_ble_eq_true rfl) dX11_goes_20 dX11_goes_23 dX11_goes_24 dX11_goes_27 dX11_goes_30
  have pc8 : ∀  (σ : Sg) (hσ : wfS yC σ), fX11_goesT_P67 x1 x2 σ = some q → J x yC g 5 67 [(0, .ref (gad g 0)), (1, vi x1), (2, vi x2)] [] σ := by
    intro  σ hσ h
    unfold fX11_goesT_P67 at h
    refine J_aload_n C 0 dX11_goes_67 rfl 0 rfl ?_
    refine J_getR C fl_RX11_60 oC_0 rfl dX11_goes_68 ?_
    refine J_iload_n C 1 dX11_goes_71 rfl 1 rfl ?_
    obtain ⟨q9, cq9, h⟩ := bdS h
    refine J_callV C mw_X7_kindHad ml_RX11_301 (m_X7_kindHad x.2.1 g (CxI C) x1 h1 σ hσ q9 cq9) oC_48 rfl (Nat.le_of_ble_eq_true rfl) (Nat.le_of_ble_eq_true rfl) rfl rfl (Nat.le_of_ble_eq_true rfl) dX11_goes_72 (fun hz10 => ?_)
    refine J_istore (lo2 := [(4, vi q9), (0, .ref (gad g 0)), (1, vi x1), (2, vi x2)]) C 4 dX11_goes_75 (by decide) rfl ?_
    refine J_iload_n C 2 dX11_goes_77 rfl 3 rfl ?_
    rcases lt_or h with ⟨c17, h⟩ | ⟨c17, h⟩
    · refine J_lookup C (tgt := 104) h2 dX11_goes_78 (by decide +kernel) (26) (by rw [c17]; rfl) (by decide) ?_
      refine J_iload C 4 dX11_goes_104 0 rfl ?_
      exact absurd h (by intro z; cases z)
    · rcases lt_or h with ⟨c18, h⟩ | ⟨c18, h⟩
      · refine J_lookup C (tgt := 107) h2 dX11_goes_78 (by decide +kernel) (29) (by rw [c18]; rfl) (by decide) ?_
        refine J_aload_n C 0 dX11_goes_107 rfl 1 rfl ?_
        refine J_getR C fl_RX11_19 oC_0 rfl dX11_goes_108 ?_
        refine J_iload_n C 1 dX11_goes_111 rfl 2 rfl ?_
        obtain ⟨q19, cq19, h⟩ := bdS h
        refine J_callV C mw_X1_burstOf ml_RX11_207 (m_X1_burstOf x.2.1 g (CxI C) 19 cues_19 x1 h1 σ hσ q19 cq19) cues_19.1 rfl (Nat.le_of_ble_eq_true rfl) (Nat.le_of_ble_eq_true rfl) rfl rfl (Nat.le_of_ble_eq_true rfl) dX11_goes_112 (fun hz20 => ?_)
        refine J_aload_n C 0 dX11_goes_115 rfl 1 rfl ?_
        refine J_getR C fl_RX11_10 oC_0 rfl dX11_goes_116 ?_
        refine J_getR C fl_RX11_115 oC_1 rfl dX11_goes_119 ?_
        refine J_iload C 4 dX11_goes_122 0 rfl ?_
        obtain ⟨q21, cq21, h⟩ := bdS h
        refine J_callV C mw_X2_liftOf ml_RX11_227 (m_X2_liftOf x.2.1 g (CxI C) q9 hz10 σ hσ q21 cq21) oC_6 rfl (Nat.le_of_ble_eq_true rfl) (Nat.le_of_ble_eq_true rfl) rfl rfl (Nat.le_of_ble_eq_true rfl) dX11_goes_124 (fun hz22 => ?_)
        refine J_isub C dX11_goes_127 h (fun v23 hv24 h => ?_)
        exact absurd h (by intro z; cases z)
      · refine J_lookup C (tgt := 129) h2 dX11_goes_78 (by decide +kernel) (51) (lk2 c17 c18) (by decide) ?_
        refine J_aload_n C 0 dX11_goes_129 rfl 1 rfl ?_
        refine J_getR C fl_RX11_19 oC_0 rfl dX11_goes_130 ?_
        refine J_iload_n C 1 dX11_goes_133 rfl 2 rfl ?_
        obtain ⟨q11, cq11, h⟩ := bdS h
        refine J_callV C mw_X1_burstOf ml_RX11_207 (m_X1_burstOf x.2.1 g (CxI C) 19 cues_19 x1 h1 σ hσ q11 cq11) cues_19.1 rfl (Nat.le_of_ble_eq_true rfl) (Nat.le_of_ble_eq_true rfl) rfl rfl (Nat.le_of_ble_eq_true rfl) dX11_goes_134 (fun hz12 => ?_)
        refine J_aload_n C 0 dX11_goes_137 rfl 1 rfl ?_
        refine J_getR C fl_RX11_60 oC_0 rfl dX11_goes_138 ?_
        refine J_iload_n C 1 dX11_goes_141 rfl 2 rfl ?_
        obtain ⟨q13, cq13, h⟩ := bdS h
        refine J_callV C mw_X7_faultOf ml_RX11_282 (m_X7_faultOf x.2.1 g (CxI C) x1 h1 σ hσ q13 cq13) oC_48 rfl (Nat.le_of_ble_eq_true rfl) (Nat.le_of_ble_eq_true rfl) rfl rfl (Nat.le_of_ble_eq_true rfl) dX11_goes_142 (fun hz14 => ?_)
        refine J_iadd C dX11_goes_145 h (fun v15 hv16 h => ?_)
        exact absurd h (by intro z; cases z)
  refine J_aload_n C 0 dX11_goes_0 rfl 0 rfl ?_
  refine J_getR C fl_RX11_19 oC_0 rfl dX11_goes_1 ?_
  refine J_iload_n C 1 dX11_goes_4 rfl 1 rfl ?_
  obtain ⟨q1, cq1, h⟩ := bdS h
  refine J_callV C mw_X1_isCue ml_RX11_199 (m_X1_isCue x.2.1 g (CxI C) 19 cues_19 x1 h1 σ hσ q1 cq1) cues_19.1 rfl (Nat.le_of_ble_eq_true rfl) (Nat.le_of_ble_eq_true rfl) rfl rfl (Nat.le_of_ble_eq_true rfl) dX11_goes_5 (fun hz2 => ?_)
  refine J_if_eq C (rg01 hz2) (tgt := 20) dX11_goes_8 (by decide) h (fun h c45 => ?_) (fun h c45 => ?_)
  · exact J_sub [] rfl (pc3 σ hσ h)
  · refine J_iload_n C 2 dX11_goes_11 rfl 2 rfl ?_
    refine J_if_lt C h2 (tgt := 20) dX11_goes_12 (by decide) h (fun h c44 => ?_) (fun h c44 => ?_)
    · exact J_sub [] rfl (pc3 σ hσ h)
    · refine J_iload_n C 2 dX11_goes_15 rfl 2 rfl ?_
      refine J_iconst C dX11_goes_16 ?_
      refine J_icmp_le C h2 rl_2 (tgt := 31) dX11_goes_17 (by decide) h (fun h c43 => ?_) (fun h c43 => ?_)
      · refine J_aload_n C 0 dX11_goes_31 rfl 0 rfl ?_
        refine J_getR C fl_RX11_60 oC_0 rfl dX11_goes_32 ?_
        obtain ⟨q4, cq4, h⟩ := bdS h
        refine J_callV C mw_X7_reckon ml_RX11_291 (m_X7_reckon x.2.1 g (CxI C) σ hσ q4 cq4) oC_48 rfl (Nat.le_of_ble_eq_true rfl) (Nat.le_of_ble_eq_true rfl) rfl rfl (Nat.le_of_ble_eq_true rfl) dX11_goes_35 (fun hz5 => ?_)
        refine J_aload_n C 0 dX11_goes_38 rfl 0 rfl ?_
        refine J_getR C fl_RX11_60 oC_0 rfl dX11_goes_39 ?_
        refine J_iload_n C 1 dX11_goes_42 rfl 1 rfl ?_
        obtain ⟨q6, cq6, h⟩ := bdS h
        refine J_callV C mw_X7_fateOf ml_RX11_294 (m_X7_fateOf x.2.1 g (CxI C) x1 h1 q4 hz5 q6 cq6) oC_48 rfl (Nat.le_of_ble_eq_true rfl) (Nat.le_of_ble_eq_true rfl) rfl rfl (Nat.le_of_ble_eq_true rfl) dX11_goes_43 (fun hz7 => ?_)
        refine J_istore_n (lo2 := [(3, vi q6), (0, .ref (gad g 0)), (1, vi x1), (2, vi x2)]) C 3 dX11_goes_46 rfl (by decide) rfl ?_
        refine J_iload_n C 3 dX11_goes_47 rfl 0 rfl ?_
        refine J_if_eq C hz7 (tgt := 67) dX11_goes_48 (by decide) h (fun h c42 => ?_) (fun h c42 => ?_)
        · exact J_sub [1, 2, 3] rfl (pc8 q4 hz5 h)
        · refine J_iload_n C 3 dX11_goes_51 rfl 0 rfl ?_
          refine J_iconst C dX11_goes_52 ?_
          refine J_icmp_eq C hz7 rl_1 (tgt := 67) dX11_goes_53 (by decide) h (fun h c41 => ?_) (fun h c41 => ?_)
          · exact J_sub [1, 2, 3] rfl (pc8 q4 hz5 h)
          · have e9 := sE h
            subst e9
            exact J_throwW C (by rw [hxl]; exact hlt) ew_RX11_202_206 (List.mem_of_getElem? (i := 4) rfl) E hz5 (Nat.le_of_ble_eq_true rfl) (Nat.le_of_ble_eq_true rfl) (Nat.le_of_ble_eq_true rfl) dX11_goes_56 dX11_goes_59 dX11_goes_60 dX11_goes_63 dX11_goes_66
      · exact J_sub [] rfl (pc3 σ hσ h)
set_option maxRecDepth 100000 in
set_option maxHeartbeats 4000000 in
theorem wX11_many_L23 {x : Ct} {g : Gm} (C : Cx x yC g 4 cX11_many RX11 7 174) : ∀ (n : Nat) (x1 : Int) (h1 : rg x1) (x2 : Int) (h2 : rg x2) (x3 : Int) (h3 : rg x3) (σ : Sg) (hσ : wfS yC σ) (q : Int) (h : fX11_many_L23 n x1 x2 x3 σ = some q) (k : rg q → J x yC g 4 55 [(2, vi q)] [] σ), J x yC g 4 23 [(0, .ref (gad g 0)), (1, vi x1), (2, vi x2), (3, vi x3)] [] σ := by
  intro n
  induction n with
  | zero =>
    intro x1 h1 x2 h2 x3 h3 σ hσ q h k
    exact absurd h (by intro z; cases z)
  | succ n ih =>
    intro x1 h1 x2 h2 x3 h3 σ hσ q h k
    rw [fX11_many_L23] at h
    have pc5 : ∀ (x2 : Int) (h2 : rg x2) (x3 : Int) (h3 : rg x3), fX11_many_L23P49 (fX11_many_L23 n) x1 x2 x3 σ = some q → J x yC g 4 49 [(0, .ref (gad g 0)), (1, vi x1), (2, vi x2), (3, vi x3)] [] σ := by
      intro x2 h2 x3 h3 h
      unfold fX11_many_L23P49 at h
      refine J_iinc C 3 3 dX11_many_49 rfl (by decide) h (fun v6 hv7 h => ?_)
      refine J_goto C (tgt := 23) dX11_many_52 (by decide) ?_
      exact J_sub [1, 2, 3, 0] rfl (ih x1 h1 x2 h2 v6 hv7 σ hσ q h k)
    refine J_iload_n C 3 dX11_many_23 rfl 3 rfl ?_
    refine J_aload_n C 0 dX11_many_24 rfl 0 rfl ?_
    refine J_getR C fl_RX11_19 oC_0 rfl dX11_many_25 ?_
    refine J_getI C fl_RX11_90 cues_19.1 rfl dX11_many_28 ?_
    refine J_icmp_ge C h3 (hσ 19 4 cues_19.2.1) (tgt := 55) dX11_many_31 (by decide) h (fun h c13 => ?_) (fun h c13 => ?_)
    · refine J_aload_n C 0 dX11_many_34 rfl 0 rfl ?_
      refine J_getR C fl_RX11_60 oC_0 rfl dX11_many_35 ?_
      refine J_iload_n C 3 dX11_many_38 rfl 3 rfl ?_
      obtain ⟨q3, cq3, h⟩ := bdS h
      refine J_callV C mw_X7_fateOf ml_RX11_294 (m_X7_fateOf x.2.1 g (CxI C) x3 h3 σ hσ q3 cq3) oC_48 rfl (Nat.le_of_ble_eq_true rfl) (Nat.le_of_ble_eq_true rfl) rfl rfl (Nat.le_of_ble_eq_true rfl) dX11_many_39 (fun hz4 => ?_)
      refine J_iload_n C 1 dX11_many_42 rfl 1 rfl ?_
      refine J_icmp_ne C hz4 h1 (tgt := 49) dX11_many_43 (by decide) h (fun h c12 => ?_) (fun h c12 => ?_)
      · refine J_iinc C 2 2 dX11_many_46 rfl (by decide) h (fun v10 hv11 h => ?_)
        exact J_sub [1, 2, 0, 3] rfl (pc5 v10 hv11 x3 h3 h)
      · exact J_sub [0, 1, 2, 3] rfl (pc5 x2 h2 x3 h3 h)
    · have e9 := sE h
      subst e9
      exact J_sub [2] rfl (k h2)
set_option maxRecDepth 100000 in
set_option maxHeartbeats 4000000 in
theorem m_X11_many (l : Launch) (g : Gm) (hg : gInj yC g) (x1 : Int) (h1 : rg x1) (σ : Sg) (hσ : wfS yC σ) (q : Int × Sg) (h : fX11_many x1 σ = some q) : CJ l yC g yX11_many cX11_many 4 (some .int) 7 174 [.ref (gad g 0), vi x1] σ (some (vi q.1)) q.2 ((rg q.1) ∧ wfS yC q.2) := by
  refine CJ_of hg (by decide) rfl (Nat.le_of_ble_eq_true rfl) (lo := [(0, .ref (gad g 0)), (1, vi x1)]) rfl (fun x C E => ?_)
  unfold fX11_many at h
  refine J_iload_n C 1 dX11_many_0 rfl 1 rfl ?_
  refine J_if_lt C h1 (tgt := 10) dX11_many_1 (by decide) h (fun h c17 => ?_) (fun h c17 => ?_)
  · refine J_iconst C dX11_many_10 ?_
    have e9 := sE h
    subst e9
    exact J_iret C E ⟨rl_m1, hσ⟩ dX11_many_11
  · refine J_iload_n C 1 dX11_many_4 rfl 1 rfl ?_
    refine J_bipush C dX11_many_5 (bp8 (by decide) (by decide)) ?_
    refine J_icmp_le C h1 rl_6 (tgt := 12) dX11_many_7 (by decide) h (fun h c16 => ?_) (fun h c16 => ?_)
    · refine J_aload_n C 0 dX11_many_12 rfl 0 rfl ?_
      refine J_getR C fl_RX11_60 oC_0 rfl dX11_many_13 ?_
      obtain ⟨q1, cq1, h⟩ := bdS h
      refine J_callV C mw_X7_reckon ml_RX11_291 (m_X7_reckon x.2.1 g (CxI C) σ hσ q1 cq1) oC_48 rfl (Nat.le_of_ble_eq_true rfl) (Nat.le_of_ble_eq_true rfl) rfl rfl (Nat.le_of_ble_eq_true rfl) dX11_many_16 (fun hz2 => ?_)
      refine J_iconst C dX11_many_19 ?_
      refine J_istore_n (lo2 := [(2, vi 0), (0, .ref (gad g 0)), (1, vi x1)]) C 2 dX11_many_20 rfl (by decide) rfl ?_
      refine J_iconst C dX11_many_21 ?_
      refine J_istore_n (lo2 := [(3, vi 0), (2, vi 0), (0, .ref (gad g 0)), (1, vi x1)]) C 3 dX11_many_22 rfl (by decide) rfl ?_
      obtain ⟨q14, cq14, h⟩ := bdS h
      refine J_sub [2, 3, 1, 0] rfl (wX11_many_L23 C fu x1 h1 0 rl_0 0 rl_0 q1 hz2 q14 cq14 (fun hr15 => ?_))
      refine J_iload_n C 2 dX11_many_55 rfl 0 rfl ?_
      have e9 := sE h
      subst e9
      exact J_iret C E ⟨hr15, hz2⟩ dX11_many_56
    · refine J_iconst C dX11_many_10 ?_
      have e9 := sE h
      subst e9
      exact J_iret C E ⟨rl_m1, hσ⟩ dX11_many_11
set_option maxRecDepth 100000 in
set_option maxHeartbeats 4000000 in
theorem m_X7_cueAt (l : Launch) (g : Gm) (hg : gInj yC g) (x1 : Int) (h1 : rg x1) (σ : Sg) (hσ : wfS yC σ) (q : Int) (h : fX7_cueAt x1 σ = some q) : CJ l yC g yX7_cueAt cX7_cueAt 2 (some .int) 0 0 [.ref (gad g 48), vi x1] σ (some (vi q)) σ (rg q) := by
  refine CJ_of hg (by decide) rfl (Nat.le_of_ble_eq_true rfl) (lo := [(0, .ref (gad g 48)), (1, vi x1)]) rfl (fun x C E => ?_)
  unfold fX7_cueAt at h
  refine J_iload_n C 1 dX7_cueAt_0 rfl 1 rfl ?_
  refine J_if_lt C h1 (tgt := 19) dX7_cueAt_1 (by decide) h (fun h c4 => ?_) (fun h c4 => ?_)
  · refine J_iconst C dX7_cueAt_19 ?_
    have e9 := sE h
    subst e9
    exact J_iret C E rl_m1 dX7_cueAt_20
  · refine J_iload_n C 1 dX7_cueAt_4 rfl 1 rfl ?_
    refine J_bipush C dX7_cueAt_5 (bp8 (by decide) (by decide)) ?_
    refine J_icmp_ge C h1 rl_120 (tgt := 19) dX7_cueAt_7 (by decide) h (fun h c3 => ?_) (fun h c3 => ?_)
    · refine J_aload_n C 0 dX7_cueAt_10 rfl 0 rfl ?_
      refine J_getR C fl_RX7_15 oC_48 rfl dX7_cueAt_11 ?_
      refine J_iload_n C 1 dX7_cueAt_14 rfl 1 rfl ?_
      refine J_iald C aC_50 hσ dX7_cueAt_15 h (fun v1 hv2 h => ?_)
      refine J_goto C (tgt := 20) dX7_cueAt_16 (by decide) ?_
      have e9 := sE h
      subst e9
      exact J_iret C E hv2 dX7_cueAt_20
    · refine J_iconst C dX7_cueAt_19 ?_
      have e9 := sE h
      subst e9
      exact J_iret C E rl_m1 dX7_cueAt_20
set_option maxRecDepth 100000 in
set_option maxHeartbeats 4000000 in
theorem m_X11_order (l : Launch) (g : Gm) (hg : gInj yC g) (x1 : Int) (h1 : rg x1) (σ : Sg) (hσ : wfS yC σ) (q : Int × Sg) (h : fX11_order x1 σ = some q) : CJ l yC g yX11_order cX11_order 2 (some .int) 7 174 [.ref (gad g 0), vi x1] σ (some (vi q.1)) q.2 ((rg q.1) ∧ wfS yC q.2) := by
  refine CJ_of hg (by decide) rfl (Nat.le_of_ble_eq_true rfl) (lo := [(0, .ref (gad g 0)), (1, vi x1)]) rfl (fun x C E => ?_)
  unfold fX11_order at h
  refine J_aload_n C 0 dX11_order_0 rfl 0 rfl ?_
  refine J_getR C fl_RX11_19 oC_0 rfl dX11_order_1 ?_
  refine J_iload_n C 1 dX11_order_4 rfl 1 rfl ?_
  obtain ⟨q1, cq1, h⟩ := bdS h
  refine J_callV C mw_X1_isCue ml_RX11_199 (m_X1_isCue x.2.1 g (CxI C) 19 cues_19 x1 h1 σ hσ q1 cq1) cues_19.1 rfl (Nat.le_of_ble_eq_true rfl) (Nat.le_of_ble_eq_true rfl) rfl rfl (Nat.le_of_ble_eq_true rfl) dX11_order_5 (fun hz2 => ?_)
  refine J_if_ne C (rg01 hz2) (tgt := 13) dX11_order_8 (by decide) h (fun h c7 => ?_) (fun h c7 => ?_)
  · refine J_iconst C dX11_order_11 ?_
    have e9 := sE h
    subst e9
    exact J_iret C E ⟨rl_m1, hσ⟩ dX11_order_12
  · refine J_aload_n C 0 dX11_order_13 rfl 0 rfl ?_
    refine J_getR C fl_RX11_60 oC_0 rfl dX11_order_14 ?_
    obtain ⟨q3, cq3, h⟩ := bdS h
    refine J_callV C mw_X7_reckon ml_RX11_291 (m_X7_reckon x.2.1 g (CxI C) σ hσ q3 cq3) oC_48 rfl (Nat.le_of_ble_eq_true rfl) (Nat.le_of_ble_eq_true rfl) rfl rfl (Nat.le_of_ble_eq_true rfl) dX11_order_17 (fun hz4 => ?_)
    refine J_aload_n C 0 dX11_order_20 rfl 0 rfl ?_
    refine J_getR C fl_RX11_60 oC_0 rfl dX11_order_21 ?_
    refine J_iload_n C 1 dX11_order_24 rfl 1 rfl ?_
    obtain ⟨q5, cq5, h⟩ := bdS h
    refine J_callV C mw_X7_cueAt ml_RX11_304 (m_X7_cueAt x.2.1 g (CxI C) x1 h1 q3 hz4 q5 cq5) oC_48 rfl (Nat.le_of_ble_eq_true rfl) (Nat.le_of_ble_eq_true rfl) rfl rfl (Nat.le_of_ble_eq_true rfl) dX11_order_25 (fun hz6 => ?_)
    have e9 := sE h
    subst e9
    exact J_iret C E ⟨hz6, hz4⟩ dX11_order_28
set_option maxRecDepth 100000 in
set_option maxHeartbeats 4000000 in
theorem wX10_tell_L22 {x : Ct} {g : Gm} (C : Cx x yC g 4 cX10_tell RX10 0 0) : ∀ (n : Nat) (x1 : Int) (h1 : rg x1) (x2 : Int) (h2 : rg x2) (x3 : Int) (h3 : rg x3) (σ : Sg) (hσ : wfS yC σ) (q : Int × Sg) (h : fX10_tell_L22 n x1 x2 x3 σ = some q) (k : rg q.1 → wfS yC q.2 → J x yC g 4 72 [(0, .ref (gad g 54)), (1, vi x1), (2, vi x2), (3, vi q.1)] [] q.2), J x yC g 4 22 [(0, .ref (gad g 54)), (1, vi x1), (2, vi x2), (3, vi x3)] [] σ := by
  intro n
  induction n with
  | zero =>
    intro x1 h1 x2 h2 x3 h3 σ hσ q h k
    exact absurd h (by intro z; cases z)
  | succ n ih =>
    intro x1 h1 x2 h2 x3 h3 σ hσ q h k
    rw [fX10_tell_L22] at h
    refine J_iload_n C 3 dX10_tell_22 rfl 3 rfl ?_
    refine J_if_le C h3 (tgt := 72) dX10_tell_23 (by decide) h (fun h c20 => ?_) (fun h c20 => ?_)
    · have e9 := sE h
      subst e9
      exact J_sub [0, 1, 2, 3] rfl (k h3 hσ)
    · refine J_aload_n C 0 dX10_tell_26 rfl 0 rfl ?_
      refine J_getR C fl_RX10_9 oC_54 rfl dX10_tell_27 ?_
      refine J_iload_n C 3 dX10_tell_30 rfl 3 rfl ?_
      refine J_iconst C dX10_tell_31 ?_
      refine J_isub C dX10_tell_32 h (fun v1 hv2 h => ?_)
      refine J_iald C aC_55 hσ dX10_tell_33 h (fun v3 hv4 h => ?_)
      refine J_iload_n C 1 dX10_tell_34 rfl 1 rfl ?_
      refine J_icmp_le C hv4 h1 (tgt := 72) dX10_tell_35 (by decide) h (fun h c19 => ?_) (fun h c19 => ?_)
      · have e9 := sE h
        subst e9
        exact J_sub [0, 1, 2, 3] rfl (k h3 hσ)
      · refine J_aload_n C 0 dX10_tell_38 rfl 0 rfl ?_
        refine J_getR C fl_RX10_9 oC_54 rfl dX10_tell_39 ?_
        refine J_iload_n C 3 dX10_tell_42 rfl 3 rfl ?_
        refine J_aload_n C 0 dX10_tell_43 rfl 0 rfl ?_
        refine J_getR C fl_RX10_9 oC_54 rfl dX10_tell_44 ?_
        refine J_iload_n C 3 dX10_tell_47 rfl 3 rfl ?_
        refine J_iconst C dX10_tell_48 ?_
        refine J_isub C dX10_tell_49 h (fun v5 hv6 h => ?_)
        refine J_iald C aC_55 hσ dX10_tell_50 h (fun v7 hv8 h => ?_)
        refine J_iast C aC_55 hσ hv8 dX10_tell_51 h (fun σ9 hσ10 h => ?_)
        refine J_aload_n C 0 dX10_tell_52 rfl 0 rfl ?_
        refine J_getR C fl_RX10_15 oC_54 rfl dX10_tell_53 ?_
        refine J_iload_n C 3 dX10_tell_56 rfl 3 rfl ?_
        refine J_aload_n C 0 dX10_tell_57 rfl 0 rfl ?_
        refine J_getR C fl_RX10_15 oC_54 rfl dX10_tell_58 ?_
        refine J_iload_n C 3 dX10_tell_61 rfl 3 rfl ?_
        refine J_iconst C dX10_tell_62 ?_
        refine J_isub C dX10_tell_63 h (fun v11 hv12 h => ?_)
        refine J_iald C aC_56 hσ10 dX10_tell_64 h (fun v13 hv14 h => ?_)
        refine J_iast C aC_56 hσ10 hv14 dX10_tell_65 h (fun σ15 hσ16 h => ?_)
        refine J_iinc C 3 3 dX10_tell_66 rfl (by decide) h (fun v17 hv18 h => ?_)
        refine J_goto C (tgt := 22) dX10_tell_69 (by decide) ?_
        exact J_sub [1, 2, 3, 0] rfl (ih x1 h1 x2 h2 v17 hv18 σ15 hσ16 q h k)
set_option maxRecDepth 100000 in
set_option maxHeartbeats 4000000 in
theorem m_X10_tell (l : Launch) (g : Gm) (hg : gInj yC g) (x1 : Int) (h1 : rg x1) (x2 : Int) (h2 : rg x2) (σ : Sg) (hσ : wfS yC σ) (q : Sg) (h : fX10_tell x1 x2 σ = some q) : CJ l yC g yX10_tell cX10_tell 4 none 0 0 [.ref (gad g 54), vi x1, vi x2] σ none q (wfS yC q) := by
  refine CJ_of hg (by decide) rfl (Nat.le_of_ble_eq_true rfl) (lo := [(0, .ref (gad g 54)), (1, vi x1), (2, vi x2)]) rfl (fun x C E => ?_)
  unfold fX10_tell at h
  refine J_aload_n C 0 dX10_tell_0 rfl 0 rfl ?_
  refine J_getI C fl_RX10_34 oC_54 rfl dX10_tell_1 ?_
  refine J_if_lt C (hσ 54 6 lC_54) (tgt := 16) dX10_tell_4 (by decide) h (fun h c33 => ?_) (fun h c33 => ?_)
  · have e9 := sE h
    subst e9
    exact J_vret C E hσ dX10_tell_16
  · refine J_aload_n C 0 dX10_tell_7 rfl 0 rfl ?_
    refine J_getI C fl_RX10_34 oC_54 rfl dX10_tell_8 ?_
    refine J_bipush C dX10_tell_11 (bp8 (by decide) (by decide)) ?_
    refine J_icmp_lt C (hσ 54 6 lC_54) rl_60 (tgt := 17) dX10_tell_13 (by decide) h (fun h c32 => ?_) (fun h c32 => ?_)
    · refine J_aload_n C 0 dX10_tell_17 rfl 0 rfl ?_
      refine J_getI C fl_RX10_34 oC_54 rfl dX10_tell_18 ?_
      refine J_istore_n (lo2 := [(3, vi (σ 54 6)), (0, .ref (gad g 54)), (1, vi x1), (2, vi x2)]) C 3 dX10_tell_21 rfl (by decide) rfl ?_
      obtain ⟨q21, cq21, h⟩ := bdS h
      refine J_sub [1, 2, 3, 0] rfl (wX10_tell_L22 C fu x1 h1 x2 h2 (σ 54 6) (hσ 54 6 lC_54) σ hσ q21 cq21 (fun hr22 hσ23 => ?_))
      refine J_aload_n C 0 dX10_tell_72 rfl 0 rfl ?_
      refine J_getR C fl_RX10_9 oC_54 rfl dX10_tell_73 ?_
      refine J_iload_n C 3 dX10_tell_76 rfl 3 rfl ?_
      refine J_iload_n C 1 dX10_tell_77 rfl 1 rfl ?_
      refine J_iast C aC_55 hσ23 h1 dX10_tell_78 h (fun σ24 hσ25 h => ?_)
      refine J_aload_n C 0 dX10_tell_79 rfl 0 rfl ?_
      refine J_getR C fl_RX10_15 oC_54 rfl dX10_tell_80 ?_
      refine J_iload_n C 3 dX10_tell_83 rfl 3 rfl ?_
      refine J_iload_n C 2 dX10_tell_84 rfl 2 rfl ?_
      refine J_iast C aC_56 hσ25 h2 dX10_tell_85 h (fun σ26 hσ27 h => ?_)
      refine J_aload_n C 0 dX10_tell_86 rfl 0 rfl ?_
      refine J_dup C rfl dX10_tell_87 ?_
      refine J_getI C fl_RX10_34 oC_54 rfl dX10_tell_88 ?_
      refine J_iconst C dX10_tell_91 ?_
      refine J_iadd C dX10_tell_92 h (fun v28 hv29 h => ?_)
      refine J_putI C fl_RX10_34 fp_RX10_6 oC_54 rfl rfl lC_54 hσ27 hv29 dX10_tell_93 h (fun σ30 hσ31 h => ?_)
      have e9 := sE h
      subst e9
      exact J_vret C E hσ31 dX10_tell_96
    · have e9 := sE h
      subst e9
      exact J_vret C E hσ dX10_tell_16
set_option maxRecDepth 100000 in
set_option maxHeartbeats 4000000 in
theorem m_X11_seen (l : Launch) (g : Gm) (hg : gInj yC g) (x1 : Int) (h1 : rg x1) (x2 : Int) (h2 : rg x2) (σ : Sg) (hσ : wfS yC σ) (q : Int × Sg) (h : fX11_seen x1 x2 σ = some q) : CJ l yC g yX11_seen cX11_seen 3 (some .int) 1 23 [.ref (gad g 0), vi x1, vi x2] σ (some (vi q.1)) q.2 ((rg q.1) ∧ wfS yC q.2) := by
  refine CJ_of hg (by decide) rfl (Nat.le_of_ble_eq_true rfl) (lo := [(0, .ref (gad g 0)), (1, vi x1), (2, vi x2)]) rfl (fun x C E => ?_)
  unfold fX11_seen at h
  refine J_iload_n C 1 dX11_seen_0 rfl 1 rfl ?_
  refine J_if_lt C h1 (tgt := 22) dX11_seen_1 (by decide) h (fun h c7 => ?_) (fun h c7 => ?_)
  · refine J_iconst C dX11_seen_22 ?_
    have e9 := sE h
    subst e9
    exact J_iret C E ⟨rl_m1, hσ⟩ dX11_seen_23
  · refine J_iload_n C 1 dX11_seen_4 rfl 1 rfl ?_
    refine J_sipush C dX11_seen_5 (bp16 (by decide) (by decide)) ?_
    refine J_icmp_gt C h1 rl_20010 (tgt := 22) dX11_seen_8 (by decide) h (fun h c6 => ?_) (fun h c6 => ?_)
    · refine J_iload_n C 2 dX11_seen_11 rfl 2 rfl ?_
      refine J_iconst C dX11_seen_12 ?_
      refine J_icmp_lt C h2 rl_1 (tgt := 22) dX11_seen_13 (by decide) h (fun h c5 => ?_) (fun h c5 => ?_)
      · refine J_iconst C dX11_seen_22 ?_
        have e9 := sE h
        subst e9
        exact J_iret C E ⟨rl_m1, hσ⟩ dX11_seen_23
      · refine J_iload_n C 2 dX11_seen_16 rfl 2 rfl ?_
        refine J_bipush C dX11_seen_17 (bp8 (by decide) (by decide)) ?_
        refine J_icmp_le C h2 rl_9 (tgt := 24) dX11_seen_19 (by decide) h (fun h c4 => ?_) (fun h c4 => ?_)
        · refine J_aload_n C 0 dX11_seen_24 rfl 0 rfl ?_
          refine J_getR C fl_RX11_69 oC_0 rfl dX11_seen_25 ?_
          refine J_getI C fl_RX11_96 oC_54 rfl dX11_seen_28 ?_
          refine J_bipush C dX11_seen_31 (bp8 (by decide) (by decide)) ?_
          refine J_icmp_lt C (hσ 54 6 lC_54) rl_60 (tgt := 39) dX11_seen_33 (by decide) h (fun h c3 => ?_) (fun h c3 => ?_)
          · refine J_aload_n C 0 dX11_seen_39 rfl 0 rfl ?_
            refine J_getR C fl_RX11_69 oC_0 rfl dX11_seen_40 ?_
            refine J_iload_n C 1 dX11_seen_43 rfl 1 rfl ?_
            refine J_iload_n C 2 dX11_seen_44 rfl 2 rfl ?_
            obtain ⟨q1, cq1, h⟩ := bdS h
            refine J_callV C mw_X10_tell ml_RX11_307 (m_X10_tell x.2.1 g (CxI C) x1 h1 x2 h2 σ hσ q1 cq1) oC_54 rfl (Nat.le_of_ble_eq_true rfl) (Nat.le_of_ble_eq_true rfl) rfl rfl (Nat.le_of_ble_eq_true rfl) dX11_seen_45 (fun hz2 => ?_)
            refine J_aload_n C 0 dX11_seen_48 rfl 0 rfl ?_
            refine J_getR C fl_RX11_69 oC_0 rfl dX11_seen_49 ?_
            refine J_getI C fl_RX11_96 oC_54 rfl dX11_seen_52 ?_
            have e9 := sE h
            subst e9
            exact J_iret C E ⟨(hz2 54 6 lC_54), hz2⟩ dX11_seen_55
          · refine J_bipush C dX11_seen_36 (bp8 (by decide) (by decide)) ?_
            have e9 := sE h
            subst e9
            exact J_iret C E ⟨rl_m2, hσ⟩ dX11_seen_38
        · refine J_iconst C dX11_seen_22 ?_
          have e9 := sE h
          subst e9
          exact J_iret C E ⟨rl_m1, hσ⟩ dX11_seen_23
    · refine J_iconst C dX11_seen_22 ?_
      have e9 := sE h
      subst e9
      exact J_iret C E ⟨rl_m1, hσ⟩ dX11_seen_23
set_option maxRecDepth 100000 in
set_option maxHeartbeats 4000000 in
theorem m_X11_unseen (l : Launch) (g : Gm) (hg : gInj yC g)  (σ : Sg) (hσ : wfS yC σ) (q : Int × Sg) (h : fX11_unseen  σ = some q) : CJ l yC g yX11_unseen cX11_unseen 2 (some .int) 0 0 [.ref (gad g 0)] σ (some (vi q.1)) q.2 ((rg q.1) ∧ wfS yC q.2) := by
  refine CJ_of hg (by decide) rfl (Nat.le_of_ble_eq_true rfl) (lo := [(0, .ref (gad g 0))]) rfl (fun x C E => ?_)
  unfold fX11_unseen at h
  refine J_aload_n C 0 dX11_unseen_0 rfl 0 rfl ?_
  refine J_getR C fl_RX11_69 oC_0 rfl dX11_unseen_1 ?_
  refine J_getI C fl_RX11_96 oC_54 rfl dX11_unseen_4 ?_
  refine J_istore_n (lo2 := [(1, vi (σ 54 6)), (0, .ref (gad g 0))]) C 1 dX11_unseen_7 rfl (by decide) rfl ?_
  refine J_aload_n C 0 dX11_unseen_8 rfl 1 rfl ?_
  refine J_getR C fl_RX11_69 oC_0 rfl dX11_unseen_9 ?_
  refine J_iconst C dX11_unseen_12 ?_
  refine J_putI C fl_RX11_96 fp_RX10_6 oC_54 rfl rfl lC_54 hσ rl_0 dX11_unseen_13 h (fun σ1 hσ2 h => ?_)
  refine J_iload_n C 1 dX11_unseen_16 rfl 0 rfl ?_
  have e9 := sE h
  subst e9
  exact J_iret C E ⟨(hσ 54 6 lC_54), hσ2⟩ dX11_unseen_17
set_option maxRecDepth 100000 in
set_option maxHeartbeats 4000000 in
theorem m_X7_isExpected (l : Launch) (g : Gm) (hg : gInj yC g) (x1 : Int) (h1 : rg x1) (σ : Sg) (hσ : wfS yC σ) (q : Int) (h : fX7_isExpected x1 σ = some q) : CJ l yC g yX7_isExpected cX7_isExpected 3 (some .boolean) 1 21 [.ref (gad g 48), vi x1] σ (some (vi q)) σ (q = 0 ∨ q = 1) := by
  refine CJ_of hg (by decide) rfl (Nat.le_of_ble_eq_true rfl) (lo := [(0, .ref (gad g 48)), (1, vi x1)]) rfl (fun x C E => ?_)
  unfold fX7_isExpected at h
  have pc5 : fX7_isExpected_P31  σ = some q → J x yC g 3 31 [] [] σ := by
    intro h
    unfold fX7_isExpected_P31 at h
    refine J_iconst C dX7_isExpected_31 ?_
    refine J_goto C (tgt := 36) dX7_isExpected_32 (by decide) ?_
    have e9 := sE h
    subst e9
    exact J_zret C (Or.inr rfl) E (Or.inr rfl) dX7_isExpected_36
  refine J_aload_n C 0 dX7_isExpected_0 rfl 0 rfl ?_
  refine J_iload_n C 1 dX7_isExpected_1 rfl 1 rfl ?_
  obtain ⟨q1, cq1, h⟩ := bdS h
  refine J_callV C mw_X7_fateOf ml_RX7_56 (m_X7_fateOf x.2.1 g (CxI C) x1 h1 σ hσ q1 cq1) oC_48 rfl (Nat.le_of_ble_eq_true rfl) (Nat.le_of_ble_eq_true rfl) rfl rfl (Nat.le_of_ble_eq_true rfl) dX7_isExpected_2 (fun hz2 => ?_)
  refine J_istore_n (lo2 := [(2, vi q1), (0, .ref (gad g 48)), (1, vi x1)]) C 2 dX7_isExpected_5 rfl (by decide) rfl ?_
  refine J_aload_n C 0 dX7_isExpected_6 rfl 1 rfl ?_
  refine J_getR C fl_RX7_35 oC_48 rfl dX7_isExpected_7 ?_
  refine J_iload_n C 1 dX7_isExpected_10 rfl 2 rfl ?_
  obtain ⟨q3, cq3, h⟩ := bdS h
  refine J_callV C mw_X1_isCue ml_RX7_60 (m_X1_isCue x.2.1 g (CxI C) 19 cues_19 x1 h1 σ hσ q3 cq3) cues_19.1 rfl (Nat.le_of_ble_eq_true rfl) (Nat.le_of_ble_eq_true rfl) rfl rfl (Nat.le_of_ble_eq_true rfl) dX7_isExpected_11 (fun hz4 => ?_)
  refine J_if_eq C (rg01 hz4) (tgt := 35) dX7_isExpected_14 (by decide) h (fun h c9 => ?_) (fun h c9 => ?_)
  · refine J_iconst C dX7_isExpected_35 ?_
    have e9 := sE h
    subst e9
    exact J_zret C (Or.inl rfl) E (Or.inl rfl) dX7_isExpected_36
  · refine J_iload_n C 2 dX7_isExpected_17 rfl 0 rfl ?_
    refine J_if_eq C hz2 (tgt := 31) dX7_isExpected_18 (by decide) h (fun h c8 => ?_) (fun h c8 => ?_)
    · exact J_sub [] rfl (pc5  h)
    · refine J_iload_n C 2 dX7_isExpected_21 rfl 0 rfl ?_
      refine J_iconst C dX7_isExpected_22 ?_
      refine J_icmp_eq C hz2 rl_1 (tgt := 31) dX7_isExpected_23 (by decide) h (fun h c7 => ?_) (fun h c7 => ?_)
      · exact J_sub [] rfl (pc5  h)
      · refine J_iload_n C 2 dX7_isExpected_26 rfl 0 rfl ?_
        refine J_iconst C dX7_isExpected_27 ?_
        refine J_icmp_ne C hz2 rl_5 (tgt := 35) dX7_isExpected_28 (by decide) h (fun h c6 => ?_) (fun h c6 => ?_)
        · exact J_sub [] rfl (pc5  h)
        · refine J_iconst C dX7_isExpected_35 ?_
          have e9 := sE h
          subst e9
          exact J_zret C (Or.inl rfl) E (Or.inl rfl) dX7_isExpected_36
set_option maxRecDepth 100000 in
set_option maxHeartbeats 4000000 in
theorem wX10_expected_L4 {x : Ct} {g : Gm} (C : Cx x yC g 3 cX10_expected RX10 2 43) : ∀ (n : Nat) (x1 : Int) (h1 : rg x1) (x2 : Int) (h2 : rg x2) (σ : Sg) (hσ : wfS yC σ) (q : Int) (h : fX10_expected_L4 n x1 x2 σ = some q) (k : rg q → J x yC g 3 35 [(1, vi q)] [] σ), J x yC g 3 4 [(0, .ref (gad g 54)), (1, vi x1), (2, vi x2)] [] σ := by
  intro n
  induction n with
  | zero =>
    intro x1 h1 x2 h2 σ hσ q h k
    exact absurd h (by intro z; cases z)
  | succ n ih =>
    intro x1 h1 x2 h2 σ hσ q h k
    rw [fX10_expected_L4] at h
    have pc3 : ∀ (x1 : Int) (h1 : rg x1) (x2 : Int) (h2 : rg x2), fX10_expected_L4P29 (fX10_expected_L4 n) x1 x2 σ = some q → J x yC g 3 29 [(0, .ref (gad g 54)), (1, vi x1), (2, vi x2)] [] σ := by
      intro x1 h1 x2 h2 h
      unfold fX10_expected_L4P29 at h
      refine J_iinc C 2 2 dX10_expected_29 rfl (by decide) h (fun v4 hv5 h => ?_)
      refine J_goto C (tgt := 4) dX10_expected_32 (by decide) ?_
      exact J_sub [1, 2, 0] rfl (ih x1 h1 v4 hv5 σ hσ q h k)
    refine J_iload_n C 2 dX10_expected_4 rfl 2 rfl ?_
    refine J_aload_n C 0 dX10_expected_5 rfl 0 rfl ?_
    refine J_getR C fl_RX10_26 oC_54 rfl dX10_expected_6 ?_
    refine J_getI C fl_RX10_38 cues_19.1 rfl dX10_expected_9 ?_
    refine J_icmp_ge C h2 (hσ 19 4 cues_19.2.1) (tgt := 35) dX10_expected_12 (by decide) h (fun h c11 => ?_) (fun h c11 => ?_)
    · refine J_aload_n C 0 dX10_expected_15 rfl 0 rfl ?_
      refine J_getR C fl_RX10_30 oC_54 rfl dX10_expected_16 ?_
      refine J_iload_n C 2 dX10_expected_19 rfl 2 rfl ?_
      obtain ⟨q1, cq1, h⟩ := bdS h
      refine J_callV C mw_X7_isExpected ml_RX10_41 (m_X7_isExpected x.2.1 g (CxI C) x2 h2 σ hσ q1 cq1) oC_48 rfl (Nat.le_of_ble_eq_true rfl) (Nat.le_of_ble_eq_true rfl) rfl rfl (Nat.le_of_ble_eq_true rfl) dX10_expected_20 (fun hz2 => ?_)
      refine J_if_eq C (rg01 hz2) (tgt := 29) dX10_expected_23 (by decide) h (fun h c10 => ?_) (fun h c10 => ?_)
      · exact J_sub [0, 1, 2] rfl (pc3 x1 h1 x2 h2 h)
      · refine J_iinc C 1 1 dX10_expected_26 rfl (by decide) h (fun v8 hv9 h => ?_)
        exact J_sub [1, 0, 2] rfl (pc3 v8 hv9 x2 h2 h)
    · have e9 := sE h
      subst e9
      exact J_sub [1] rfl (k h1)
set_option maxRecDepth 100000 in
set_option maxHeartbeats 4000000 in
theorem m_X10_expected (l : Launch) (g : Gm) (hg : gInj yC g)  (σ : Sg) (hσ : wfS yC σ) (q : Int) (h : fX10_expected  σ = some q) : CJ l yC g yX10_expected cX10_expected 3 (some .int) 2 43 [.ref (gad g 54)] σ (some (vi q)) σ (rg q) := by
  refine CJ_of hg (by decide) rfl (Nat.le_of_ble_eq_true rfl) (lo := [(0, .ref (gad g 54))]) rfl (fun x C E => ?_)
  unfold fX10_expected at h
  refine J_iconst C dX10_expected_0 ?_
  refine J_istore_n (lo2 := [(1, vi 0), (0, .ref (gad g 54))]) C 1 dX10_expected_1 rfl (by decide) rfl ?_
  refine J_iconst C dX10_expected_2 ?_
  refine J_istore_n (lo2 := [(2, vi 0), (1, vi 0), (0, .ref (gad g 54))]) C 2 dX10_expected_3 rfl (by decide) rfl ?_
  obtain ⟨q12, cq12, h⟩ := bdS h
  refine J_sub [2, 1, 0] rfl (wX10_expected_L4 C fu 0 rl_0 0 rl_0 σ hσ q12 cq12 (fun hr13 => ?_))
  refine J_iload_n C 1 dX10_expected_35 rfl 0 rfl ?_
  have e9 := sE h
  subst e9
  exact J_iret C E hr13 dX10_expected_36
set_option maxRecDepth 100000 in
set_option maxHeartbeats 4000000 in
theorem m_X2_lateOf (l : Launch) (g : Gm) (hg : gInj yC g) (x1 : Int) (h1 : rg x1) (σ : Sg) (hσ : wfS yC σ) (q : Int) (h : fX2_lateOf x1 σ = some q) : CJ l yC g yX2_lateOf cX2_lateOf 2 (some .int) 1 21 [.ref (gad g 6), vi x1] σ (some (vi q)) σ (rg q) := by
  refine CJ_of hg (by decide) rfl (Nat.le_of_ble_eq_true rfl) (lo := [(0, .ref (gad g 6)), (1, vi x1)]) rfl (fun x C E => ?_)
  unfold fX2_lateOf at h
  refine J_aload_n C 0 dX2_lateOf_0 rfl 0 rfl ?_
  refine J_iload_n C 1 dX2_lateOf_1 rfl 1 rfl ?_
  obtain ⟨q1, cq1, h⟩ := bdS h
  refine J_callV C mw_X2_isTold ml_RX2_36 (m_X2_isTold x.2.1 g (CxI C) x1 h1 σ hσ q1 cq1) oC_6 rfl (Nat.le_of_ble_eq_true rfl) (Nat.le_of_ble_eq_true rfl) rfl rfl (Nat.le_of_ble_eq_true rfl) dX2_lateOf_2 (fun hz2 => ?_)
  refine J_if_eq C (rg01 hz2) (tgt := 17) dX2_lateOf_5 (by decide) h (fun h c5 => ?_) (fun h c5 => ?_)
  · refine J_iconst C dX2_lateOf_17 ?_
    have e9 := sE h
    subst e9
    exact J_iret C E rl_0 dX2_lateOf_18
  · refine J_aload_n C 0 dX2_lateOf_8 rfl 0 rfl ?_
    refine J_getR C fl_RX2_27 oC_6 rfl dX2_lateOf_9 ?_
    refine J_iload_n C 1 dX2_lateOf_12 rfl 1 rfl ?_
    refine J_iald C aC_12 hσ dX2_lateOf_13 h (fun v3 hv4 h => ?_)
    refine J_goto C (tgt := 18) dX2_lateOf_14 (by decide) ?_
    have e9 := sE h
    subst e9
    exact J_iret C E hv4 dX2_lateOf_18
set_option maxRecDepth 100000 in
set_option maxHeartbeats 4000000 in
theorem m_X10_lateOf (l : Launch) (g : Gm) (hg : gInj yC g) (x1 : Int) (h1 : rg x1) (σ : Sg) (hσ : wfS yC σ) (q : Int) (h : fX10_lateOf x1 σ = some q) : CJ l yC g yX10_lateOf cX10_lateOf 2 (some .int) 2 42 [.ref (gad g 54), vi x1] σ (some (vi q)) σ (rg q) := by
  refine CJ_of hg (by decide) rfl (Nat.le_of_ble_eq_true rfl) (lo := [(0, .ref (gad g 54)), (1, vi x1)]) rfl (fun x C E => ?_)
  unfold fX10_lateOf at h
  refine J_aload_n C 0 dX10_lateOf_0 rfl 0 rfl ?_
  refine J_getR C fl_RX10_22 oC_54 rfl dX10_lateOf_1 ?_
  refine J_getR C fl_RX10_62 oC_1 rfl dX10_lateOf_4 ?_
  refine J_aload_n C 0 dX10_lateOf_7 rfl 0 rfl ?_
  refine J_getR C fl_RX10_30 oC_54 rfl dX10_lateOf_8 ?_
  refine J_iload_n C 1 dX10_lateOf_11 rfl 1 rfl ?_
  obtain ⟨q1, cq1, h⟩ := bdS h
  refine J_callV C mw_X7_kindHad ml_RX10_68 (m_X7_kindHad x.2.1 g (CxI C) x1 h1 σ hσ q1 cq1) oC_48 rfl (Nat.le_of_ble_eq_true rfl) (Nat.le_of_ble_eq_true rfl) rfl rfl (Nat.le_of_ble_eq_true rfl) dX10_lateOf_12 (fun hz2 => ?_)
  obtain ⟨q3, cq3, h⟩ := bdS h
  refine J_callV C mw_X2_lateOf ml_RX10_81 (m_X2_lateOf x.2.1 g (CxI C) q1 hz2 σ hσ q3 cq3) oC_6 rfl (Nat.le_of_ble_eq_true rfl) (Nat.le_of_ble_eq_true rfl) rfl rfl (Nat.le_of_ble_eq_true rfl) dX10_lateOf_15 (fun hz4 => ?_)
  have e9 := sE h
  subst e9
  exact J_iret C E hz4 dX10_lateOf_18
set_option maxRecDepth 100000 in
set_option maxHeartbeats 4000000 in
theorem m_X10_mayBe (l : Launch) (g : Gm) (hg : gInj yC g) (x1 : Int) (h1 : rg x1) (x2 : Int) (h2 : rg x2) (x3 : Int) (h3 : rg x3) (σ : Sg) (hσ : wfS yC σ) (q : Int) (h : fX10_mayBe x1 x2 x3 σ = some q) : CJ l yC g yX10_mayBe cX10_mayBe 4 (some .boolean) 3 63 [.ref (gad g 54), vi x1, vi x2, vi x3] σ (some (vi q)) σ (q = 0 ∨ q = 1) := by
  refine CJ_of hg (by decide) rfl (Nat.le_of_ble_eq_true rfl) (lo := [(0, .ref (gad g 54)), (1, vi x1), (2, vi x2), (3, vi x3)]) rfl (fun x C E => ?_)
  unfold fX10_mayBe at h
  refine J_aload_n C 0 dX10_mayBe_0 rfl 0 rfl ?_
  refine J_getR C fl_RX10_30 oC_54 rfl dX10_mayBe_1 ?_
  refine J_iload_n C 1 dX10_mayBe_4 rfl 1 rfl ?_
  obtain ⟨q1, cq1, h⟩ := bdS h
  refine J_callV C mw_X7_isExpected ml_RX10_41 (m_X7_isExpected x.2.1 g (CxI C) x1 h1 σ hσ q1 cq1) oC_48 rfl (Nat.le_of_ble_eq_true rfl) (Nat.le_of_ble_eq_true rfl) rfl rfl (Nat.le_of_ble_eq_true rfl) dX10_mayBe_5 (fun hz2 => ?_)
  refine J_if_eq C (rg01 hz2) (tgt := 58) dX10_mayBe_8 (by decide) h (fun h c17 => ?_) (fun h c17 => ?_)
  · refine J_iconst C dX10_mayBe_58 ?_
    have e9 := sE h
    subst e9
    exact J_zret C (Or.inl rfl) E (Or.inl rfl) dX10_mayBe_59
  · refine J_aload_n C 0 dX10_mayBe_11 rfl 0 rfl ?_
    refine J_getR C fl_RX10_22 oC_54 rfl dX10_mayBe_12 ?_
    refine J_getR C fl_RX10_62 oC_1 rfl dX10_mayBe_15 ?_
    refine J_aload_n C 0 dX10_mayBe_18 rfl 0 rfl ?_
    refine J_getR C fl_RX10_30 oC_54 rfl dX10_mayBe_19 ?_
    refine J_iload_n C 1 dX10_mayBe_22 rfl 1 rfl ?_
    obtain ⟨q3, cq3, h⟩ := bdS h
    refine J_callV C mw_X7_kindHad ml_RX10_68 (m_X7_kindHad x.2.1 g (CxI C) x1 h1 σ hσ q3 cq3) oC_48 rfl (Nat.le_of_ble_eq_true rfl) (Nat.le_of_ble_eq_true rfl) rfl rfl (Nat.le_of_ble_eq_true rfl) dX10_mayBe_23 (fun hz4 => ?_)
    obtain ⟨q5, cq5, h⟩ := bdS h
    refine J_callV C mw_X2_colourOf ml_RX10_71 (m_X2_colourOf x.2.1 g (CxI C) q3 hz4 σ hσ q5 cq5) oC_6 rfl (Nat.le_of_ble_eq_true rfl) (Nat.le_of_ble_eq_true rfl) rfl rfl (Nat.le_of_ble_eq_true rfl) dX10_mayBe_26 (fun hz6 => ?_)
    refine J_iload_n C 3 dX10_mayBe_29 rfl 3 rfl ?_
    refine J_icmp_ne C hz6 h3 (tgt := 58) dX10_mayBe_30 (by decide) h (fun h c16 => ?_) (fun h c16 => ?_)
    · refine J_aload_n C 0 dX10_mayBe_33 rfl 0 rfl ?_
      refine J_getR C fl_RX10_26 oC_54 rfl dX10_mayBe_34 ?_
      refine J_iload_n C 1 dX10_mayBe_37 rfl 1 rfl ?_
      obtain ⟨q7, cq7, h⟩ := bdS h
      refine J_callV C mw_X1_burstOf ml_RX10_55 (m_X1_burstOf x.2.1 g (CxI C) 19 cues_19 x1 h1 σ hσ q7 cq7) cues_19.1 rfl (Nat.le_of_ble_eq_true rfl) (Nat.le_of_ble_eq_true rfl) rfl rfl (Nat.le_of_ble_eq_true rfl) dX10_mayBe_38 (fun hz8 => ?_)
      refine J_iload_n C 2 dX10_mayBe_41 rfl 2 rfl ?_
      refine J_isub C dX10_mayBe_42 h (fun v9 hv10 h => ?_)
      refine J_abs C hv10 mth_abs ml_RX10_76 (Nat.le_of_ble_eq_true rfl) (Nat.le_of_ble_eq_true rfl) dX10_mayBe_43 h (fun v11 hv12 h => ?_)
      refine J_aload_n C 0 dX10_mayBe_46 rfl 0 rfl ?_
      refine J_iload_n C 1 dX10_mayBe_47 rfl 1 rfl ?_
      obtain ⟨q13, cq13, h⟩ := bdS h
      refine J_callV C mw_X10_lateOf ml_RX10_59 (m_X10_lateOf x.2.1 g (CxI C) x1 h1 σ hσ q13 cq13) oC_54 rfl (Nat.le_of_ble_eq_true rfl) (Nat.le_of_ble_eq_true rfl) rfl rfl (Nat.le_of_ble_eq_true rfl) dX10_mayBe_48 (fun hz14 => ?_)
      refine J_icmp_gt C hv12 hz14 (tgt := 58) dX10_mayBe_51 (by decide) h (fun h c15 => ?_) (fun h c15 => ?_)
      · refine J_iconst C dX10_mayBe_54 ?_
        refine J_goto C (tgt := 59) dX10_mayBe_55 (by decide) ?_
        have e9 := sE h
        subst e9
        exact J_zret C (Or.inr rfl) E (Or.inr rfl) dX10_mayBe_59
      · refine J_iconst C dX10_mayBe_58 ?_
        have e9 := sE h
        subst e9
        exact J_zret C (Or.inl rfl) E (Or.inl rfl) dX10_mayBe_59
    · refine J_iconst C dX10_mayBe_58 ?_
      have e9 := sE h
      subst e9
      exact J_zret C (Or.inl rfl) E (Or.inl rfl) dX10_mayBe_59
set_option maxRecDepth 100000 in
set_option maxHeartbeats 4000000 in
theorem wX10_firstToEnd_L9 {x : Ct} {g : Gm} (C : Cx x yC g 8 cX10_firstToEnd RX10 4 86) : ∀ (n : Nat) (x1 : Int) (h1 : rg x1) (x2 : Int) (h2 : rg x2) (x3 : Int) (h3 : rg x3) (x4 : Int) (h4 : rg x4) (x5 : Int) (h5 : rg x5) (x6 : Int) (h6 : rg x6) (σ : Sg) (hσ : wfS yC σ) (q : Int) (h : fX10_firstToEnd_L9 n x1 x2 x3 x4 x5 x6 σ = some q) (k : rg q → J x yC g 8 100 [(4, vi q)] [] σ), J x yC g 8 9 [(0, .ref (gad g 54)), (1, vi x1), (2, vi x2), (3, vi x3), (4, vi x4), (5, vi x5), (6, vi x6)] [] σ := by
  intro n
  induction n with
  | zero =>
    intro x1 h1 x2 h2 x3 h3 x4 h4 x5 h5 x6 h6 σ hσ q h k
    exact absurd h (by intro z; cases z)
  | succ n ih =>
    intro x1 h1 x2 h2 x3 h3 x4 h4 x5 h5 x6 h6 σ hσ q h k
    rw [fX10_firstToEnd_L9] at h
    have pc1 : ∀ (x4 : Int) (h4 : rg x4) (x5 : Int) (h5 : rg x5) (x6 : Int) (h6 : rg x6), fX10_firstToEnd_L9P94 (fX10_firstToEnd_L9 n) x1 x2 x3 x4 x5 x6 σ = some q → J x yC g 8 94 [(0, .ref (gad g 54)), (1, vi x1), (2, vi x2), (3, vi x3), (4, vi x4), (5, vi x5), (6, vi x6)] [] σ := by
      intro x4 h4 x5 h5 x6 h6 h
      unfold fX10_firstToEnd_L9P94 at h
      refine J_iinc C 6 6 dX10_firstToEnd_94 rfl (by decide) h (fun v2 hv3 h => ?_)
      refine J_goto C (tgt := 9) dX10_firstToEnd_97 (by decide) ?_
      exact J_sub [1, 2, 3, 4, 5, 6, 0] rfl (ih x1 h1 x2 h2 x3 h3 x4 h4 x5 h5 v2 hv3 σ hσ q h k)
    have pc16 : ∀ (x6 : Int) (h6 : rg x6) (x7 : Int) (h7 : rg x7), fX10_firstToEnd_L9P86 (fX10_firstToEnd_L9 n) x1 x2 x3 x6 x7 σ = some q → J x yC g 8 86 [(0, .ref (gad g 54)), (1, vi x1), (2, vi x2), (3, vi x3), (6, vi x6), (7, vi x7)] [] σ := by
      intro x6 h6 x7 h7 h
      unfold fX10_firstToEnd_L9P86 at h
      refine J_iload C 6 dX10_firstToEnd_86 4 rfl ?_
      refine J_istore (lo2 := [(4, vi x6), (0, .ref (gad g 54)), (1, vi x1), (2, vi x2), (3, vi x3), (6, vi x6), (7, vi x7)]) C 4 dX10_firstToEnd_88 (by decide) rfl ?_
      refine J_iload C 7 dX10_firstToEnd_90 6 rfl ?_
      refine J_istore (lo2 := [(5, vi x7), (4, vi x6), (0, .ref (gad g 54)), (1, vi x1), (2, vi x2), (3, vi x3), (6, vi x6), (7, vi x7)]) C 5 dX10_firstToEnd_92 (by decide) rfl ?_
      exact J_sub [2, 3, 4, 5, 1, 0, 6] rfl (pc1 x6 h6 x7 h7 x6 h6 h)
    refine J_iload C 6 dX10_firstToEnd_9 6 rfl ?_
    refine J_aload_n C 0 dX10_firstToEnd_11 rfl 0 rfl ?_
    refine J_getR C fl_RX10_26 oC_54 rfl dX10_firstToEnd_12 ?_
    refine J_getI C fl_RX10_38 cues_19.1 rfl dX10_firstToEnd_15 ?_
    refine J_icmp_ge C h6 (hσ 19 4 cues_19.2.1) (tgt := 100) dX10_firstToEnd_18 (by decide) h (fun h c23 => ?_) (fun h c23 => ?_)
    · refine J_iload C 6 dX10_firstToEnd_21 6 rfl ?_
      refine J_bipush C dX10_firstToEnd_23 (bp8 (by decide) (by decide)) ?_
      refine J_icmp_ge C h6 rl_120 (tgt := 100) dX10_firstToEnd_25 (by decide) h (fun h c22 => ?_) (fun h c22 => ?_)
      · refine J_iload C 6 dX10_firstToEnd_28 6 rfl ?_
        refine J_iload_n C 3 dX10_firstToEnd_30 rfl 3 rfl ?_
        refine J_icmp_eq C h6 h3 (tgt := 94) dX10_firstToEnd_31 (by decide) h (fun h c21 => ?_) (fun h c21 => ?_)
        · exact J_sub [0, 1, 2, 3, 4, 5, 6] rfl (pc1 x4 h4 x5 h5 x6 h6 h)
        · refine J_aload_n C 0 dX10_firstToEnd_34 rfl 0 rfl ?_
          refine J_getR C fl_RX10_18 oC_54 rfl dX10_firstToEnd_35 ?_
          refine J_iload C 6 dX10_firstToEnd_38 6 rfl ?_
          refine J_zald C aC_57 hσ dX10_firstToEnd_40 h (fun v6 hv7 h => ?_)
          refine J_if_ne C hv7 (tgt := 94) dX10_firstToEnd_41 (by decide) h (fun h c20 => ?_) (fun h c20 => ?_)
          · refine J_aload_n C 0 dX10_firstToEnd_44 rfl 0 rfl ?_
            refine J_iload C 6 dX10_firstToEnd_45 6 rfl ?_
            refine J_iload_n C 1 dX10_firstToEnd_47 rfl 1 rfl ?_
            refine J_iload_n C 2 dX10_firstToEnd_48 rfl 2 rfl ?_
            obtain ⟨q8, cq8, h⟩ := bdS h
            refine J_callV C mw_X10_mayBe ml_RX10_47 (m_X10_mayBe x.2.1 g (CxI C) x6 h6 x1 h1 x2 h2 σ hσ q8 cq8) oC_54 rfl (Nat.le_of_ble_eq_true rfl) (Nat.le_of_ble_eq_true rfl) rfl rfl (Nat.le_of_ble_eq_true rfl) dX10_firstToEnd_49 (fun hz9 => ?_)
            refine J_if_eq C (rg01 hz9) (tgt := 94) dX10_firstToEnd_52 (by decide) h (fun h c19 => ?_) (fun h c19 => ?_)
            · exact J_sub [0, 1, 2, 3, 4, 5, 6] rfl (pc1 x4 h4 x5 h5 x6 h6 h)
            · refine J_aload_n C 0 dX10_firstToEnd_55 rfl 0 rfl ?_
              refine J_getR C fl_RX10_26 oC_54 rfl dX10_firstToEnd_56 ?_
              refine J_iload C 6 dX10_firstToEnd_59 6 rfl ?_
              obtain ⟨q10, cq10, h⟩ := bdS h
              refine J_callV C mw_X1_burstOf ml_RX10_55 (m_X1_burstOf x.2.1 g (CxI C) 19 cues_19 x6 h6 σ hσ q10 cq10) cues_19.1 rfl (Nat.le_of_ble_eq_true rfl) (Nat.le_of_ble_eq_true rfl) rfl rfl (Nat.le_of_ble_eq_true rfl) dX10_firstToEnd_61 (fun hz11 => ?_)
              refine J_aload_n C 0 dX10_firstToEnd_64 rfl 0 rfl ?_
              refine J_iload C 6 dX10_firstToEnd_65 6 rfl ?_
              obtain ⟨q12, cq12, h⟩ := bdS h
              refine J_callV C mw_X10_lateOf ml_RX10_59 (m_X10_lateOf x.2.1 g (CxI C) x6 h6 σ hσ q12 cq12) oC_54 rfl (Nat.le_of_ble_eq_true rfl) (Nat.le_of_ble_eq_true rfl) rfl rfl (Nat.le_of_ble_eq_true rfl) dX10_firstToEnd_67 (fun hz13 => ?_)
              refine J_iadd C dX10_firstToEnd_70 h (fun v14 hv15 h => ?_)
              refine J_istore (lo2 := [(7, vi v14), (0, .ref (gad g 54)), (1, vi x1), (2, vi x2), (3, vi x3), (4, vi x4), (5, vi x5), (6, vi x6)]) C 7 dX10_firstToEnd_71 (by decide) rfl ?_
              refine J_iload C 4 dX10_firstToEnd_73 5 rfl ?_
              refine J_iconst C dX10_firstToEnd_75 ?_
              refine J_icmp_eq C h4 rl_m1 (tgt := 86) dX10_firstToEnd_76 (by decide) h (fun h c18 => ?_) (fun h c18 => ?_)
              · exact J_sub [1, 2, 3, 4, 7, 0] rfl (pc16 x6 h6 v14 hv15 h)
              · refine J_iload C 7 dX10_firstToEnd_79 0 rfl ?_
                refine J_iload C 5 dX10_firstToEnd_81 6 rfl ?_
                refine J_icmp_ge C hv15 h5 (tgt := 94) dX10_firstToEnd_83 (by decide) h (fun h c17 => ?_) (fun h c17 => ?_)
                · exact J_sub [1, 2, 3, 4, 7, 0] rfl (pc16 x6 h6 v14 hv15 h)
                · exact J_sub [1, 2, 3, 4, 5, 6, 7] rfl (pc1 x4 h4 x5 h5 x6 h6 h)
          · exact J_sub [0, 1, 2, 3, 4, 5, 6] rfl (pc1 x4 h4 x5 h5 x6 h6 h)
      · have e9 := sE h
        subst e9
        exact J_sub [4] rfl (k h4)
    · have e9 := sE h
      subst e9
      exact J_sub [4] rfl (k h4)
set_option maxRecDepth 100000 in
set_option maxHeartbeats 4000000 in
theorem m_X10_firstToEnd (l : Launch) (g : Gm) (hg : gInj yC g) (x1 : Int) (h1 : rg x1) (x2 : Int) (h2 : rg x2) (x3 : Int) (h3 : rg x3) (σ : Sg) (hσ : wfS yC σ) (q : Int) (h : fX10_firstToEnd x1 x2 x3 σ = some q) : CJ l yC g yX10_firstToEnd cX10_firstToEnd 8 (some .int) 4 86 [.ref (gad g 54), vi x1, vi x2, vi x3] σ (some (vi q)) σ (rg q) := by
  refine CJ_of hg (by decide) rfl (Nat.le_of_ble_eq_true rfl) (lo := [(0, .ref (gad g 54)), (1, vi x1), (2, vi x2), (3, vi x3)]) rfl (fun x C E => ?_)
  unfold fX10_firstToEnd at h
  refine J_iconst C dX10_firstToEnd_0 ?_
  refine J_istore (lo2 := [(4, vi (-1)), (0, .ref (gad g 54)), (1, vi x1), (2, vi x2), (3, vi x3)]) C 4 dX10_firstToEnd_1 (by decide) rfl ?_
  refine J_iconst C dX10_firstToEnd_3 ?_
  refine J_istore (lo2 := [(5, vi 0), (4, vi (-1)), (0, .ref (gad g 54)), (1, vi x1), (2, vi x2), (3, vi x3)]) C 5 dX10_firstToEnd_4 (by decide) rfl ?_
  refine J_iconst C dX10_firstToEnd_6 ?_
  refine J_istore (lo2 := [(6, vi 0), (5, vi 0), (4, vi (-1)), (0, .ref (gad g 54)), (1, vi x1), (2, vi x2), (3, vi x3)]) C 6 dX10_firstToEnd_7 (by decide) rfl ?_
  obtain ⟨q24, cq24, h⟩ := bdS h
  refine J_sub [3, 4, 5, 6, 2, 1, 0] rfl (wX10_firstToEnd_L9 C fu x1 h1 x2 h2 x3 h3 (-1) rl_m1 0 rl_0 0 rl_0 σ hσ q24 cq24 (fun hr25 => ?_))
  refine J_iload C 4 dX10_firstToEnd_100 0 rfl ?_
  have e9 := sE h
  subst e9
  exact J_iret C E hr25 dX10_firstToEnd_102
set_option maxRecDepth 100000 in
set_option maxHeartbeats 4000000 in
theorem wX10_greatestMatching_L2 {x : Ct} {g : Gm} (C : Cx x yC g 5 cX10_greatestMatching RX10 5 113) : ∀ (n : Nat) (x1 : Int) (h1 : rg x1) (x2 : Int) (h2 : rg x2) (σ : Sg) (hσ : wfS yC σ) (q : Sg) (h : fX10_greatestMatching_L2 n x1 x2 σ = some q) (k : wfS yC q → J x yC g 5 21 [(0, .ref (gad g 54)), (1, vi x1)] [] q), J x yC g 5 2 [(0, .ref (gad g 54)), (1, vi x1), (2, vi x2)] [] σ := by
  intro n
  induction n with
  | zero =>
    intro x1 h1 x2 h2 σ hσ q h k
    exact absurd h (by intro z; cases z)
  | succ n ih =>
    intro x1 h1 x2 h2 σ hσ q h k
    rw [fX10_greatestMatching_L2] at h
    refine J_iload_n C 2 dX10_greatestMatching_2 rfl 2 rfl ?_
    refine J_bipush C dX10_greatestMatching_3 (bp8 (by decide) (by decide)) ?_
    refine J_icmp_ge C h2 rl_120 (tgt := 21) dX10_greatestMatching_5 (by decide) h (fun h c5 => ?_) (fun h c5 => ?_)
    · refine J_aload_n C 0 dX10_greatestMatching_8 rfl 0 rfl ?_
      refine J_getR C fl_RX10_18 oC_54 rfl dX10_greatestMatching_9 ?_
      refine J_iload_n C 2 dX10_greatestMatching_12 rfl 2 rfl ?_
      refine J_iconst C dX10_greatestMatching_13 ?_
      refine J_zast C aC_57 hσ dX10_greatestMatching_14 h (fun σ1 hσ2 h => ?_)
      refine J_iinc C 2 2 dX10_greatestMatching_15 rfl (by decide) h (fun v3 hv4 h => ?_)
      refine J_goto C (tgt := 2) dX10_greatestMatching_18 (by decide) ?_
      exact J_sub [1, 2, 0] rfl (ih x1 h1 v3 hv4 σ1 hσ2 q h k)
    · have e9 := sE h
      subst e9
      exact J_sub [0, 1] rfl (k hσ)
set_option maxRecDepth 100000 in
set_option maxHeartbeats 4000000 in
theorem wX10_greatestMatching_L25 {x : Ct} {g : Gm} (C : Cx x yC g 5 cX10_greatestMatching RX10 5 113) : ∀ (n : Nat) (x1 : Int) (h1 : rg x1) (x2 : Int) (h2 : rg x2) (x3 : Int) (h3 : rg x3) (σ : Sg) (hσ : wfS yC σ) (q : Int × Sg) (h : fX10_greatestMatching_L25 n x1 x2 x3 σ = some q) (k : rg q.1 → wfS yC q.2 → J x yC g 5 87 [(2, vi q.1)] [] q.2), J x yC g 5 25 [(0, .ref (gad g 54)), (1, vi x1), (2, vi x2), (3, vi x3)] [] σ := by
  intro n
  induction n with
  | zero =>
    intro x1 h1 x2 h2 x3 h3 σ hσ q h k
    exact absurd h (by intro z; cases z)
  | succ n ih =>
    intro x1 h1 x2 h2 x3 h3 σ hσ q h k
    rw [fX10_greatestMatching_L25] at h
    have pc14 : ∀ (x2 : Int) (h2 : rg x2) (x3 : Int) (h3 : rg x3) (σ : Sg) (hσ : wfS yC σ), fX10_greatestMatching_L25P81 (fX10_greatestMatching_L25 n) x1 x2 x3 σ = some q → J x yC g 5 81 [(0, .ref (gad g 54)), (1, vi x1), (2, vi x2), (3, vi x3)] [] σ := by
      intro x2 h2 x3 h3 σ hσ h
      unfold fX10_greatestMatching_L25P81 at h
      refine J_iinc C 3 3 dX10_greatestMatching_81 rfl (by decide) h (fun v15 hv16 h => ?_)
      refine J_goto C (tgt := 25) dX10_greatestMatching_84 (by decide) ?_
      exact J_sub [1, 2, 3, 0] rfl (ih x1 h1 x2 h2 v15 hv16 σ hσ q h k)
    refine J_iload_n C 3 dX10_greatestMatching_25 rfl 3 rfl ?_
    refine J_aload_n C 0 dX10_greatestMatching_26 rfl 0 rfl ?_
    refine J_getI C fl_RX10_34 oC_54 rfl dX10_greatestMatching_27 ?_
    refine J_icmp_ge C h3 (hσ 54 6 lC_54) (tgt := 87) dX10_greatestMatching_30 (by decide) h (fun h c26 => ?_) (fun h c26 => ?_)
    · refine J_iload_n C 3 dX10_greatestMatching_33 rfl 3 rfl ?_
      refine J_bipush C dX10_greatestMatching_34 (bp8 (by decide) (by decide)) ?_
      refine J_icmp_ge C h3 rl_60 (tgt := 87) dX10_greatestMatching_36 (by decide) h (fun h c25 => ?_) (fun h c25 => ?_)
      · refine J_aload_n C 0 dX10_greatestMatching_39 rfl 0 rfl ?_
        refine J_aload_n C 0 dX10_greatestMatching_40 rfl 0 rfl ?_
        refine J_getR C fl_RX10_9 oC_54 rfl dX10_greatestMatching_41 ?_
        refine J_iload_n C 3 dX10_greatestMatching_44 rfl 3 rfl ?_
        refine J_iald C aC_55 hσ dX10_greatestMatching_45 h (fun v8 hv9 h => ?_)
        refine J_aload_n C 0 dX10_greatestMatching_46 rfl 0 rfl ?_
        refine J_getR C fl_RX10_15 oC_54 rfl dX10_greatestMatching_47 ?_
        refine J_iload_n C 3 dX10_greatestMatching_50 rfl 3 rfl ?_
        refine J_iald C aC_56 hσ dX10_greatestMatching_51 h (fun v10 hv11 h => ?_)
        refine J_iload_n C 1 dX10_greatestMatching_52 rfl 1 rfl ?_
        obtain ⟨q12, cq12, h⟩ := bdS h
        refine J_callV C mw_X10_firstToEnd ml_RX10_51 (m_X10_firstToEnd x.2.1 g (CxI C) v8 hv9 v10 hv11 x1 h1 σ hσ q12 cq12) oC_54 rfl (Nat.le_of_ble_eq_true rfl) (Nat.le_of_ble_eq_true rfl) rfl rfl (Nat.le_of_ble_eq_true rfl) dX10_greatestMatching_53 (fun hz13 => ?_)
        refine J_istore (lo2 := [(4, vi q12), (0, .ref (gad g 54)), (1, vi x1), (2, vi x2), (3, vi x3)]) C 4 dX10_greatestMatching_56 (by decide) rfl ?_
        refine J_iload C 4 dX10_greatestMatching_58 0 rfl ?_
        refine J_if_lt C hz13 (tgt := 81) dX10_greatestMatching_60 (by decide) h (fun h c24 => ?_) (fun h c24 => ?_)
        · exact J_sub [1, 2, 3, 4] rfl (pc14 x2 h2 x3 h3 σ hσ h)
        · refine J_iload C 4 dX10_greatestMatching_63 0 rfl ?_
          refine J_bipush C dX10_greatestMatching_65 (bp8 (by decide) (by decide)) ?_
          refine J_icmp_ge C hz13 rl_120 (tgt := 81) dX10_greatestMatching_67 (by decide) h (fun h c23 => ?_) (fun h c23 => ?_)
          · refine J_aload_n C 0 dX10_greatestMatching_70 rfl 1 rfl ?_
            refine J_getR C fl_RX10_18 oC_54 rfl dX10_greatestMatching_71 ?_
            refine J_iload C 4 dX10_greatestMatching_74 0 rfl ?_
            refine J_iconst C dX10_greatestMatching_76 ?_
            refine J_zast C aC_57 hσ dX10_greatestMatching_77 h (fun σ19 hσ20 h => ?_)
            refine J_iinc C 2 3 dX10_greatestMatching_78 rfl (by decide) h (fun v21 hv22 h => ?_)
            exact J_sub [2, 3, 0, 4] rfl (pc14 v21 hv22 x3 h3 σ19 hσ20 h)
          · exact J_sub [1, 2, 3, 4] rfl (pc14 x2 h2 x3 h3 σ hσ h)
      · have e9 := sE h
        subst e9
        exact J_sub [2] rfl (k h2 hσ)
    · have e9 := sE h
      subst e9
      exact J_sub [2] rfl (k h2 hσ)
set_option maxRecDepth 100000 in
set_option maxHeartbeats 4000000 in
theorem m_X10_greatestMatching (l : Launch) (g : Gm) (hg : gInj yC g) (x1 : Int) (h1 : rg x1) (σ : Sg) (hσ : wfS yC σ) (q : Int × Sg) (h : fX10_greatestMatching x1 σ = some q) : CJ l yC g yX10_greatestMatching cX10_greatestMatching 5 (some .int) 5 113 [.ref (gad g 54), vi x1] σ (some (vi q.1)) q.2 ((rg q.1) ∧ wfS yC q.2) := by
  refine CJ_of hg (by decide) rfl (Nat.le_of_ble_eq_true rfl) (lo := [(0, .ref (gad g 54)), (1, vi x1)]) rfl (fun x C E => ?_)
  unfold fX10_greatestMatching at h
  refine J_iconst C dX10_greatestMatching_0 ?_
  refine J_istore_n (lo2 := [(2, vi 0), (0, .ref (gad g 54)), (1, vi x1)]) C 2 dX10_greatestMatching_1 rfl (by decide) rfl ?_
  obtain ⟨q6, cq6, h⟩ := bdS h
  refine J_sub [1, 2, 0] rfl (wX10_greatestMatching_L2 C fu x1 h1 0 rl_0 σ hσ q6 cq6 (fun hσ7 => ?_))
  refine J_iconst C dX10_greatestMatching_21 ?_
  refine J_istore_n (lo2 := [(2, vi 0), (0, .ref (gad g 54)), (1, vi x1)]) C 2 dX10_greatestMatching_22 rfl (by decide) rfl ?_
  refine J_iconst C dX10_greatestMatching_23 ?_
  refine J_istore_n (lo2 := [(3, vi 0), (2, vi 0), (0, .ref (gad g 54)), (1, vi x1)]) C 3 dX10_greatestMatching_24 rfl (by decide) rfl ?_
  obtain ⟨q27, cq27, h⟩ := bdS h
  refine J_sub [2, 3, 1, 0] rfl (wX10_greatestMatching_L25 C fu x1 h1 0 rl_0 0 rl_0 q6 hσ7 q27 cq27 (fun hr28 hσ29 => ?_))
  refine J_iload_n C 2 dX10_greatestMatching_87 rfl 0 rfl ?_
  have e9 := sE h
  subst e9
  exact J_iret C E ⟨hr28, hσ29⟩ dX10_greatestMatching_88
set_option maxRecDepth 100000 in
set_option maxHeartbeats 4000000 in
theorem m_X11_duds (l : Launch) (g : Gm) (hg : gInj yC g)  (σ : Sg) (hσ : wfS yC σ) (q : Int × Sg) (h : fX11_duds  σ = some q) : CJ l yC g yX11_duds cX11_duds 1 (some .int) 7 174 [.ref (gad g 0)] σ (some (vi q.1)) q.2 ((rg q.1) ∧ wfS yC q.2) := by
  refine CJ_of hg (by decide) rfl (Nat.le_of_ble_eq_true rfl) (lo := [(0, .ref (gad g 0))]) rfl (fun x C E => ?_)
  unfold fX11_duds at h
  refine J_aload_n C 0 dX11_duds_0 rfl 0 rfl ?_
  refine J_getR C fl_RX11_60 oC_0 rfl dX11_duds_1 ?_
  obtain ⟨q1, cq1, h⟩ := bdS h
  refine J_callV C mw_X7_reckon ml_RX11_291 (m_X7_reckon x.2.1 g (CxI C) σ hσ q1 cq1) oC_48 rfl (Nat.le_of_ble_eq_true rfl) (Nat.le_of_ble_eq_true rfl) rfl rfl (Nat.le_of_ble_eq_true rfl) dX11_duds_4 (fun hz2 => ?_)
  refine J_aload_n C 0 dX11_duds_7 rfl 0 rfl ?_
  refine J_getR C fl_RX11_69 oC_0 rfl dX11_duds_8 ?_
  obtain ⟨q3, cq3, h⟩ := bdS h
  refine J_callV C mw_X10_expected ml_RX11_309 (m_X10_expected x.2.1 g (CxI C) q1 hz2 q3 cq3) oC_54 rfl (Nat.le_of_ble_eq_true rfl) (Nat.le_of_ble_eq_true rfl) rfl rfl (Nat.le_of_ble_eq_true rfl) dX11_duds_11 (fun hz4 => ?_)
  refine J_aload_n C 0 dX11_duds_14 rfl 0 rfl ?_
  refine J_getR C fl_RX11_69 oC_0 rfl dX11_duds_15 ?_
  refine J_iconst C dX11_duds_18 ?_
  obtain ⟨q5, cq5, h⟩ := bdS h
  refine J_callV C mw_X10_greatestMatching ml_RX11_312 (m_X10_greatestMatching x.2.1 g (CxI C) (-1) rl_m1 q1 hz2 q5 cq5) oC_54 rfl (Nat.le_of_ble_eq_true rfl) (Nat.le_of_ble_eq_true rfl) rfl rfl (Nat.le_of_ble_eq_true rfl) dX11_duds_19 (fun hz6 => ?_)
  refine J_isub C dX11_duds_22 h (fun v7 hv8 h => ?_)
  have e9 := sE h
  subst e9
  exact J_iret C E ⟨hv8, hz6.2⟩ dX11_duds_23
set_option maxRecDepth 100000 in
set_option maxHeartbeats 4000000 in
theorem wX10_mayBeSeen_L2 {x : Ct} {g : Gm} (C : Cx x yC g 3 cX10_mayBeSeen RX10 4 86) : ∀ (n : Nat) (x1 : Int) (h1 : rg x1) (x2 : Int) (h2 : rg x2) (σ : Sg) (hσ : wfS yC σ) (q : (Unit) ⊕ (Unit)) (h : fX10_mayBeSeen_L2 n x1 x2 σ = some q) (k0 : ∀ a : Unit, q = .inl a → J x yC g 3 36 [] [] σ) (k1 : ∀ a : Unit, q = .inr a → J x yC g 3 44 [] [] σ), J x yC g 3 2 [(0, .ref (gad g 54)), (1, vi x1), (2, vi x2)] [] σ := by
  intro n
  induction n with
  | zero =>
    intro x1 h1 x2 h2 σ hσ q h k0 k1
    exact absurd h (by intro z; cases z)
  | succ n ih =>
    intro x1 h1 x2 h2 σ hσ q h k0 k1
    rw [fX10_mayBeSeen_L2] at h
    refine J_iload_n C 2 dX10_mayBeSeen_2 rfl 2 rfl ?_
    refine J_aload_n C 0 dX10_mayBeSeen_3 rfl 0 rfl ?_
    refine J_getI C fl_RX10_34 oC_54 rfl dX10_mayBeSeen_4 ?_
    refine J_icmp_ge C h2 (hσ 54 6 lC_54) (tgt := 44) dX10_mayBeSeen_7 (by decide) h (fun h c11 => ?_) (fun h c11 => ?_)
    · refine J_iload_n C 2 dX10_mayBeSeen_10 rfl 2 rfl ?_
      refine J_bipush C dX10_mayBeSeen_11 (bp8 (by decide) (by decide)) ?_
      refine J_icmp_ge C h2 rl_60 (tgt := 44) dX10_mayBeSeen_13 (by decide) h (fun h c10 => ?_) (fun h c10 => ?_)
      · refine J_aload_n C 0 dX10_mayBeSeen_16 rfl 0 rfl ?_
        refine J_iload_n C 1 dX10_mayBeSeen_17 rfl 1 rfl ?_
        refine J_aload_n C 0 dX10_mayBeSeen_18 rfl 0 rfl ?_
        refine J_getR C fl_RX10_9 oC_54 rfl dX10_mayBeSeen_19 ?_
        refine J_iload_n C 2 dX10_mayBeSeen_22 rfl 2 rfl ?_
        refine J_iald C aC_55 hσ dX10_mayBeSeen_23 h (fun v1 hv2 h => ?_)
        refine J_aload_n C 0 dX10_mayBeSeen_24 rfl 0 rfl ?_
        refine J_getR C fl_RX10_15 oC_54 rfl dX10_mayBeSeen_25 ?_
        refine J_iload_n C 2 dX10_mayBeSeen_28 rfl 2 rfl ?_
        refine J_iald C aC_56 hσ dX10_mayBeSeen_29 h (fun v3 hv4 h => ?_)
        obtain ⟨q5, cq5, h⟩ := bdS h
        refine J_callV C mw_X10_mayBe ml_RX10_47 (m_X10_mayBe x.2.1 g (CxI C) x1 h1 v1 hv2 v3 hv4 σ hσ q5 cq5) oC_54 rfl (Nat.le_of_ble_eq_true rfl) (Nat.le_of_ble_eq_true rfl) rfl rfl (Nat.le_of_ble_eq_true rfl) dX10_mayBeSeen_30 (fun hz6 => ?_)
        refine J_if_eq C (rg01 hz6) (tgt := 38) dX10_mayBeSeen_33 (by decide) h (fun h c9 => ?_) (fun h c9 => ?_)
        · refine J_iinc C 2 2 dX10_mayBeSeen_38 rfl (by decide) h (fun v7 hv8 h => ?_)
          refine J_goto C (tgt := 2) dX10_mayBeSeen_41 (by decide) ?_
          exact J_sub [1, 2, 0] rfl (ih x1 h1 v7 hv8 σ hσ q h k0 k1)
        · have e9 := sE h
          exact J_sub [] rfl (k0 () e9.symm)
      · have e9 := sE h
        exact J_sub [] rfl (k1 () e9.symm)
    · have e9 := sE h
      exact J_sub [] rfl (k1 () e9.symm)
set_option maxRecDepth 100000 in
set_option maxHeartbeats 4000000 in
theorem m_X10_mayBeSeen (l : Launch) (g : Gm) (hg : gInj yC g) (x1 : Int) (h1 : rg x1) (σ : Sg) (hσ : wfS yC σ) (q : Int) (h : fX10_mayBeSeen x1 σ = some q) : CJ l yC g yX10_mayBeSeen cX10_mayBeSeen 3 (some .boolean) 4 86 [.ref (gad g 54), vi x1] σ (some (vi q)) σ (q = 0 ∨ q = 1) := by
  refine CJ_of hg (by decide) rfl (Nat.le_of_ble_eq_true rfl) (lo := [(0, .ref (gad g 54)), (1, vi x1)]) rfl (fun x C E => ?_)
  unfold fX10_mayBeSeen at h
  refine J_iconst C dX10_mayBeSeen_0 ?_
  refine J_istore_n (lo2 := [(2, vi 0), (0, .ref (gad g 54)), (1, vi x1)]) C 2 dX10_mayBeSeen_1 rfl (by decide) rfl ?_
  obtain ⟨q12, cq12, h⟩ := bdS h
  refine J_sub [1, 2, 0] rfl (wX10_mayBeSeen_L2 C fu x1 h1 0 rl_0 σ hσ q12 cq12 (fun a13 ea13 => ?_) (fun a14 ea14 => ?_))
  · subst ea13
    have h := elL h
    refine J_iconst C dX10_mayBeSeen_36 ?_
    have e9 := sE h
    subst e9
    exact J_zret C (Or.inr rfl) E (Or.inr rfl) dX10_mayBeSeen_37
  · subst ea14
    have h := elR h
    refine J_iconst C dX10_mayBeSeen_44 ?_
    have e9 := sE h
    subst e9
    exact J_zret C (Or.inl rfl) E (Or.inl rfl) dX10_mayBeSeen_45
set_option maxRecDepth 100000 in
set_option maxHeartbeats 4000000 in
theorem m_X11_dud (l : Launch) (g : Gm) (hg : gInj yC g) (x1 : Int) (h1 : rg x1) (σ : Sg) (hσ : wfS yC σ) (q : Int × Sg) (h : fX11_dud x1 σ = some q) : CJ l yC g yX11_dud cX11_dud 2 (some .int) 7 174 [.ref (gad g 0), vi x1] σ (some (vi q.1)) q.2 ((rg q.1) ∧ wfS yC q.2) := by
  refine CJ_of hg (by decide) rfl (Nat.le_of_ble_eq_true rfl) (lo := [(0, .ref (gad g 0)), (1, vi x1)]) rfl (fun x C E => ?_)
  unfold fX11_dud at h
  refine J_aload_n C 0 dX11_dud_0 rfl 0 rfl ?_
  refine J_getR C fl_RX11_19 oC_0 rfl dX11_dud_1 ?_
  refine J_iload_n C 1 dX11_dud_4 rfl 1 rfl ?_
  obtain ⟨q1, cq1, h⟩ := bdS h
  refine J_callV C mw_X1_isCue ml_RX11_199 (m_X1_isCue x.2.1 g (CxI C) 19 cues_19 x1 h1 σ hσ q1 cq1) cues_19.1 rfl (Nat.le_of_ble_eq_true rfl) (Nat.le_of_ble_eq_true rfl) rfl rfl (Nat.le_of_ble_eq_true rfl) dX11_dud_5 (fun hz2 => ?_)
  refine J_if_ne C (rg01 hz2) (tgt := 13) dX11_dud_8 (by decide) h (fun h c16 => ?_) (fun h c16 => ?_)
  · refine J_iconst C dX11_dud_11 ?_
    have e9 := sE h
    subst e9
    exact J_iret C E ⟨rl_m1, hσ⟩ dX11_dud_12
  · refine J_aload_n C 0 dX11_dud_13 rfl 0 rfl ?_
    refine J_getR C fl_RX11_60 oC_0 rfl dX11_dud_14 ?_
    obtain ⟨q3, cq3, h⟩ := bdS h
    refine J_callV C mw_X7_reckon ml_RX11_291 (m_X7_reckon x.2.1 g (CxI C) σ hσ q3 cq3) oC_48 rfl (Nat.le_of_ble_eq_true rfl) (Nat.le_of_ble_eq_true rfl) rfl rfl (Nat.le_of_ble_eq_true rfl) dX11_dud_17 (fun hz4 => ?_)
    refine J_aload_n C 0 dX11_dud_20 rfl 0 rfl ?_
    refine J_getR C fl_RX11_60 oC_0 rfl dX11_dud_21 ?_
    refine J_iload_n C 1 dX11_dud_24 rfl 1 rfl ?_
    obtain ⟨q5, cq5, h⟩ := bdS h
    refine J_callV C mw_X7_isExpected ml_RX11_315 (m_X7_isExpected x.2.1 g (CxI C) x1 h1 q3 hz4 q5 cq5) oC_48 rfl (Nat.le_of_ble_eq_true rfl) (Nat.le_of_ble_eq_true rfl) rfl rfl (Nat.le_of_ble_eq_true rfl) dX11_dud_25 (fun hz6 => ?_)
    refine J_if_ne C (rg01 hz6) (tgt := 34) dX11_dud_28 (by decide) h (fun h c15 => ?_) (fun h c15 => ?_)
    · refine J_bipush C dX11_dud_31 (bp8 (by decide) (by decide)) ?_
      have e9 := sE h
      subst e9
      exact J_iret C E ⟨rl_m2, hz4⟩ dX11_dud_33
    · refine J_aload_n C 0 dX11_dud_34 rfl 0 rfl ?_
      refine J_getR C fl_RX11_69 oC_0 rfl dX11_dud_35 ?_
      refine J_iload_n C 1 dX11_dud_38 rfl 1 rfl ?_
      obtain ⟨q7, cq7, h⟩ := bdS h
      refine J_callV C mw_X10_mayBeSeen ml_RX11_318 (m_X10_mayBeSeen x.2.1 g (CxI C) x1 h1 q3 hz4 q7 cq7) oC_54 rfl (Nat.le_of_ble_eq_true rfl) (Nat.le_of_ble_eq_true rfl) rfl rfl (Nat.le_of_ble_eq_true rfl) dX11_dud_39 (fun hz8 => ?_)
      refine J_if_ne C (rg01 hz8) (tgt := 47) dX11_dud_42 (by decide) h (fun h c14 => ?_) (fun h c14 => ?_)
      · refine J_iconst C dX11_dud_45 ?_
        have e9 := sE h
        subst e9
        exact J_iret C E ⟨rl_2, hz4⟩ dX11_dud_46
      · refine J_aload_n C 0 dX11_dud_47 rfl 0 rfl ?_
        refine J_getR C fl_RX11_69 oC_0 rfl dX11_dud_48 ?_
        refine J_iload_n C 1 dX11_dud_51 rfl 1 rfl ?_
        obtain ⟨q9, cq9, h⟩ := bdS h
        refine J_callV C mw_X10_greatestMatching ml_RX11_312 (m_X10_greatestMatching x.2.1 g (CxI C) x1 h1 q3 hz4 q9 cq9) oC_54 rfl (Nat.le_of_ble_eq_true rfl) (Nat.le_of_ble_eq_true rfl) rfl rfl (Nat.le_of_ble_eq_true rfl) dX11_dud_52 (fun hz10 => ?_)
        refine J_aload_n C 0 dX11_dud_55 rfl 0 rfl ?_
        refine J_getR C fl_RX11_69 oC_0 rfl dX11_dud_56 ?_
        refine J_iconst C dX11_dud_59 ?_
        obtain ⟨q11, cq11, h⟩ := bdS h
        refine J_callV C mw_X10_greatestMatching ml_RX11_312 (m_X10_greatestMatching x.2.1 g (CxI C) (-1) rl_m1 q9.2 hz10.2 q11 cq11) oC_54 rfl (Nat.le_of_ble_eq_true rfl) (Nat.le_of_ble_eq_true rfl) rfl rfl (Nat.le_of_ble_eq_true rfl) dX11_dud_60 (fun hz12 => ?_)
        refine J_icmp_ge C hz10.1 hz12.1 (tgt := 70) dX11_dud_63 (by decide) h (fun h c13 => ?_) (fun h c13 => ?_)
        · refine J_iconst C dX11_dud_66 ?_
          refine J_goto C (tgt := 71) dX11_dud_67 (by decide) ?_
          have e9 := sE h
          subst e9
          exact J_iret C E ⟨rl_0, hz12.2⟩ dX11_dud_71
        · refine J_iconst C dX11_dud_70 ?_
          have e9 := sE h
          subst e9
          exact J_iret C E ⟨rl_1, hz12.2⟩ dX11_dud_71
set_option maxRecDepth 100000 in
set_option maxHeartbeats 4000000 in
theorem m_X11_strange (l : Launch) (g : Gm) (hg : gInj yC g)  (σ : Sg) (hσ : wfS yC σ) (q : Int × Sg) (h : fX11_strange  σ = some q) : CJ l yC g yX11_strange cX11_strange 1 (some .int) 7 174 [.ref (gad g 0)] σ (some (vi q.1)) q.2 ((rg q.1) ∧ wfS yC q.2) := by
  refine CJ_of hg (by decide) rfl (Nat.le_of_ble_eq_true rfl) (lo := [(0, .ref (gad g 0))]) rfl (fun x C E => ?_)
  unfold fX11_strange at h
  refine J_aload_n C 0 dX11_strange_0 rfl 0 rfl ?_
  refine J_getR C fl_RX11_60 oC_0 rfl dX11_strange_1 ?_
  obtain ⟨q1, cq1, h⟩ := bdS h
  refine J_callV C mw_X7_reckon ml_RX11_291 (m_X7_reckon x.2.1 g (CxI C) σ hσ q1 cq1) oC_48 rfl (Nat.le_of_ble_eq_true rfl) (Nat.le_of_ble_eq_true rfl) rfl rfl (Nat.le_of_ble_eq_true rfl) dX11_strange_4 (fun hz2 => ?_)
  refine J_aload_n C 0 dX11_strange_7 rfl 0 rfl ?_
  refine J_getR C fl_RX11_69 oC_0 rfl dX11_strange_8 ?_
  refine J_getI C fl_RX11_96 oC_54 rfl dX11_strange_11 ?_
  refine J_aload_n C 0 dX11_strange_14 rfl 0 rfl ?_
  refine J_getR C fl_RX11_69 oC_0 rfl dX11_strange_15 ?_
  refine J_iconst C dX11_strange_18 ?_
  obtain ⟨q3, cq3, h⟩ := bdS h
  refine J_callV C mw_X10_greatestMatching ml_RX11_312 (m_X10_greatestMatching x.2.1 g (CxI C) (-1) rl_m1 q1 hz2 q3 cq3) oC_54 rfl (Nat.le_of_ble_eq_true rfl) (Nat.le_of_ble_eq_true rfl) rfl rfl (Nat.le_of_ble_eq_true rfl) dX11_strange_19 (fun hz4 => ?_)
  refine J_isub C dX11_strange_22 h (fun v5 hv6 h => ?_)
  have e9 := sE h
  subst e9
  exact J_iret C E ⟨hv6, hz4.2⟩ dX11_strange_23
set_option maxRecDepth 100000 in
set_option maxHeartbeats 4000000 in
theorem m_X9_makeRow (l : Launch) (g : Gm) (hg : gInj yC g) (x0 : Nat) (h0 : isTape x0) (x1 : Int) (h1 : rg x1) (x2 : Int) (h2 : rg x2) (σ : Sg) (hσ : wfS yC σ) (q : Sg) (h : fX9_makeRow x0 x1 x2 σ = some q) : CJ l yC g yX9_makeRow cX9_makeRow 3 none 1 60 [.ref (gad g x0), vi x1, vi x2] σ none q (wfS yC q) := by
  refine CJ_of hg (by decide) rfl (Nat.le_of_ble_eq_true rfl) (lo := [(0, .ref (gad g x0)), (1, vi x1), (2, vi x2)]) rfl (fun x C E => ?_)
  unfold fX9_makeRow at h
  refine J_aload_n C 0 dX9_makeRow_0 rfl 0 rfl ?_
  refine J_iload_n C 1 dX9_makeRow_1 rfl 1 rfl ?_
  refine J_putI C fl_RX9_22 fp_RX9_0 h0.1 rfl rfl h0.2.1 hσ h1 dX9_makeRow_2 h (fun σ1 hσ2 h => ?_)
  refine J_aload_n C 0 dX9_makeRow_5 rfl 0 rfl ?_
  refine J_iload_n C 2 dX9_makeRow_6 rfl 2 rfl ?_
  refine J_putI C fl_RX9_26 fp_RX9_1 h0.1 rfl rfl h0.2.1 hσ2 h2 dX9_makeRow_7 h (fun σ3 hσ4 h => ?_)
  refine J_aload_n C 0 dX9_makeRow_10 rfl 0 rfl ?_
  refine J_getR C fl_RX9_9 h0.1 rfl dX9_makeRow_11 ?_
  refine J_lconst0 C dX9_makeRow_14 ?_
  refine J_fillL C h0.2.2.1 hσ4 ml_RX9_29 (Nat.le_of_ble_eq_true rfl) (Nat.le_of_ble_eq_true rfl) dX9_makeRow_15 h (fun σ5 hσ6 h => ?_)
  have e9 := sE h
  subst e9
  exact J_vret C E hσ6 dX9_makeRow_18
set_option maxRecDepth 100000 in
set_option maxHeartbeats 4000000 in
theorem m_X11_tape (l : Launch) (g : Gm) (hg : gInj yC g) (x1 : Int) (h1 : rg x1) (x2 : Int) (h2 : rg x2) (x3 : Int) (h3 : rg x3) (σ : Sg) (hσ : wfS yC σ) (q : Int × Sg) (h : fX11_tape x1 x2 x3 σ = some q) : CJ l yC g yX11_tape cX11_tape 5 (some .int) 2 82 [.ref (gad g 0), vi x1, vi x2, vi x3] σ (some (vi q.1)) q.2 ((rg q.1) ∧ wfS yC q.2) := by
  refine CJ_of hg (by decide) rfl (Nat.le_of_ble_eq_true rfl) (lo := [(0, .ref (gad g 0)), (1, vi x1), (2, vi x2), (3, vi x3)]) rfl (fun x C E => ?_)
  unfold fX11_tape at h
  refine J_aload_n C 0 dX11_tape_0 rfl 0 rfl ?_
  refine J_iload_n C 1 dX11_tape_1 rfl 1 rfl ?_
  rcases lt_or h with ⟨c1, h⟩ | ⟨c1, h⟩
  · refine J_callV C mw_X11_tapeAt ml_RX11_171 (m_X11_tapeAt1 x.2.1 g (CxI C) x1 h1 σ hσ c1) oC_0 rfl (Nat.le_of_ble_eq_true rfl) (Nat.le_of_ble_eq_true rfl) rfl rfl (Nat.le_of_ble_eq_true rfl) dX11_tape_2 (fun _ => ?_)
    refine J_astore (lo2 := [(4, .ref (gad g (tpO x1))), (0, .ref (gad g 0)), (1, vi x1), (2, vi x2), (3, vi x3)]) C 4 dX11_tape_5 (by decide) rfl ?_
    refine J_aload C 4 dX11_tape_7 0 rfl ?_
    refine J_isnull C dX11_tape_9 ?_
    refine J_iload_n C 2 dX11_tape_12 rfl 3 rfl ?_
    refine J_iconst C dX11_tape_13 ?_
    refine J_icmp_lt C h2 rl_1 (tgt := 28) dX11_tape_14 (by decide) h (fun h c9 => ?_) (fun h c9 => ?_)
    · refine J_iconst C dX11_tape_28 ?_
      have e9 := sE h
      subst e9
      exact J_iret C E ⟨rl_m1, hσ⟩ dX11_tape_29
    · refine J_iload_n C 2 dX11_tape_17 rfl 3 rfl ?_
      refine J_iconst C dX11_tape_18 ?_
      refine J_icmp_gt C h2 rl_4 (tgt := 28) dX11_tape_19 (by decide) h (fun h c8 => ?_) (fun h c8 => ?_)
      · refine J_iload_n C 3 dX11_tape_22 rfl 4 rfl ?_
        refine J_bipush C dX11_tape_23 (bp8 (by decide) (by decide)) ?_
        refine J_icmp_le C h3 rl_100 (tgt := 30) dX11_tape_25 (by decide) h (fun h c7 => ?_) (fun h c7 => ?_)
        · refine J_iload_n C 3 dX11_tape_30 rfl 4 rfl ?_
          refine J_if_ge C h3 (tgt := 41) dX11_tape_31 (by decide) h (fun h c6 => ?_) (fun h c6 => ?_)
          · refine J_aload_n C 0 dX11_tape_34 rfl 1 rfl ?_
            refine J_bipush C dX11_tape_35 (bp8 (by decide) (by decide)) ?_
            obtain ⟨q4, cq4, h⟩ := bdS h
            refine J_callV C mw_X11_refuse ml_RX11_178 (m_X11_refuse x.2.1 g (CxI C) (-14) rl_m14 σ hσ q4 cq4) oC_0 rfl (Nat.le_of_ble_eq_true rfl) (Nat.le_of_ble_eq_true rfl) rfl rfl (Nat.le_of_ble_eq_true rfl) dX11_tape_37 (fun hz5 => ?_)
            have e9 := sE h
            subst e9
            exact J_iret C E ⟨hz5.1, hz5.2⟩ dX11_tape_40
          · refine J_aload C 4 dX11_tape_41 0 rfl ?_
            refine J_iload_n C 2 dX11_tape_43 rfl 3 rfl ?_
            refine J_iload_n C 3 dX11_tape_44 rfl 4 rfl ?_
            obtain ⟨q2, cq2, h⟩ := bdS h
            refine J_callV C mw_X9_makeRow ml_RX11_321 (m_X9_makeRow x.2.1 g (CxI C) (tpO x1) (tpA c1.1 c1.2) x2 h2 x3 h3 σ hσ q2 cq2) (tpA c1.1 c1.2).1 rfl (Nat.le_of_ble_eq_true rfl) (Nat.le_of_ble_eq_true rfl) rfl rfl (Nat.le_of_ble_eq_true rfl) dX11_tape_45 (fun hz3 => ?_)
            refine J_iload_n C 3 dX11_tape_48 rfl 4 rfl ?_
            have e9 := sE h
            subst e9
            exact J_iret C E ⟨h3, hz3⟩ dX11_tape_49
        · refine J_iconst C dX11_tape_28 ?_
          have e9 := sE h
          subst e9
          exact J_iret C E ⟨rl_m1, hσ⟩ dX11_tape_29
      · refine J_iconst C dX11_tape_28 ?_
        have e9 := sE h
        subst e9
        exact J_iret C E ⟨rl_m1, hσ⟩ dX11_tape_29
  · refine J_callV C mw_X11_tapeAt ml_RX11_171 (m_X11_tapeAt0 x.2.1 g (CxI C) x1 h1 σ hσ c1) oC_0 rfl (Nat.le_of_ble_eq_true rfl) (Nat.le_of_ble_eq_true rfl) rfl rfl (Nat.le_of_ble_eq_true rfl) dX11_tape_2 (fun _ => ?_)
    refine J_astoreN (lo2 := [(4, .null), (0, .ref (gad g 0)), (1, vi x1), (2, vi x2), (3, vi x3)]) C 4 dX11_tape_5 (by decide) rfl ?_
    refine J_aloadN C 4 dX11_tape_7 0 rfl ?_
    refine J_isnullN C (tgt := 28) dX11_tape_9 (by decide) ?_
    refine J_iconst C dX11_tape_28 ?_
    have e9 := sE h
    subst e9
    exact J_iret C E ⟨rl_m1, hσ⟩ dX11_tape_29
set_option maxRecDepth 100000 in
set_option maxHeartbeats 4000000 in
theorem m_X9_makeShow (l : Launch) (g : Gm) (hg : gInj yC g) (x0 : Nat) (h0 : isTape x0) (x1 : Nat) (h1 : isCues x1) (σ : Sg) (hσ : wfS yC σ) (q : Sg) (h : fX9_makeShow x0 x1 σ = some q) : CJ l yC g yX9_makeShow cX9_makeShow 2 none 2 81 [.ref (gad g x0), .ref (gad g x1)] σ none q (wfS yC q) := by
  refine CJ_of hg (by decide) rfl (Nat.le_of_ble_eq_true rfl) (lo := [(0, .ref (gad g x0)), (1, .ref (gad g x1))]) rfl (fun x C E => ?_)
  unfold fX9_makeShow at h
  refine J_aload_n C 0 dX9_makeShow_0 rfl 0 rfl ?_
  refine J_iconst C dX9_makeShow_1 ?_
  refine J_putI C fl_RX9_22 fp_RX9_0 h0.1 rfl rfl h0.2.1 hσ rl_5 dX9_makeShow_2 h (fun σ1 hσ2 h => ?_)
  refine J_aload_n C 0 dX9_makeShow_5 rfl 0 rfl ?_
  refine J_iconst C dX9_makeShow_6 ?_
  refine J_putI C fl_RX9_26 fp_RX9_1 h0.1 rfl rfl h0.2.1 hσ2 rl_0 dX9_makeShow_7 h (fun σ3 hσ4 h => ?_)
  refine J_aload_n C 0 dX9_makeShow_10 rfl 0 rfl ?_
  refine J_getR C fl_RX9_18 h0.1 rfl dX9_makeShow_11 ?_
  refine J_aload_n C 1 dX9_makeShow_14 rfl 1 rfl ?_
  obtain ⟨q5, cq5, h⟩ := bdS h
  refine J_callV C mw_X1_become ml_RX9_35 (m_X1_become x.2.1 g (CxI C) (x0 + 2) h0.2.2.2 x1 h1 σ3 hσ4 q5 cq5) h0.2.2.2.1 rfl (Nat.le_of_ble_eq_true rfl) (Nat.le_of_ble_eq_true rfl) rfl rfl (Nat.le_of_ble_eq_true rfl) dX9_makeShow_15 (fun hz6 => ?_)
  have e9 := sE h
  subst e9
  exact J_vret C E hz6 dX9_makeShow_18
set_option maxRecDepth 100000 in
set_option maxHeartbeats 4000000 in
theorem m_X11_keep (l : Launch) (g : Gm) (hg : gInj yC g) (x1 : Int) (h1 : rg x1) (σ : Sg) (hσ : wfS yC σ) (q : Int × Sg) (h : fX11_keep x1 σ = some q) : CJ l yC g yX11_keep cX11_keep 3 (some .int) 3 102 [.ref (gad g 0), vi x1] σ (some (vi q.1)) q.2 ((rg q.1) ∧ wfS yC q.2) := by
  refine CJ_of hg (by decide) rfl (Nat.le_of_ble_eq_true rfl) (lo := [(0, .ref (gad g 0)), (1, vi x1)]) rfl (fun x C E => ?_)
  unfold fX11_keep at h
  refine J_aload_n C 0 dX11_keep_0 rfl 0 rfl ?_
  refine J_iload_n C 1 dX11_keep_1 rfl 1 rfl ?_
  rcases lt_or h with ⟨c1, h⟩ | ⟨c1, h⟩
  · refine J_callV C mw_X11_tapeAt ml_RX11_171 (m_X11_tapeAt1 x.2.1 g (CxI C) x1 h1 σ hσ c1) oC_0 rfl (Nat.le_of_ble_eq_true rfl) (Nat.le_of_ble_eq_true rfl) rfl rfl (Nat.le_of_ble_eq_true rfl) dX11_keep_2 (fun _ => ?_)
    refine J_astore_n (lo2 := [(2, .ref (gad g (tpO x1))), (0, .ref (gad g 0)), (1, vi x1)]) C 2 dX11_keep_5 rfl (by decide) rfl ?_
    refine J_aload_n C 2 dX11_keep_6 rfl 0 rfl ?_
    refine J_nonnull C (tgt := 12) dX11_keep_7 (by decide) ?_
    refine J_aload_n C 2 dX11_keep_12 rfl 0 rfl ?_
    refine J_aload_n C 0 dX11_keep_13 rfl 1 rfl ?_
    refine J_getR C fl_RX11_19 oC_0 rfl dX11_keep_14 ?_
    obtain ⟨q2, cq2, h⟩ := bdS h
    refine J_callV C mw_X9_makeShow ml_RX11_324 (m_X9_makeShow x.2.1 g (CxI C) (tpO x1) (tpA c1.1 c1.2) 19 cues_19 σ hσ q2 cq2) (tpA c1.1 c1.2).1 rfl (Nat.le_of_ble_eq_true rfl) (Nat.le_of_ble_eq_true rfl) rfl rfl (Nat.le_of_ble_eq_true rfl) dX11_keep_17 (fun hz3 => ?_)
    refine J_aload_n C 0 dX11_keep_20 rfl 1 rfl ?_
    refine J_getR C fl_RX11_19 oC_0 rfl dX11_keep_21 ?_
    refine J_getI C fl_RX11_90 cues_19.1 rfl dX11_keep_24 ?_
    have e9 := sE h
    subst e9
    exact J_iret C E ⟨(hz3 19 4 cues_19.2.1), hz3⟩ dX11_keep_27
  · refine J_callV C mw_X11_tapeAt ml_RX11_171 (m_X11_tapeAt0 x.2.1 g (CxI C) x1 h1 σ hσ c1) oC_0 rfl (Nat.le_of_ble_eq_true rfl) (Nat.le_of_ble_eq_true rfl) rfl rfl (Nat.le_of_ble_eq_true rfl) dX11_keep_2 (fun _ => ?_)
    refine J_astore_nN (lo2 := [(2, .null), (0, .ref (gad g 0)), (1, vi x1)]) C 2 dX11_keep_5 rfl (by decide) rfl ?_
    refine J_aload_nN C 2 dX11_keep_6 rfl 0 rfl ?_
    refine J_nonnullN C dX11_keep_7 ?_
    refine J_iconst C dX11_keep_10 ?_
    have e9 := sE h
    subst e9
    exact J_iret C E ⟨rl_m1, hσ⟩ dX11_keep_11
set_option maxRecDepth 100000 in
set_option maxHeartbeats 4000000 in
theorem wX8_tellsAllOf_L2 {x : Ct} {g : Gm} (C : Cx x yC g 4 cX8_tellsAllOf RX8 2 42) : ∀ (n : Nat) (x1 : Nat) (h1 : isCues x1) (x2 : Int) (h2 : rg x2) (σ : Sg) (hσ : wfS yC σ) (q : (Unit) ⊕ (Unit)) (h : fX8_tellsAllOf_L2 n x1 x2 σ = some q) (k0 : ∀ a : Unit, q = .inl a → J x yC g 4 44 [] [] σ) (k1 : ∀ a : Unit, q = .inr a → J x yC g 4 52 [] [] σ), J x yC g 4 2 [(0, .ref (gad g 1)), (1, .ref (gad g x1)), (2, vi x2)] [] σ := by
  intro n
  induction n with
  | zero =>
    intro x1 h1 x2 h2 σ hσ q h k0 k1
    exact absurd h (by intro z; cases z)
  | succ n ih =>
    intro x1 h1 x2 h2 σ hσ q h k0 k1
    rw [fX8_tellsAllOf_L2] at h
    have pc7 : ∀ (x2 : Int) (h2 : rg x2), fX8_tellsAllOf_L2P46 (fX8_tellsAllOf_L2 n) x1 x2 σ = some q → J x yC g 4 46 [(0, .ref (gad g 1)), (1, .ref (gad g x1)), (2, vi x2)] [] σ := by
      intro x2 h2 h
      unfold fX8_tellsAllOf_L2P46 at h
      refine J_iinc C 2 2 dX8_tellsAllOf_46 rfl (by decide) h (fun v8 hv9 h => ?_)
      refine J_goto C (tgt := 2) dX8_tellsAllOf_49 (by decide) ?_
      exact J_sub [1, 2, 0] rfl (ih x1 h1 v8 hv9 σ hσ q h k0 k1)
    refine J_iload_n C 2 dX8_tellsAllOf_2 rfl 2 rfl ?_
    refine J_aload_n C 1 dX8_tellsAllOf_3 rfl 1 rfl ?_
    refine J_getI C fl_RX8_68 h1.1 rfl dX8_tellsAllOf_4 ?_
    refine J_icmp_ge C h2 (hσ x1 4 h1.2.1) (tgt := 52) dX8_tellsAllOf_7 (by decide) h (fun h c17 => ?_) (fun h c17 => ?_)
    · refine J_aload_n C 1 dX8_tellsAllOf_10 rfl 1 rfl ?_
      refine J_iload_n C 2 dX8_tellsAllOf_11 rfl 2 rfl ?_
      obtain ⟨q1, cq1, h⟩ := bdS h
      refine J_callV C mw_X1_bargeOf ml_RX8_72 (m_X1_bargeOf x.2.1 g (CxI C) x1 h1 x2 h2 σ hσ q1 cq1) h1.1 rfl (Nat.le_of_ble_eq_true rfl) (Nat.le_of_ble_eq_true rfl) rfl rfl (Nat.le_of_ble_eq_true rfl) dX8_tellsAllOf_12 (fun hz2 => ?_)
      refine J_istore_n (lo2 := [(3, vi q1), (0, .ref (gad g 1)), (1, .ref (gad g x1)), (2, vi x2)]) C 3 dX8_tellsAllOf_15 rfl (by decide) rfl ?_
      refine J_aload_n C 0 dX8_tellsAllOf_16 rfl 1 rfl ?_
      refine J_getR C fl_RX8_28 oC_1 rfl dX8_tellsAllOf_17 ?_
      refine J_aload_n C 1 dX8_tellsAllOf_20 rfl 2 rfl ?_
      refine J_iload_n C 2 dX8_tellsAllOf_21 rfl 3 rfl ?_
      obtain ⟨q3, cq3, h⟩ := bdS h
      refine J_callV C mw_X1_kindOf ml_RX8_62 (m_X1_kindOf x.2.1 g (CxI C) x1 h1 x2 h2 σ hσ q3 cq3) h1.1 rfl (Nat.le_of_ble_eq_true rfl) (Nat.le_of_ble_eq_true rfl) rfl rfl (Nat.le_of_ble_eq_true rfl) dX8_tellsAllOf_22 (fun hz4 => ?_)
      obtain ⟨q5, cq5, h⟩ := bdS h
      refine J_callV C mw_X2_isTold ml_RX8_75 (m_X2_isTold x.2.1 g (CxI C) q3 hz4 σ hσ q5 cq5) oC_6 rfl (Nat.le_of_ble_eq_true rfl) (Nat.le_of_ble_eq_true rfl) rfl rfl (Nat.le_of_ble_eq_true rfl) dX8_tellsAllOf_25 (fun hz6 => ?_)
      refine J_if_eq C (rg01 hz6) (tgt := 44) dX8_tellsAllOf_28 (by decide) h (fun h c16 => ?_) (fun h c16 => ?_)
      · have e9 := sE h
        exact J_sub [] rfl (k0 () e9.symm)
      · refine J_iload_n C 3 dX8_tellsAllOf_31 rfl 0 rfl ?_
        refine J_iconst C dX8_tellsAllOf_32 ?_
        refine J_icmp_eq C hz2 rl_m1 (tgt := 46) dX8_tellsAllOf_33 (by decide) h (fun h c15 => ?_) (fun h c15 => ?_)
        · exact J_sub [1, 2, 3] rfl (pc7 x2 h2 h)
        · refine J_aload_n C 0 dX8_tellsAllOf_36 rfl 1 rfl ?_
          refine J_iload_n C 3 dX8_tellsAllOf_37 rfl 0 rfl ?_
          obtain ⟨q12, cq12, h⟩ := bdS h
          refine J_callV C mw_X8_isBarge ml_RX8_52 (m_X8_isBarge x.2.1 g (CxI C) q1 hz2 σ hσ q12 cq12) oC_1 rfl (Nat.le_of_ble_eq_true rfl) (Nat.le_of_ble_eq_true rfl) rfl rfl (Nat.le_of_ble_eq_true rfl) dX8_tellsAllOf_38 (fun hz13 => ?_)
          refine J_if_ne C (rg01 hz13) (tgt := 46) dX8_tellsAllOf_41 (by decide) h (fun h c14 => ?_) (fun h c14 => ?_)
          · have e9 := sE h
            exact J_sub [] rfl (k0 () e9.symm)
          · exact J_sub [1, 2, 3] rfl (pc7 x2 h2 h)
    · have e9 := sE h
      exact J_sub [] rfl (k1 () e9.symm)
set_option maxRecDepth 100000 in
set_option maxHeartbeats 4000000 in
theorem m_X8_tellsAllOf (l : Launch) (g : Gm) (hg : gInj yC g) (x1 : Nat) (h1 : isCues x1) (σ : Sg) (hσ : wfS yC σ) (q : Int) (h : fX8_tellsAllOf x1 σ = some q) : CJ l yC g yX8_tellsAllOf cX8_tellsAllOf 4 (some .boolean) 2 42 [.ref (gad g 1), .ref (gad g x1)] σ (some (vi q)) σ (q = 0 ∨ q = 1) := by
  refine CJ_of hg (by decide) rfl (Nat.le_of_ble_eq_true rfl) (lo := [(0, .ref (gad g 1)), (1, .ref (gad g x1))]) rfl (fun x C E => ?_)
  unfold fX8_tellsAllOf at h
  refine J_iconst C dX8_tellsAllOf_0 ?_
  refine J_istore_n (lo2 := [(2, vi 0), (0, .ref (gad g 1)), (1, .ref (gad g x1))]) C 2 dX8_tellsAllOf_1 rfl (by decide) rfl ?_
  obtain ⟨q18, cq18, h⟩ := bdS h
  refine J_sub [1, 2, 0] rfl (wX8_tellsAllOf_L2 C fu x1 h1 0 rl_0 σ hσ q18 cq18 (fun a19 ea19 => ?_) (fun a20 ea20 => ?_))
  · subst ea19
    have h := elL h
    refine J_iconst C dX8_tellsAllOf_44 ?_
    have e9 := sE h
    subst e9
    exact J_zret C (Or.inl rfl) E (Or.inl rfl) dX8_tellsAllOf_45
  · subst ea20
    have h := elR h
    refine J_iconst C dX8_tellsAllOf_52 ?_
    have e9 := sE h
    subst e9
    exact J_zret C (Or.inr rfl) E (Or.inr rfl) dX8_tellsAllOf_53
set_option maxRecDepth 100000 in
set_option maxHeartbeats 4000000 in
theorem wX11_back_L48 {x : Ct} {g : Gm} (C : Cx x yC g 5 cX11_back RX11 3 102) : ∀ (n : Nat) (x2 : Nat) (h2 : isTape x2) (x4 : Int) (h4 : rg x4) (σ : Sg) (hσ : wfS yC σ) (q : (Unit) ⊕ (Unit)) (h : fX11_back_L48 n x2 x4 σ = some q) (k0 : ∀ a : Unit, q = .inl a → J x yC g 5 76 [] [] σ) (k1 : ∀ a : Unit, q = .inr a → J x yC g 5 85 [(0, .ref (gad g 0)), (2, .ref (gad g x2))] [] σ), J x yC g 5 48 [(0, .ref (gad g 0)), (2, .ref (gad g x2)), (4, vi x4)] [] σ := by
  intro n
  induction n with
  | zero =>
    intro x2 h2 x4 h4 σ hσ q h k0 k1
    exact absurd h (by intro z; cases z)
  | succ n ih =>
    intro x2 h2 x4 h4 σ hσ q h k0 k1
    rw [fX11_back_L48] at h
    refine J_iload C 4 dX11_back_48 2 rfl ?_
    refine J_aload_n C 2 dX11_back_50 rfl 1 rfl ?_
    refine J_getR C fl_RX11_327 h2.1 rfl dX11_back_51 ?_
    refine J_getI C fl_RX11_90 h2.2.2.2.1 rfl dX11_back_54 ?_
    refine J_icmp_ge C h4 (hσ (x2 + 2) 4 h2.2.2.2.2.1) (tgt := 85) dX11_back_57 (by decide) h (fun h c11 => ?_) (fun h c11 => ?_)
    · refine J_aload_n C 0 dX11_back_60 rfl 0 rfl ?_
      refine J_getR C fl_RX11_10 oC_0 rfl dX11_back_61 ?_
      refine J_aload_n C 2 dX11_back_64 rfl 1 rfl ?_
      refine J_getR C fl_RX11_327 h2.1 rfl dX11_back_65 ?_
      refine J_iload C 4 dX11_back_68 2 rfl ?_
      obtain ⟨q6, cq6, h⟩ := bdS h
      refine J_callV C mw_X8_fireOf ml_RX11_219 (m_X8_fireOf x.2.1 g (CxI C) (x2 + 2) h2.2.2.2 x4 h4 σ hσ q6 cq6) oC_1 rfl (Nat.le_of_ble_eq_true rfl) (Nat.le_of_ble_eq_true rfl) rfl rfl (Nat.le_of_ble_eq_true rfl) dX11_back_70 (fun hz7 => ?_)
      refine J_if_ge C hz7 (tgt := 79) dX11_back_73 (by decide) h (fun h c10 => ?_) (fun h c10 => ?_)
      · have e9 := sE h
        exact J_sub [] rfl (k0 () e9.symm)
      · refine J_iinc C 4 2 dX11_back_79 rfl (by decide) h (fun v8 hv9 h => ?_)
        refine J_goto C (tgt := 48) dX11_back_82 (by decide) ?_
        exact J_sub [1, 2, 0] rfl (ih x2 h2 v8 hv9 σ hσ q h k0 k1)
    · have e9 := sE h
      exact J_sub [0, 1] rfl (k1 () e9.symm)
set_option maxRecDepth 100000 in
set_option maxHeartbeats 4000000 in
theorem m_X11_back (l : Launch) (g : Gm) (hg : gInj yC g) (x1 : Int) (h1 : rg x1) (σ : Sg) (hσ : wfS yC σ) (q : Int × Sg) (h : fX11_back x1 σ = some q) : CJ l yC g yX11_back cX11_back 5 (some .int) 3 102 [.ref (gad g 0), vi x1] σ (some (vi q.1)) q.2 ((rg q.1) ∧ wfS yC q.2) := by
  refine CJ_of hg (by decide) rfl (Nat.le_of_ble_eq_true rfl) (lo := [(0, .ref (gad g 0)), (1, vi x1)]) rfl (fun x C E => ?_)
  unfold fX11_back at h
  refine J_aload_n C 0 dX11_back_0 rfl 0 rfl ?_
  refine J_iload_n C 1 dX11_back_1 rfl 1 rfl ?_
  rcases lt_or h with ⟨c1, h⟩ | ⟨c1, h⟩
  · refine J_callV C mw_X11_tapeAt ml_RX11_171 (m_X11_tapeAt1 x.2.1 g (CxI C) x1 h1 σ hσ c1) oC_0 rfl (Nat.le_of_ble_eq_true rfl) (Nat.le_of_ble_eq_true rfl) rfl rfl (Nat.le_of_ble_eq_true rfl) dX11_back_2 (fun _ => ?_)
    refine J_astore_n (lo2 := [(2, .ref (gad g (tpO x1))), (0, .ref (gad g 0)), (1, vi x1)]) C 2 dX11_back_5 rfl (by decide) rfl ?_
    refine J_aload_n C 2 dX11_back_6 rfl 0 rfl ?_
    refine J_nonnull C (tgt := 12) dX11_back_7 (by decide) ?_
    refine J_aload_n C 2 dX11_back_12 rfl 0 rfl ?_
    refine J_iconst C dX11_back_13 ?_
    obtain ⟨q2, cq2, h⟩ := bdS h
    refine J_callV C mw_X9_refusalAs ml_RX11_175 (m_X9_refusalAs x.2.1 g (CxI C) (tpO x1) (tpA c1.1 c1.2) 5 rl_5 σ hσ q2 cq2) (tpA c1.1 c1.2).1 rfl (Nat.le_of_ble_eq_true rfl) (Nat.le_of_ble_eq_true rfl) rfl rfl (Nat.le_of_ble_eq_true rfl) dX11_back_14 (fun hz3 => ?_)
    refine J_istore_n (lo2 := [(3, vi q2), (2, .ref (gad g (tpO x1))), (0, .ref (gad g 0)), (1, vi x1)]) C 3 dX11_back_17 rfl (by decide) rfl ?_
    refine J_iload_n C 3 dX11_back_18 rfl 0 rfl ?_
    refine J_if_eq C hz3 (tgt := 28) dX11_back_19 (by decide) h (fun h c20 => ?_) (fun h c20 => ?_)
    · refine J_aload_n C 0 dX11_back_28 rfl 2 rfl ?_
      refine J_getR C fl_RX11_10 oC_0 rfl dX11_back_29 ?_
      refine J_aload_n C 2 dX11_back_32 rfl 1 rfl ?_
      refine J_getR C fl_RX11_327 (tpA c1.1 c1.2).1 rfl dX11_back_33 ?_
      obtain ⟨q4, cq4, h⟩ := bdS h
      refine J_callV C mw_X8_tellsAllOf ml_RX11_330 (m_X8_tellsAllOf x.2.1 g (CxI C) ((tpO x1) + 2) (tpA c1.1 c1.2).2.2.2 σ hσ q4 cq4) oC_1 rfl (Nat.le_of_ble_eq_true rfl) (Nat.le_of_ble_eq_true rfl) rfl rfl (Nat.le_of_ble_eq_true rfl) dX11_back_36 (fun hz5 => ?_)
      refine J_if_ne C (rg01 hz5) (tgt := 45) dX11_back_39 (by decide) h (fun h c17 => ?_) (fun h c17 => ?_)
      · refine J_bipush C dX11_back_42 (bp8 (by decide) (by decide)) ?_
        have e9 := sE h
        subst e9
        exact J_iret C E ⟨rl_m3, hσ⟩ dX11_back_44
      · refine J_iconst C dX11_back_45 ?_
        refine J_istore (lo2 := [(4, vi 0), (3, vi q2), (2, .ref (gad g (tpO x1))), (0, .ref (gad g 0)), (1, vi x1)]) C 4 dX11_back_46 (by decide) rfl ?_
        obtain ⟨q12, cq12, h⟩ := bdS h
        refine J_sub [3, 2, 0] rfl (wX11_back_L48 C fu (tpO x1) (tpA c1.1 c1.2) 0 rl_0 σ hσ q12 cq12 (fun a13 ea13 => ?_) (fun a14 ea14 => ?_))
        · subst ea13
          have h := elL h
          refine J_bipush C dX11_back_76 (bp8 (by decide) (by decide)) ?_
          have e9 := sE h
          subst e9
          exact J_iret C E ⟨rl_m5, hσ⟩ dX11_back_78
        · subst ea14
          have h := elR h
          refine J_aload_n C 0 dX11_back_85 rfl 0 rfl ?_
          refine J_aload_n C 2 dX11_back_86 rfl 1 rfl ?_
          refine J_getR C fl_RX11_327 (tpA c1.1 c1.2).1 rfl dX11_back_87 ?_
          obtain ⟨q15, cq15, h⟩ := bdS h
          refine J_callV C mw_X11_takeCues ml_RX11_188 (m_X11_takeCues x.2.1 g (CxI C) ((tpO x1) + 2) (tpA c1.1 c1.2).2.2.2 σ hσ q15 cq15) oC_0 rfl (Nat.le_of_ble_eq_true rfl) (Nat.le_of_ble_eq_true rfl) rfl rfl (Nat.le_of_ble_eq_true rfl) dX11_back_90 (fun hz16 => ?_)
          refine J_aload_n C 0 dX11_back_93 rfl 0 rfl ?_
          refine J_getR C fl_RX11_19 oC_0 rfl dX11_back_94 ?_
          refine J_getI C fl_RX11_90 cues_19.1 rfl dX11_back_97 ?_
          have e9 := sE h
          subst e9
          exact J_iret C E ⟨(hz16 19 4 cues_19.2.1), hz16⟩ dX11_back_100
    · refine J_aload_n C 0 dX11_back_22 rfl 2 rfl ?_
      refine J_iload_n C 3 dX11_back_23 rfl 0 rfl ?_
      obtain ⟨q18, cq18, h⟩ := bdS h
      refine J_callV C mw_X11_refuse ml_RX11_178 (m_X11_refuse x.2.1 g (CxI C) q2 hz3 σ hσ q18 cq18) oC_0 rfl (Nat.le_of_ble_eq_true rfl) (Nat.le_of_ble_eq_true rfl) rfl rfl (Nat.le_of_ble_eq_true rfl) dX11_back_24 (fun hz19 => ?_)
      have e9 := sE h
      subst e9
      exact J_iret C E ⟨hz19.1, hz19.2⟩ dX11_back_27
  · refine J_callV C mw_X11_tapeAt ml_RX11_171 (m_X11_tapeAt0 x.2.1 g (CxI C) x1 h1 σ hσ c1) oC_0 rfl (Nat.le_of_ble_eq_true rfl) (Nat.le_of_ble_eq_true rfl) rfl rfl (Nat.le_of_ble_eq_true rfl) dX11_back_2 (fun _ => ?_)
    refine J_astore_nN (lo2 := [(2, .null), (0, .ref (gad g 0)), (1, vi x1)]) C 2 dX11_back_5 rfl (by decide) rfl ?_
    refine J_aload_nN C 2 dX11_back_6 rfl 0 rfl ?_
    refine J_nonnullN C dX11_back_7 ?_
    refine J_iconst C dX11_back_10 ?_
    have e9 := sE h
    subst e9
    exact J_iret C E ⟨rl_m1, hσ⟩ dX11_back_11
set_option maxRecDepth 100000 in
set_option maxHeartbeats 4000000 in
theorem m_X9_throwFailure (l : Launch) (g : Gm) (hg : gInj yC g) (x0 : Nat) (h0 : isTape x0) (σ : Sg) (hσ : wfS yC σ) (q : Sg) (h : fX9_throwFailure x0 σ = some q) : CJ l yC g yX9_throwFailure cX9_throwFailure 1 none 3 64 [.ref (gad g x0)] σ none q (wfS yC q) := by
  refine CJ_of hg (by decide) rfl (Nat.le_of_ble_eq_true rfl) (lo := [(0, .ref (gad g x0))]) rfl (fun x C E => ?_)
  unfold fX9_throwFailure at h
  refine J_aload_n C 0 dX9_throwFailure_0 rfl 0 rfl ?_
  refine J_getR C fl_RX9_18 h0.1 rfl dX9_throwFailure_1 ?_
  obtain ⟨q1, cq1, h⟩ := bdS h
  refine J_callV C mw_X1_openOnes ml_RX9_51 (m_X1_openOnes x.2.1 g (CxI C) (x0 + 2) h0.2.2.2 σ hσ q1 cq1) h0.2.2.2.1 rfl (Nat.le_of_ble_eq_true rfl) (Nat.le_of_ble_eq_true rfl) rfl rfl (Nat.le_of_ble_eq_true rfl) dX9_throwFailure_4 (fun hz2 => ?_)
  refine J_if_le C hz2 (tgt := 20) dX9_throwFailure_7 (by decide) h (fun h c3 => ?_) (fun h c3 => ?_)
  · have e9 := sE h
    subst e9
    exact J_vret C E hσ dX9_throwFailure_20
  · exact absurd h (by intro z; cases z)
set_option maxRecDepth 100000 in
set_option maxHeartbeats 4000000 in
theorem t_X9_throwFailureT (l : Launch) (g : Gm) (hg : gInj yC g) (hlt : l.stackTraces = false) (x0 : Nat) (h0 : isTape x0) (σ : Sg) (hσ : wfS yC σ) (q : Int) (h : fX9_throwFailureT x0 σ = some q) : TJ l yC g yX9_throwFailure cX9_throwFailure 1 none 6 110 [.ref (gad g x0)] σ (exName q) σ (wfS yC σ) := by
  refine TJ_of hg (by decide) rfl (Nat.le_of_ble_eq_true rfl) (lo := [(0, .ref (gad g x0))]) rfl (fun x C E hxl => ?_)
  unfold fX9_throwFailureT at h
  refine J_aload_n C 0 dX9_throwFailure_0 rfl 0 rfl ?_
  refine J_getR C fl_RX9_18 h0.1 rfl dX9_throwFailure_1 ?_
  obtain ⟨q1, cq1, h⟩ := bdS h
  refine J_callV C mw_X1_openOnes ml_RX9_51 (m_X1_openOnes x.2.1 g (CxI C) (x0 + 2) h0.2.2.2 σ hσ q1 cq1) h0.2.2.2.1 rfl (Nat.le_of_ble_eq_true rfl) (Nat.le_of_ble_eq_true rfl) rfl rfl (Nat.le_of_ble_eq_true rfl) dX9_throwFailure_4 (fun hz2 => ?_)
  refine J_if_le C hz2 (tgt := 20) dX9_throwFailure_7 (by decide) h (fun h c3 => ?_) (fun h c3 => ?_)
  · exact absurd h (by intro z; cases z)
  · have e9 := sE h
    subst e9
    exact J_throwS C (by rw [hxl]; exact hlt) ew_RX9_55_59 (List.mem_of_getElem? (i := 0) rfl) E hσ (Nat.le_of_ble_eq_true rfl) (Nat.le_of_ble_eq_true rfl) (Nat.le_of_ble_eq_true rfl) dX9_throwFailure_10 dX9_throwFailure_13 dX9_throwFailure_14 dX9_throwFailure_16 dX9_throwFailure_19
set_option maxRecDepth 100000 in
set_option maxHeartbeats 4000000 in
theorem h_X11_toss (l : Launch) (g : Gm) (hg : gInj yC g) (hlt : l.stackTraces = false) (x1 : Int) (h1 : rg x1) (σ : Sg) (hσ : wfS yC σ) (q : Int × Sg) (h : fX11_toss x1 σ = some q) : CH l yC g yX11_toss cX11_toss 5 (some .int) [((28 : Nat), (32 : Nat), (35 : Nat), (202 : Nat))] 7 130 [.ref (gad g 0), vi x1] σ (some (vi q.1)) q.2 ((rg q.1) ∧ wfS yC q.2) := by
  refine CH_of hg (by decide) rfl (Nat.le_of_ble_eq_true rfl) (lo := [(0, .ref (gad g 0)), (1, vi x1)]) rfl (fun x C C2 E E2 HT hxl => ?_)
  unfold fX11_toss at h
  refine J_aload_n C 0 dX11_toss_0 rfl 0 rfl ?_
  refine J_iload_n C 1 dX11_toss_1 rfl 1 rfl ?_
  rcases lt_or h with ⟨c1, h⟩ | ⟨c1, h⟩
  · refine J_callV C mw_X11_tapeAt ml_RX11_171 (m_X11_tapeAt1 x.2.1 g (CxI C) x1 h1 σ hσ c1) oC_0 rfl (Nat.le_of_ble_eq_true rfl) (Nat.le_of_ble_eq_true rfl) rfl rfl (Nat.le_of_ble_eq_true rfl) dX11_toss_2 (fun _ => ?_)
    refine J_astore_n (lo2 := [(2, .ref (gad g (tpO x1))), (0, .ref (gad g 0)), (1, vi x1)]) C 2 dX11_toss_5 rfl (by decide) rfl ?_
    refine J_aload_n C 2 dX11_toss_6 rfl 0 rfl ?_
    refine J_nonnull C (tgt := 12) dX11_toss_7 (by decide) ?_
    refine J_aload_n C 2 dX11_toss_12 rfl 0 rfl ?_
    refine J_iconst C dX11_toss_13 ?_
    obtain ⟨q2, cq2, h⟩ := bdS h
    refine J_callV C mw_X9_refusalAs ml_RX11_175 (m_X9_refusalAs x.2.1 g (CxI C) (tpO x1) (tpA c1.1 c1.2) 5 rl_5 σ hσ q2 cq2) (tpA c1.1 c1.2).1 rfl (Nat.le_of_ble_eq_true rfl) (Nat.le_of_ble_eq_true rfl) rfl rfl (Nat.le_of_ble_eq_true rfl) dX11_toss_14 (fun hz3 => ?_)
    refine J_istore_n (lo2 := [(3, vi q2), (2, .ref (gad g (tpO x1))), (0, .ref (gad g 0)), (1, vi x1)]) C 3 dX11_toss_17 rfl (by decide) rfl ?_
    refine J_iload_n C 3 dX11_toss_18 rfl 0 rfl ?_
    refine J_if_eq C hz3 (tgt := 28) dX11_toss_19 (by decide) h (fun h c16 => ?_) (fun h c16 => ?_)
    · refine J_aload_n C 2 dX11_toss_28 rfl 1 rfl ?_
      rcases lt_or h with ⟨c5, h⟩ | ⟨c5, h⟩
      · obtain ⟨q4, cq4⟩ := Option.isSome_iff_exists.mp c5
        have hq9 := throwT_is cq4
        subst hq9
        refine J_catchV C C2 (Em_rf yC) mw_X9_throwFailure ml_RX11_334 (t_X9_throwFailureT x.2.1 (sh 0 g) (by rw [sh_0]; exact CxI C) (by rw [hxl]; exact hlt) (tpO x1) (tpA c1.1 c1.2) (cutS 0 σ) (by rw [cutS_0]; exact hσ) _ (by rw [cutS_0]; exact cq4)) (tpA c1.1 c1.2).1 rfl (Nat.le_of_ble_eq_true rfl) (Nat.le_of_ble_eq_true rfl) (by rw [sh_0]; rfl) rfl (Nat.le_of_ble_eq_true rfl) dX11_toss_29 (tossCatch HT) (fun hz6 a8 => ?_)
        rw [intoS_self]
        have C := C2
        have E := E2
        refine J_astore (lo2 := [(4, .ref a8), (3, vi q2), (2, .ref (gad g (tpO x1))), (0, .ref (gad g 0)), (1, vi x1)]) C 4 dX11_toss_35 (by decide) rfl ?_
        refine J_aload_n C 2 dX11_toss_37 rfl 2 rfl ?_
        refine J_getR C fl_RX11_327 (tpA c1.1 c1.2).1 rfl dX11_toss_38 ?_
        obtain ⟨q10, cq10, h⟩ := bdS h
        refine J_callV C mw_X1_openOnes ml_RX11_234 (m_X1_openOnes x.2.1 g (CxI C) ((tpO x1) + 2) (tpA c1.1 c1.2).2.2.2 σ hσ q10 cq10) (tpA c1.1 c1.2).2.2.2.1 rfl (Nat.le_of_ble_eq_true rfl) (Nat.le_of_ble_eq_true rfl) rfl rfl (Nat.le_of_ble_eq_true rfl) dX11_toss_41 (fun hz11 => ?_)
        have e9 := sE h
        subst e9
        exact J_iret C E ⟨hz11, hσ⟩ dX11_toss_44
      · obtain ⟨q9, cq9, h⟩ := bdS h
        refine J_callV C mw_X9_throwFailure ml_RX11_334 (m_X9_throwFailure x.2.1 g (CxI C) (tpO x1) (tpA c1.1 c1.2) σ hσ q9 cq9) (tpA c1.1 c1.2).1 rfl (Nat.le_of_ble_eq_true rfl) (Nat.le_of_ble_eq_true rfl) rfl rfl (Nat.le_of_ble_eq_true rfl) dX11_toss_29 (fun hz7 => ?_)
        refine J_goto C (tgt := 45) dX11_toss_32 (by decide) ?_
        refine J_aload_n C 0 dX11_toss_45 rfl 2 rfl ?_
        refine J_bipush C dX11_toss_46 (bp8 (by decide) (by decide)) ?_
        obtain ⟨q12, cq12, h⟩ := bdS h
        refine J_callV C mw_X11_refuse ml_RX11_178 (m_X11_refuse x.2.1 g (CxI C) (-15) rl_m15 q9 hz7 q12 cq12) oC_0 rfl (Nat.le_of_ble_eq_true rfl) (Nat.le_of_ble_eq_true rfl) rfl rfl (Nat.le_of_ble_eq_true rfl) dX11_toss_48 (fun hz13 => ?_)
        have e9 := sE h
        subst e9
        exact J_iret C E ⟨hz13.1, hz13.2⟩ dX11_toss_51
    · refine J_aload_n C 0 dX11_toss_22 rfl 2 rfl ?_
      refine J_iload_n C 3 dX11_toss_23 rfl 0 rfl ?_
      obtain ⟨q14, cq14, h⟩ := bdS h
      refine J_callV C mw_X11_refuse ml_RX11_178 (m_X11_refuse x.2.1 g (CxI C) q2 hz3 σ hσ q14 cq14) oC_0 rfl (Nat.le_of_ble_eq_true rfl) (Nat.le_of_ble_eq_true rfl) rfl rfl (Nat.le_of_ble_eq_true rfl) dX11_toss_24 (fun hz15 => ?_)
      have e9 := sE h
      subst e9
      exact J_iret C E ⟨hz15.1, hz15.2⟩ dX11_toss_27
  · refine J_callV C mw_X11_tapeAt ml_RX11_171 (m_X11_tapeAt0 x.2.1 g (CxI C) x1 h1 σ hσ c1) oC_0 rfl (Nat.le_of_ble_eq_true rfl) (Nat.le_of_ble_eq_true rfl) rfl rfl (Nat.le_of_ble_eq_true rfl) dX11_toss_2 (fun _ => ?_)
    refine J_astore_nN (lo2 := [(2, .null), (0, .ref (gad g 0)), (1, vi x1)]) C 2 dX11_toss_5 rfl (by decide) rfl ?_
    refine J_aload_nN C 2 dX11_toss_6 rfl 0 rfl ?_
    refine J_nonnullN C dX11_toss_7 ?_
    refine J_iconst C dX11_toss_10 ?_
    have e9 := sE h
    subst e9
    exact J_iret C E ⟨rl_m1, hσ⟩ dX11_toss_11
set_option maxRecDepth 100000 in
set_option maxHeartbeats 4000000 in
theorem m_X11_clear (l : Launch) (g : Gm) (hg : gInj yC g) (x1 : Int) (h1 : rg x1) (σ : Sg) (hσ : wfS yC σ) (q : Int × Sg) (h : fX11_clear x1 σ = some q) : CJ l yC g yX11_clear cX11_clear 4 (some .int) 1 21 [.ref (gad g 0), vi x1] σ (some (vi q.1)) q.2 ((rg q.1) ∧ wfS yC q.2) := by
  refine CJ_of hg (by decide) rfl (Nat.le_of_ble_eq_true rfl) (lo := [(0, .ref (gad g 0)), (1, vi x1)]) rfl (fun x C E => ?_)
  unfold fX11_clear at h
  refine J_aload_n C 0 dX11_clear_0 rfl 0 rfl ?_
  refine J_iload_n C 1 dX11_clear_1 rfl 1 rfl ?_
  rcases lt_or h with ⟨c1, h⟩ | ⟨c1, h⟩
  · refine J_callV C mw_X11_tapeAt ml_RX11_171 (m_X11_tapeAt1 x.2.1 g (CxI C) x1 h1 σ hσ c1) oC_0 rfl (Nat.le_of_ble_eq_true rfl) (Nat.le_of_ble_eq_true rfl) rfl rfl (Nat.le_of_ble_eq_true rfl) dX11_clear_2 (fun _ => ?_)
    refine J_astore_n (lo2 := [(2, .ref (gad g (tpO x1))), (0, .ref (gad g 0)), (1, vi x1)]) C 2 dX11_clear_5 rfl (by decide) rfl ?_
    refine J_aload_n C 2 dX11_clear_6 rfl 0 rfl ?_
    refine J_nonnull C (tgt := 12) dX11_clear_7 (by decide) ?_
    refine J_aload_n C 2 dX11_clear_12 rfl 0 rfl ?_
    refine J_getI C fl_RX11_337 (tpA c1.1 c1.2).1 rfl dX11_clear_13 ?_
    refine J_istore_n (lo2 := [(3, vi (σ (tpO x1) 0)), (2, .ref (gad g (tpO x1))), (0, .ref (gad g 0)), (1, vi x1)]) C 3 dX11_clear_16 rfl (by decide) rfl ?_
    refine J_aload_n C 2 dX11_clear_17 rfl 1 rfl ?_
    refine J_iconst C dX11_clear_18 ?_
    refine J_putI C fl_RX11_337 fp_RX9_0 (tpA c1.1 c1.2).1 rfl rfl (tpA c1.1 c1.2).2.1 hσ rl_0 dX11_clear_19 h (fun σ2 hσ3 h => ?_)
    refine J_iload_n C 3 dX11_clear_22 rfl 0 rfl ?_
    have e9 := sE h
    subst e9
    exact J_iret C E ⟨(hσ (tpO x1) 0 (tpA c1.1 c1.2).2.1), hσ3⟩ dX11_clear_23
  · refine J_callV C mw_X11_tapeAt ml_RX11_171 (m_X11_tapeAt0 x.2.1 g (CxI C) x1 h1 σ hσ c1) oC_0 rfl (Nat.le_of_ble_eq_true rfl) (Nat.le_of_ble_eq_true rfl) rfl rfl (Nat.le_of_ble_eq_true rfl) dX11_clear_2 (fun _ => ?_)
    refine J_astore_nN (lo2 := [(2, .null), (0, .ref (gad g 0)), (1, vi x1)]) C 2 dX11_clear_5 rfl (by decide) rfl ?_
    refine J_aload_nN C 2 dX11_clear_6 rfl 0 rfl ?_
    refine J_nonnullN C dX11_clear_7 ?_
    refine J_iconst C dX11_clear_10 ?_
    have e9 := sE h
    subst e9
    exact J_iret C E ⟨rl_m1, hσ⟩ dX11_clear_11
set_option maxRecDepth 100000 in
set_option maxHeartbeats 4000000 in
theorem m_X9_isRow (l : Launch) (g : Gm) (hg : gInj yC g) (x0 : Nat) (h0 : isTape x0) (σ : Sg) (hσ : wfS yC σ) (q : Int) (h : fX9_isRow x0 σ = some q) : CJ l yC g yX9_isRow cX9_isRow 1 (some .boolean) 0 0 [.ref (gad g x0)] σ (some (vi q)) σ (q = 0 ∨ q = 1) := by
  refine CJ_of hg (by decide) rfl (Nat.le_of_ble_eq_true rfl) (lo := [(0, .ref (gad g x0))]) rfl (fun x C E => ?_)
  unfold fX9_isRow at h
  refine J_aload_n C 0 dX9_isRow_0 rfl 0 rfl ?_
  refine J_getI C fl_RX9_22 h0.1 rfl dX9_isRow_1 ?_
  refine J_iconst C dX9_isRow_4 ?_
  refine J_icmp_lt C (hσ x0 0 h0.2.1) rl_1 (tgt := 20) dX9_isRow_5 (by decide) h (fun h c2 => ?_) (fun h c2 => ?_)
  · refine J_iconst C dX9_isRow_20 ?_
    have e9 := sE h
    subst e9
    exact J_zret C (Or.inl rfl) E (Or.inl rfl) dX9_isRow_21
  · refine J_aload_n C 0 dX9_isRow_8 rfl 0 rfl ?_
    refine J_getI C fl_RX9_22 h0.1 rfl dX9_isRow_9 ?_
    refine J_iconst C dX9_isRow_12 ?_
    refine J_icmp_gt C (hσ x0 0 h0.2.1) rl_4 (tgt := 20) dX9_isRow_13 (by decide) h (fun h c1 => ?_) (fun h c1 => ?_)
    · refine J_iconst C dX9_isRow_16 ?_
      refine J_goto C (tgt := 21) dX9_isRow_17 (by decide) ?_
      have e9 := sE h
      subst e9
      exact J_zret C (Or.inr rfl) E (Or.inr rfl) dX9_isRow_21
    · refine J_iconst C dX9_isRow_20 ?_
      have e9 := sE h
      subst e9
      exact J_zret C (Or.inl rfl) E (Or.inl rfl) dX9_isRow_21
set_option maxRecDepth 100000 in
set_option maxHeartbeats 4000000 in
theorem m_X9_narrowed (l : Launch) (g : Gm) (hg : gInj yC g) (x0 : Nat) (h0 : isTape x0) (x1 : Int) (σ : Sg) (hσ : wfS yC σ) (q : Int) (h : fX9_narrowed x0 x1 σ = some q) : CJ l yC g yX9_narrowed cX9_narrowed 3 (some .long) 0 0 [.ref (gad g x0), vl x1] σ (some (vl q)) σ (True) := by
  refine CJ_of hg (by decide) rfl (Nat.le_of_ble_eq_true rfl) (lo := [(0, .ref (gad g x0)), (1, vl x1)]) rfl (fun x C E => ?_)
  unfold fX9_narrowed at h
  refine J_aload_n C 0 dX9_narrowed_0 rfl 0 rfl ?_
  refine J_getI C fl_RX9_22 h0.1 rfl dX9_narrowed_1 ?_
  rcases lt_or h with ⟨c1, h⟩ | ⟨c1, h⟩
  · refine J_switch C (tgt := 32) (hσ x0 0 h0.2.1) dX9_narrowed_4 (28) (fun z => absurd z (by omega)) (fun _ _ => by rw [c1]; rfl) (by decide) ?_
    refine J_lload_n C 1 dX9_narrowed_32 rfl 1 rfl ?_
    refine J_l2i C dX9_narrowed_33 ?_
    refine J_i2b C dX9_narrowed_34 ?_
    refine J_i2l C (rg_toInt _) dX9_narrowed_35 ?_
    have e9 := sE h
    subst e9
    exact J_lret C E trivial dX9_narrowed_36
  · rcases lt_or h with ⟨c2, h⟩ | ⟨c2, h⟩
    · refine J_switch C (tgt := 37) (hσ x0 0 h0.2.1) dX9_narrowed_4 (33) (fun z => absurd z (by omega)) (fun _ _ => by rw [c2]; rfl) (by decide) ?_
      refine J_lload_n C 1 dX9_narrowed_37 rfl 1 rfl ?_
      refine J_l2i C dX9_narrowed_38 ?_
      refine J_i2s C dX9_narrowed_39 ?_
      refine J_i2l C (rg_toInt _) dX9_narrowed_40 ?_
      have e9 := sE h
      subst e9
      exact J_lret C E trivial dX9_narrowed_41
    · rcases lt_or h with ⟨c3, h⟩ | ⟨c3, h⟩
      · refine J_switch C (tgt := 42) (hσ x0 0 h0.2.1) dX9_narrowed_4 (38) (fun z => absurd z (by omega)) (fun _ _ => by rw [c3]; rfl) (by decide) ?_
        refine J_lload_n C 1 dX9_narrowed_42 rfl 1 rfl ?_
        refine J_l2i C dX9_narrowed_43 ?_
        refine J_i2l C (rg_toInt _) dX9_narrowed_44 ?_
        have e9 := sE h
        subst e9
        exact J_lret C E trivial dX9_narrowed_45
      · refine J_switch C (tgt := 46) (hσ x0 0 h0.2.1) dX9_narrowed_4 (42) (fun _ => rfl) (fun z1 z2 => absurd z1 (by omega)) (by decide) ?_
        refine J_lload_n C 1 dX9_narrowed_46 rfl 1 rfl ?_
        have e9 := sE h
        subst e9
        exact J_lret C E trivial dX9_narrowed_47
set_option maxRecDepth 100000 in
set_option maxHeartbeats 4000000 in
theorem m_X9_setValue (l : Launch) (g : Gm) (hg : gInj yC g) (x0 : Nat) (h0 : isTape x0) (x1 : Int) (h1 : rg x1) (x2 : Int) (σ : Sg) (hσ : wfS yC σ) (q : Sg) (h : fX9_setValue x0 x1 x2 σ = some q) : CJ l yC g yX9_setValue cX9_setValue 4 none 1 22 [.ref (gad g x0), vi x1, vl x2] σ none q (wfS yC q) := by
  refine CJ_of hg (by decide) rfl (Nat.le_of_ble_eq_true rfl) (lo := [(0, .ref (gad g x0)), (1, vi x1), (2, vl x2)]) rfl (fun x C E => ?_)
  unfold fX9_setValue at h
  refine J_aload_n C 0 dX9_setValue_0 rfl 0 rfl ?_
  refine J_iload_n C 1 dX9_setValue_1 rfl 1 rfl ?_
  obtain ⟨q1, cq1, h⟩ := bdS h
  refine J_callV C mw_X9_hasPlace ml_RX9_39 (m_X9_hasPlace x.2.1 g (CxI C) x0 h0 x1 h1 σ hσ q1 cq1) h0.1 rfl (Nat.le_of_ble_eq_true rfl) (Nat.le_of_ble_eq_true rfl) rfl rfl (Nat.le_of_ble_eq_true rfl) dX9_setValue_2 (fun hz2 => ?_)
  refine J_if_eq C (rg01 hz2) (tgt := 19) dX9_setValue_5 (by decide) h (fun h c7 => ?_) (fun h c7 => ?_)
  · have e9 := sE h
    subst e9
    exact J_vret C E hσ dX9_setValue_19
  · refine J_aload_n C 0 dX9_setValue_8 rfl 0 rfl ?_
    refine J_getR C fl_RX9_9 h0.1 rfl dX9_setValue_9 ?_
    refine J_iload_n C 1 dX9_setValue_12 rfl 1 rfl ?_
    refine J_aload_n C 0 dX9_setValue_13 rfl 0 rfl ?_
    refine J_lload_n C 2 dX9_setValue_14 rfl 2 rfl ?_
    obtain ⟨q3, cq3, h⟩ := bdS h
    refine J_callV C mw_X9_narrowed ml_RX9_47 (m_X9_narrowed x.2.1 g (CxI C) x0 h0 x2 σ hσ q3 cq3) h0.1 rfl (Nat.le_of_ble_eq_true rfl) (Nat.le_of_ble_eq_true rfl) rfl rfl (Nat.le_of_ble_eq_true rfl) dX9_setValue_15 (fun hz4 => ?_)
    refine J_last C h0.2.2.1 hσ dX9_setValue_18 h (fun σ5 hσ6 h => ?_)
    have e9 := sE h
    subst e9
    exact J_vret C E hσ6 dX9_setValue_19
set_option maxRecDepth 100000 in
set_option maxHeartbeats 4000000 in
theorem m_X11_put (l : Launch) (g : Gm) (hg : gInj yC g) (x1 : Int) (h1 : rg x1) (x2 : Int) (h2 : rg x2) (x3 : Int) (σ : Sg) (hσ : wfS yC σ) (q : Int × Sg) (h : fX11_put x1 x2 x3 σ = some q) : CJ l yC g yX11_put cX11_put 6 (some .int) 2 45 [.ref (gad g 0), vi x1, vi x2, vl x3] σ (some (vi q.1)) q.2 ((rg q.1) ∧ wfS yC q.2) := by
  refine CJ_of hg (by decide) rfl (Nat.le_of_ble_eq_true rfl) (lo := [(0, .ref (gad g 0)), (1, vi x1), (2, vi x2), (3, vl x3)]) rfl (fun x C E => ?_)
  unfold fX11_put at h
  refine J_aload_n C 0 dX11_put_0 rfl 0 rfl ?_
  refine J_iload_n C 1 dX11_put_1 rfl 1 rfl ?_
  rcases lt_or h with ⟨c1, h⟩ | ⟨c1, h⟩
  · refine J_callV C mw_X11_tapeAt ml_RX11_171 (m_X11_tapeAt1 x.2.1 g (CxI C) x1 h1 σ hσ c1) oC_0 rfl (Nat.le_of_ble_eq_true rfl) (Nat.le_of_ble_eq_true rfl) rfl rfl (Nat.le_of_ble_eq_true rfl) dX11_put_2 (fun _ => ?_)
    refine J_astore (lo2 := [(5, .ref (gad g (tpO x1))), (0, .ref (gad g 0)), (1, vi x1), (2, vi x2), (3, vl x3)]) C 5 dX11_put_5 (by decide) rfl ?_
    refine J_aload C 5 dX11_put_7 0 rfl ?_
    refine J_nonnull C (tgt := 14) dX11_put_9 (by decide) ?_
    refine J_aload C 5 dX11_put_14 0 rfl ?_
    refine J_getI C fl_RX11_337 (tpA c1.1 c1.2).1 rfl dX11_put_16 ?_
    refine J_if_ne C (hσ (tpO x1) 0 (tpA c1.1 c1.2).2.1) (tgt := 29) dX11_put_19 (by decide) h (fun h c16 => ?_) (fun h c16 => ?_)
    · refine J_aload_n C 0 dX11_put_22 rfl 1 rfl ?_
      refine J_bipush C dX11_put_23 (bp8 (by decide) (by decide)) ?_
      obtain ⟨q14, cq14, h⟩ := bdS h
      refine J_callV C mw_X11_refuse ml_RX11_178 (m_X11_refuse x.2.1 g (CxI C) (-11) rl_m11 σ hσ q14 cq14) oC_0 rfl (Nat.le_of_ble_eq_true rfl) (Nat.le_of_ble_eq_true rfl) rfl rfl (Nat.le_of_ble_eq_true rfl) dX11_put_25 (fun hz15 => ?_)
      have e9 := sE h
      subst e9
      exact J_iret C E ⟨hz15.1, hz15.2⟩ dX11_put_28
    · refine J_aload C 5 dX11_put_29 0 rfl ?_
      obtain ⟨q2, cq2, h⟩ := bdS h
      refine J_callV C mw_X9_isRow ml_RX11_340 (m_X9_isRow x.2.1 g (CxI C) (tpO x1) (tpA c1.1 c1.2) σ hσ q2 cq2) (tpA c1.1 c1.2).1 rfl (Nat.le_of_ble_eq_true rfl) (Nat.le_of_ble_eq_true rfl) rfl rfl (Nat.le_of_ble_eq_true rfl) dX11_put_31 (fun hz3 => ?_)
      refine J_if_ne C (rg01 hz3) (tgt := 44) dX11_put_34 (by decide) h (fun h c13 => ?_) (fun h c13 => ?_)
      · refine J_aload_n C 0 dX11_put_37 rfl 1 rfl ?_
        refine J_bipush C dX11_put_38 (bp8 (by decide) (by decide)) ?_
        obtain ⟨q11, cq11, h⟩ := bdS h
        refine J_callV C mw_X11_refuse ml_RX11_178 (m_X11_refuse x.2.1 g (CxI C) (-12) rl_m12 σ hσ q11 cq11) oC_0 rfl (Nat.le_of_ble_eq_true rfl) (Nat.le_of_ble_eq_true rfl) rfl rfl (Nat.le_of_ble_eq_true rfl) dX11_put_40 (fun hz12 => ?_)
        have e9 := sE h
        subst e9
        exact J_iret C E ⟨hz12.1, hz12.2⟩ dX11_put_43
      · refine J_aload C 5 dX11_put_44 0 rfl ?_
        refine J_iload_n C 2 dX11_put_46 rfl 3 rfl ?_
        obtain ⟨q4, cq4, h⟩ := bdS h
        refine J_callV C mw_X9_hasPlace ml_RX11_343 (m_X9_hasPlace x.2.1 g (CxI C) (tpO x1) (tpA c1.1 c1.2) x2 h2 σ hσ q4 cq4) (tpA c1.1 c1.2).1 rfl (Nat.le_of_ble_eq_true rfl) (Nat.le_of_ble_eq_true rfl) rfl rfl (Nat.le_of_ble_eq_true rfl) dX11_put_47 (fun hz5 => ?_)
        refine J_if_ne C (rg01 hz5) (tgt := 60) dX11_put_50 (by decide) h (fun h c10 => ?_) (fun h c10 => ?_)
        · refine J_aload_n C 0 dX11_put_53 rfl 1 rfl ?_
          refine J_bipush C dX11_put_54 (bp8 (by decide) (by decide)) ?_
          obtain ⟨q8, cq8, h⟩ := bdS h
          refine J_callV C mw_X11_refuse ml_RX11_178 (m_X11_refuse x.2.1 g (CxI C) (-13) rl_m13 σ hσ q8 cq8) oC_0 rfl (Nat.le_of_ble_eq_true rfl) (Nat.le_of_ble_eq_true rfl) rfl rfl (Nat.le_of_ble_eq_true rfl) dX11_put_56 (fun hz9 => ?_)
          have e9 := sE h
          subst e9
          exact J_iret C E ⟨hz9.1, hz9.2⟩ dX11_put_59
        · refine J_aload C 5 dX11_put_60 0 rfl ?_
          refine J_iload_n C 2 dX11_put_62 rfl 3 rfl ?_
          refine J_lload_n C 3 dX11_put_63 rfl 4 rfl ?_
          obtain ⟨q6, cq6, h⟩ := bdS h
          refine J_callV C mw_X9_setValue ml_RX11_346 (m_X9_setValue x.2.1 g (CxI C) (tpO x1) (tpA c1.1 c1.2) x2 h2 x3 σ hσ q6 cq6) (tpA c1.1 c1.2).1 rfl (Nat.le_of_ble_eq_true rfl) (Nat.le_of_ble_eq_true rfl) rfl rfl (Nat.le_of_ble_eq_true rfl) dX11_put_64 (fun hz7 => ?_)
          refine J_iconst C dX11_put_67 ?_
          have e9 := sE h
          subst e9
          exact J_iret C E ⟨rl_1, hz7⟩ dX11_put_68
  · refine J_callV C mw_X11_tapeAt ml_RX11_171 (m_X11_tapeAt0 x.2.1 g (CxI C) x1 h1 σ hσ c1) oC_0 rfl (Nat.le_of_ble_eq_true rfl) (Nat.le_of_ble_eq_true rfl) rfl rfl (Nat.le_of_ble_eq_true rfl) dX11_put_2 (fun _ => ?_)
    refine J_astoreN (lo2 := [(5, .null), (0, .ref (gad g 0)), (1, vi x1), (2, vi x2), (3, vl x3)]) C 5 dX11_put_5 (by decide) rfl ?_
    refine J_aloadN C 5 dX11_put_7 0 rfl ?_
    refine J_nonnullN C dX11_put_9 ?_
    refine J_iconst C dX11_put_12 ?_
    have e9 := sE h
    subst e9
    exact J_iret C E ⟨rl_m1, hσ⟩ dX11_put_13
set_option maxRecDepth 100000 in
set_option maxHeartbeats 4000000 in
theorem m_X11_at (l : Launch) (g : Gm) (hg : gInj yC g) (x1 : Int) (h1 : rg x1) (x2 : Int) (h2 : rg x2) (σ : Sg) (hσ : wfS yC σ) (q : Int) (h : fX11_at x1 x2 σ = some q) : CJ l yC g yX11_at cX11_at 4 (some .long) 2 42 [.ref (gad g 0), vi x1, vi x2] σ (some (vl q)) σ (True) := by
  refine CJ_of hg (by decide) rfl (Nat.le_of_ble_eq_true rfl) (lo := [(0, .ref (gad g 0)), (1, vi x1), (2, vi x2)]) rfl (fun x C E => ?_)
  unfold fX11_at at h
  have pc4 : fX11_at_P36  σ = some q → J x yC g 4 36 [] [] σ := by
    intro h
    unfold fX11_at_P36 at h
    exact absurd h (by intro z; cases z)
  refine J_aload_n C 0 dX11_at_0 rfl 0 rfl ?_
  refine J_iload_n C 1 dX11_at_1 rfl 1 rfl ?_
  rcases lt_or h with ⟨c1, h⟩ | ⟨c1, h⟩
  · refine J_callV C mw_X11_tapeAt ml_RX11_171 (m_X11_tapeAt1 x.2.1 g (CxI C) x1 h1 σ hσ c1) oC_0 rfl (Nat.le_of_ble_eq_true rfl) (Nat.le_of_ble_eq_true rfl) rfl rfl (Nat.le_of_ble_eq_true rfl) dX11_at_2 (fun _ => ?_)
    refine J_astore_n (lo2 := [(3, .ref (gad g (tpO x1))), (0, .ref (gad g 0)), (1, vi x1), (2, vi x2)]) C 3 dX11_at_5 rfl (by decide) rfl ?_
    refine J_aload_n C 3 dX11_at_6 rfl 0 rfl ?_
    refine J_nonnull C (tgt := 21) dX11_at_7 (by decide) ?_
    refine J_aload_n C 3 dX11_at_21 rfl 0 rfl ?_
    obtain ⟨q2, cq2, h⟩ := bdS h
    refine J_callV C mw_X9_isRow ml_RX11_340 (m_X9_isRow x.2.1 g (CxI C) (tpO x1) (tpA c1.1 c1.2) σ hσ q2 cq2) (tpA c1.1 c1.2).1 rfl (Nat.le_of_ble_eq_true rfl) (Nat.le_of_ble_eq_true rfl) rfl rfl (Nat.le_of_ble_eq_true rfl) dX11_at_22 (fun hz3 => ?_)
    refine J_if_eq C (rg01 hz3) (tgt := 36) dX11_at_25 (by decide) h (fun h c10 => ?_) (fun h c10 => ?_)
    · exact J_sub [] rfl (pc4  h)
    · refine J_aload_n C 3 dX11_at_28 rfl 0 rfl ?_
      refine J_iload_n C 2 dX11_at_29 rfl 3 rfl ?_
      obtain ⟨q5, cq5, h⟩ := bdS h
      refine J_callV C mw_X9_hasPlace ml_RX11_343 (m_X9_hasPlace x.2.1 g (CxI C) (tpO x1) (tpA c1.1 c1.2) x2 h2 σ hσ q5 cq5) (tpA c1.1 c1.2).1 rfl (Nat.le_of_ble_eq_true rfl) (Nat.le_of_ble_eq_true rfl) rfl rfl (Nat.le_of_ble_eq_true rfl) dX11_at_30 (fun hz6 => ?_)
      refine J_if_ne C (rg01 hz6) (tgt := 47) dX11_at_33 (by decide) h (fun h c9 => ?_) (fun h c9 => ?_)
      · exact J_sub [] rfl (pc4  h)
      · refine J_aload_n C 3 dX11_at_47 rfl 0 rfl ?_
        refine J_iload_n C 2 dX11_at_48 rfl 3 rfl ?_
        obtain ⟨q7, cq7, h⟩ := bdS h
        refine J_callV C mw_X9_valueAt ml_RX11_354 (m_X9_valueAt x.2.1 g (CxI C) (tpO x1) (tpA c1.1 c1.2) x2 h2 σ hσ q7 cq7) (tpA c1.1 c1.2).1 rfl (Nat.le_of_ble_eq_true rfl) (Nat.le_of_ble_eq_true rfl) rfl rfl (Nat.le_of_ble_eq_true rfl) dX11_at_49 (fun hz8 => ?_)
        have e9 := sE h
        subst e9
        exact J_lret C E trivial dX11_at_52
  · refine J_callV C mw_X11_tapeAt ml_RX11_171 (m_X11_tapeAt0 x.2.1 g (CxI C) x1 h1 σ hσ c1) oC_0 rfl (Nat.le_of_ble_eq_true rfl) (Nat.le_of_ble_eq_true rfl) rfl rfl (Nat.le_of_ble_eq_true rfl) dX11_at_2 (fun _ => ?_)
    refine J_astore_nN (lo2 := [(3, .null), (0, .ref (gad g 0)), (1, vi x1), (2, vi x2)]) C 3 dX11_at_5 rfl (by decide) rfl ?_
    refine J_aload_nN C 3 dX11_at_6 rfl 0 rfl ?_
    refine J_nonnullN C dX11_at_7 ?_
    exact absurd h (by intro z; cases z)
set_option maxRecDepth 100000 in
set_option maxHeartbeats 4000000 in
theorem t_X11_atT (l : Launch) (g : Gm) (hg : gInj yC g) (hlt : l.stackTraces = false) (x1 : Int) (h1 : rg x1) (x2 : Int) (h2 : rg x2) (σ : Sg) (hσ : wfS yC σ) (q : Int) (h : fX11_atT x1 x2 σ = some q) : TJ l yC g yX11_at cX11_at 4 (some .long) 6 110 [.ref (gad g 0), vi x1, vi x2] σ (exName q) σ (wfS yC σ) := by
  refine TJ_of hg (by decide) rfl (Nat.le_of_ble_eq_true rfl) (lo := [(0, .ref (gad g 0)), (1, vi x1), (2, vi x2)]) rfl (fun x C E hxl => ?_)
  unfold fX11_atT at h
  have pc4 : fX11_atT_P36  σ = some q → J x yC g 4 36 [] [] σ := by
    intro h
    unfold fX11_atT_P36 at h
    have e9 := sE h
    subst e9
    exact J_throwW C (by rw [hxl]; exact hlt) ew_RX11_202_206 (List.mem_of_getElem? (i := 6) rfl) E hσ (Nat.le_of_ble_eq_true rfl) (Nat.le_of_ble_eq_true rfl) (Nat.le_of_ble_eq_true rfl) dX11_at_36 dX11_at_39 dX11_at_40 dX11_at_43 dX11_at_46
  refine J_aload_n C 0 dX11_at_0 rfl 0 rfl ?_
  refine J_iload_n C 1 dX11_at_1 rfl 1 rfl ?_
  rcases lt_or h with ⟨c1, h⟩ | ⟨c1, h⟩
  · refine J_callV C mw_X11_tapeAt ml_RX11_171 (m_X11_tapeAt1 x.2.1 g (CxI C) x1 h1 σ hσ c1) oC_0 rfl (Nat.le_of_ble_eq_true rfl) (Nat.le_of_ble_eq_true rfl) rfl rfl (Nat.le_of_ble_eq_true rfl) dX11_at_2 (fun _ => ?_)
    refine J_astore_n (lo2 := [(3, .ref (gad g (tpO x1))), (0, .ref (gad g 0)), (1, vi x1), (2, vi x2)]) C 3 dX11_at_5 rfl (by decide) rfl ?_
    refine J_aload_n C 3 dX11_at_6 rfl 0 rfl ?_
    refine J_nonnull C (tgt := 21) dX11_at_7 (by decide) ?_
    refine J_aload_n C 3 dX11_at_21 rfl 0 rfl ?_
    obtain ⟨q2, cq2, h⟩ := bdS h
    refine J_callV C mw_X9_isRow ml_RX11_340 (m_X9_isRow x.2.1 g (CxI C) (tpO x1) (tpA c1.1 c1.2) σ hσ q2 cq2) (tpA c1.1 c1.2).1 rfl (Nat.le_of_ble_eq_true rfl) (Nat.le_of_ble_eq_true rfl) rfl rfl (Nat.le_of_ble_eq_true rfl) dX11_at_22 (fun hz3 => ?_)
    refine J_if_eq C (rg01 hz3) (tgt := 36) dX11_at_25 (by decide) h (fun h c10 => ?_) (fun h c10 => ?_)
    · exact J_sub [] rfl (pc4  h)
    · refine J_aload_n C 3 dX11_at_28 rfl 0 rfl ?_
      refine J_iload_n C 2 dX11_at_29 rfl 3 rfl ?_
      obtain ⟨q5, cq5, h⟩ := bdS h
      refine J_callV C mw_X9_hasPlace ml_RX11_343 (m_X9_hasPlace x.2.1 g (CxI C) (tpO x1) (tpA c1.1 c1.2) x2 h2 σ hσ q5 cq5) (tpA c1.1 c1.2).1 rfl (Nat.le_of_ble_eq_true rfl) (Nat.le_of_ble_eq_true rfl) rfl rfl (Nat.le_of_ble_eq_true rfl) dX11_at_30 (fun hz6 => ?_)
      refine J_if_ne C (rg01 hz6) (tgt := 47) dX11_at_33 (by decide) h (fun h c9 => ?_) (fun h c9 => ?_)
      · exact J_sub [] rfl (pc4  h)
      · refine J_aload_n C 3 dX11_at_47 rfl 0 rfl ?_
        refine J_iload_n C 2 dX11_at_48 rfl 3 rfl ?_
        obtain ⟨q7, cq7, h⟩ := bdS h
        refine J_callV C mw_X9_valueAt ml_RX11_354 (m_X9_valueAt x.2.1 g (CxI C) (tpO x1) (tpA c1.1 c1.2) x2 h2 σ hσ q7 cq7) (tpA c1.1 c1.2).1 rfl (Nat.le_of_ble_eq_true rfl) (Nat.le_of_ble_eq_true rfl) rfl rfl (Nat.le_of_ble_eq_true rfl) dX11_at_49 (fun hz8 => ?_)
        exact absurd h (by intro z; cases z)
  · refine J_callV C mw_X11_tapeAt ml_RX11_171 (m_X11_tapeAt0 x.2.1 g (CxI C) x1 h1 σ hσ c1) oC_0 rfl (Nat.le_of_ble_eq_true rfl) (Nat.le_of_ble_eq_true rfl) rfl rfl (Nat.le_of_ble_eq_true rfl) dX11_at_2 (fun _ => ?_)
    refine J_astore_nN (lo2 := [(3, .null), (0, .ref (gad g 0)), (1, vi x1), (2, vi x2)]) C 3 dX11_at_5 rfl (by decide) rfl ?_
    refine J_aload_nN C 3 dX11_at_6 rfl 0 rfl ?_
    refine J_nonnullN C dX11_at_7 ?_
    have e9 := sE h
    subst e9
    exact J_throwW C (by rw [hxl]; exact hlt) ew_RX11_192_196 (List.mem_of_getElem? (i := 5) rfl) E hσ (Nat.le_of_ble_eq_true rfl) (Nat.le_of_ble_eq_true rfl) (Nat.le_of_ble_eq_true rfl) dX11_at_10 dX11_at_13 dX11_at_14 dX11_at_17 dX11_at_20
set_option maxRecDepth 100000 in
set_option maxHeartbeats 4000000 in
theorem m_X9_hasPlaces (l : Launch) (g : Gm) (hg : gInj yC g) (x0 : Nat) (h0 : isTape x0) (x1 : Int) (h1 : rg x1) (x2 : Int) (h2 : rg x2) (σ : Sg) (hσ : wfS yC σ) (q : Int) (h : fX9_hasPlaces x0 x1 x2 σ = some q) : CJ l yC g yX9_hasPlaces cX9_hasPlaces 3 (some .boolean) 0 0 [.ref (gad g x0), vi x1, vi x2] σ (some (vi q)) σ (q = 0 ∨ q = 1) := by
  refine CJ_of hg (by decide) rfl (Nat.le_of_ble_eq_true rfl) (lo := [(0, .ref (gad g x0)), (1, vi x1), (2, vi x2)]) rfl (fun x C E => ?_)
  unfold fX9_hasPlaces at h
  refine J_iload_n C 1 dX9_hasPlaces_0 rfl 1 rfl ?_
  refine J_if_lt C h1 (tgt := 39) dX9_hasPlaces_1 (by decide) h (fun h c7 => ?_) (fun h c7 => ?_)
  · refine J_iconst C dX9_hasPlaces_39 ?_
    have e9 := sE h
    subst e9
    exact J_zret C (Or.inl rfl) E (Or.inl rfl) dX9_hasPlaces_40
  · refine J_iload_n C 2 dX9_hasPlaces_4 rfl 2 rfl ?_
    refine J_if_lt C h2 (tgt := 39) dX9_hasPlaces_5 (by decide) h (fun h c6 => ?_) (fun h c6 => ?_)
    · refine J_iconst C dX9_hasPlaces_39 ?_
      have e9 := sE h
      subst e9
      exact J_zret C (Or.inl rfl) E (Or.inl rfl) dX9_hasPlaces_40
    · refine J_aload_n C 0 dX9_hasPlaces_8 rfl 0 rfl ?_
      refine J_getI C fl_RX9_26 h0.1 rfl dX9_hasPlaces_9 ?_
      refine J_bipush C dX9_hasPlaces_12 (bp8 (by decide) (by decide)) ?_
      refine J_icmp_gt C (hσ x0 1 h0.2.1) rl_100 (tgt := 39) dX9_hasPlaces_14 (by decide) h (fun h c5 => ?_) (fun h c5 => ?_)
      · refine J_iload_n C 2 dX9_hasPlaces_17 rfl 2 rfl ?_
        refine J_aload_n C 0 dX9_hasPlaces_18 rfl 0 rfl ?_
        refine J_getI C fl_RX9_26 h0.1 rfl dX9_hasPlaces_19 ?_
        refine J_icmp_gt C h2 (hσ x0 1 h0.2.1) (tgt := 39) dX9_hasPlaces_22 (by decide) h (fun h c4 => ?_) (fun h c4 => ?_)
        · refine J_iload_n C 1 dX9_hasPlaces_25 rfl 1 rfl ?_
          refine J_aload_n C 0 dX9_hasPlaces_26 rfl 0 rfl ?_
          refine J_getI C fl_RX9_26 h0.1 rfl dX9_hasPlaces_27 ?_
          refine J_iload_n C 2 dX9_hasPlaces_30 rfl 2 rfl ?_
          refine J_isub C dX9_hasPlaces_31 h (fun v1 hv2 h => ?_)
          refine J_icmp_gt C h1 hv2 (tgt := 39) dX9_hasPlaces_32 (by decide) h (fun h c3 => ?_) (fun h c3 => ?_)
          · refine J_iconst C dX9_hasPlaces_35 ?_
            refine J_goto C (tgt := 40) dX9_hasPlaces_36 (by decide) ?_
            have e9 := sE h
            subst e9
            exact J_zret C (Or.inr rfl) E (Or.inr rfl) dX9_hasPlaces_40
          · refine J_iconst C dX9_hasPlaces_39 ?_
            have e9 := sE h
            subst e9
            exact J_zret C (Or.inl rfl) E (Or.inl rfl) dX9_hasPlaces_40
        · refine J_iconst C dX9_hasPlaces_39 ?_
          have e9 := sE h
          subst e9
          exact J_zret C (Or.inl rfl) E (Or.inl rfl) dX9_hasPlaces_40
      · refine J_iconst C dX9_hasPlaces_39 ?_
        have e9 := sE h
        subst e9
        exact J_zret C (Or.inl rfl) E (Or.inl rfl) dX9_hasPlaces_40
set_option maxRecDepth 100000 in
set_option maxHeartbeats 4000000 in
theorem m_X11_copy (l : Launch) (g : Gm) (hg : gInj yC g) (x1 : Int) (h1 : rg x1) (x2 : Int) (h2 : rg x2) (x3 : Int) (h3 : rg x3) (x4 : Int) (h4 : rg x4) (x5 : Int) (h5 : rg x5) (σ : Sg) (hσ : wfS yC σ) (q : Int × Sg) (h : fX11_copy x1 x2 x3 x4 x5 σ = some q) : CJ l yC g yX11_copy cX11_copy 8 (some .int) 1 60 [.ref (gad g 0), vi x1, vi x2, vi x3, vi x4, vi x5] σ (some (vi q.1)) q.2 ((rg q.1) ∧ wfS yC q.2) := by
  refine CJ_of hg (by decide) rfl (Nat.le_of_ble_eq_true rfl) (lo := [(0, .ref (gad g 0)), (1, vi x1), (2, vi x2), (3, vi x3), (4, vi x4), (5, vi x5)]) rfl (fun x C E => ?_)
  unfold fX11_copy at h
  have pc3 : ∀  (σ : Sg) (hσ : wfS yC σ), fX11_copy_P42  σ = some q → J x yC g 8 42 [(0, .ref (gad g 0))] [] σ := by
    intro  σ hσ h
    unfold fX11_copy_P42 at h
    refine J_aload_n C 0 dX11_copy_42 rfl 0 rfl ?_
    refine J_bipush C dX11_copy_43 (bp8 (by decide) (by decide)) ?_
    obtain ⟨q4, cq4, h⟩ := bdS h
    refine J_callV C mw_X11_refuse ml_RX11_178 (m_X11_refuse x.2.1 g (CxI C) (-11) rl_m11 σ hσ q4 cq4) oC_0 rfl (Nat.le_of_ble_eq_true rfl) (Nat.le_of_ble_eq_true rfl) rfl rfl (Nat.le_of_ble_eq_true rfl) dX11_copy_45 (fun hz5 => ?_)
    have e9 := sE h
    subst e9
    exact J_iret C E ⟨hz5.1, hz5.2⟩ dX11_copy_48
  have pc10 : ∀  (σ : Sg) (hσ : wfS yC σ), fX11_copy_P70  σ = some q → J x yC g 8 70 [(0, .ref (gad g 0))] [] σ := by
    intro  σ hσ h
    unfold fX11_copy_P70 at h
    refine J_aload_n C 0 dX11_copy_70 rfl 0 rfl ?_
    refine J_bipush C dX11_copy_71 (bp8 (by decide) (by decide)) ?_
    obtain ⟨q11, cq11, h⟩ := bdS h
    refine J_callV C mw_X11_refuse ml_RX11_178 (m_X11_refuse x.2.1 g (CxI C) (-12) rl_m12 σ hσ q11 cq11) oC_0 rfl (Nat.le_of_ble_eq_true rfl) (Nat.le_of_ble_eq_true rfl) rfl rfl (Nat.le_of_ble_eq_true rfl) dX11_copy_73 (fun hz12 => ?_)
    have e9 := sE h
    subst e9
    exact J_iret C E ⟨hz12.1, hz12.2⟩ dX11_copy_76
  have pc17 : ∀  (σ : Sg) (hσ : wfS yC σ), fX11_copy_P100  σ = some q → J x yC g 8 100 [(0, .ref (gad g 0))] [] σ := by
    intro  σ hσ h
    unfold fX11_copy_P100 at h
    refine J_aload_n C 0 dX11_copy_100 rfl 0 rfl ?_
    refine J_bipush C dX11_copy_101 (bp8 (by decide) (by decide)) ?_
    obtain ⟨q18, cq18, h⟩ := bdS h
    refine J_callV C mw_X11_refuse ml_RX11_178 (m_X11_refuse x.2.1 g (CxI C) (-13) rl_m13 σ hσ q18 cq18) oC_0 rfl (Nat.le_of_ble_eq_true rfl) (Nat.le_of_ble_eq_true rfl) rfl rfl (Nat.le_of_ble_eq_true rfl) dX11_copy_103 (fun hz19 => ?_)
    have e9 := sE h
    subst e9
    exact J_iret C E ⟨hz19.1, hz19.2⟩ dX11_copy_106
  refine J_aload_n C 0 dX11_copy_0 rfl 0 rfl ?_
  refine J_iload_n C 1 dX11_copy_1 rfl 1 rfl ?_
  rcases lt_or h with ⟨c1, h⟩ | ⟨c1, h⟩
  · refine J_callV C mw_X11_tapeAt ml_RX11_171 (m_X11_tapeAt1 x.2.1 g (CxI C) x1 h1 σ hσ c1) oC_0 rfl (Nat.le_of_ble_eq_true rfl) (Nat.le_of_ble_eq_true rfl) rfl rfl (Nat.le_of_ble_eq_true rfl) dX11_copy_2 (fun _ => ?_)
    refine J_astore (lo2 := [(6, .ref (gad g (tpO x1))), (0, .ref (gad g 0)), (1, vi x1), (2, vi x2), (3, vi x3), (4, vi x4), (5, vi x5)]) C 6 dX11_copy_5 (by decide) rfl ?_
    refine J_aload_n C 0 dX11_copy_7 rfl 1 rfl ?_
    refine J_iload_n C 3 dX11_copy_8 rfl 4 rfl ?_
    rcases lt_or h with ⟨c2, h⟩ | ⟨c2, h⟩
    · refine J_callV C mw_X11_tapeAt ml_RX11_171 (m_X11_tapeAt1 x.2.1 g (CxI C) x3 h3 σ hσ c2) oC_0 rfl (Nat.le_of_ble_eq_true rfl) (Nat.le_of_ble_eq_true rfl) rfl rfl (Nat.le_of_ble_eq_true rfl) dX11_copy_9 (fun _ => ?_)
      refine J_astore (lo2 := [(7, .ref (gad g (tpO x3))), (6, .ref (gad g (tpO x1))), (0, .ref (gad g 0)), (1, vi x1), (2, vi x2), (3, vi x3), (4, vi x4), (5, vi x5)]) C 7 dX11_copy_12 (by decide) rfl ?_
      refine J_aload C 6 dX11_copy_14 1 rfl ?_
      refine J_isnull C dX11_copy_16 ?_
      refine J_aload C 7 dX11_copy_19 0 rfl ?_
      refine J_nonnull C (tgt := 26) dX11_copy_21 (by decide) ?_
      refine J_aload C 6 dX11_copy_26 1 rfl ?_
      refine J_getI C fl_RX11_337 (tpA c1.1 c1.2).1 rfl dX11_copy_28 ?_
      refine J_if_eq C (hσ (tpO x1) 0 (tpA c1.1 c1.2).2.1) (tgt := 42) dX11_copy_31 (by decide) h (fun h c31 => ?_) (fun h c31 => ?_)
      · exact J_sub [2] rfl (pc3 σ hσ h)
      · refine J_aload C 7 dX11_copy_34 0 rfl ?_
        refine J_getI C fl_RX11_337 (tpA c2.1 c2.2).1 rfl dX11_copy_36 ?_
        refine J_if_ne C (hσ (tpO x3) 0 (tpA c2.1 c2.2).2.1) (tgt := 49) dX11_copy_39 (by decide) h (fun h c30 => ?_) (fun h c30 => ?_)
        · exact J_sub [2] rfl (pc3 σ hσ h)
        · refine J_aload C 6 dX11_copy_49 1 rfl ?_
          obtain ⟨q8, cq8, h⟩ := bdS h
          refine J_callV C mw_X9_isRow ml_RX11_340 (m_X9_isRow x.2.1 g (CxI C) (tpO x1) (tpA c1.1 c1.2) σ hσ q8 cq8) (tpA c1.1 c1.2).1 rfl (Nat.le_of_ble_eq_true rfl) (Nat.le_of_ble_eq_true rfl) rfl rfl (Nat.le_of_ble_eq_true rfl) dX11_copy_51 (fun hz9 => ?_)
          refine J_if_eq C (rg01 hz9) (tgt := 70) dX11_copy_54 (by decide) h (fun h c29 => ?_) (fun h c29 => ?_)
          · exact J_sub [2] rfl (pc10 σ hσ h)
          · refine J_aload C 6 dX11_copy_57 1 rfl ?_
            refine J_getI C fl_RX11_337 (tpA c1.1 c1.2).1 rfl dX11_copy_59 ?_
            refine J_aload C 7 dX11_copy_62 0 rfl ?_
            refine J_getI C fl_RX11_337 (tpA c2.1 c2.2).1 rfl dX11_copy_64 ?_
            refine J_icmp_eq C (hσ (tpO x1) 0 (tpA c1.1 c1.2).2.1) (hσ (tpO x3) 0 (tpA c2.1 c2.2).2.1) (tgt := 77) dX11_copy_67 (by decide) h (fun h c28 => ?_) (fun h c28 => ?_)
            · refine J_aload C 6 dX11_copy_77 1 rfl ?_
              refine J_iload_n C 2 dX11_copy_79 rfl 4 rfl ?_
              refine J_iload C 5 dX11_copy_80 7 rfl ?_
              obtain ⟨q15, cq15, h⟩ := bdS h
              refine J_callV C mw_X9_hasPlaces ml_RX11_358 (m_X9_hasPlaces x.2.1 g (CxI C) (tpO x1) (tpA c1.1 c1.2) x2 h2 x5 h5 σ hσ q15 cq15) (tpA c1.1 c1.2).1 rfl (Nat.le_of_ble_eq_true rfl) (Nat.le_of_ble_eq_true rfl) rfl rfl (Nat.le_of_ble_eq_true rfl) dX11_copy_82 (fun hz16 => ?_)
              refine J_if_eq C (rg01 hz16) (tgt := 100) dX11_copy_85 (by decide) h (fun h c27 => ?_) (fun h c27 => ?_)
              · exact J_sub [2] rfl (pc17 σ hσ h)
              · refine J_aload C 7 dX11_copy_88 0 rfl ?_
                refine J_iload C 4 dX11_copy_90 6 rfl ?_
                refine J_iload C 5 dX11_copy_92 7 rfl ?_
                obtain ⟨q22, cq22, h⟩ := bdS h
                refine J_callV C mw_X9_hasPlaces ml_RX11_358 (m_X9_hasPlaces x.2.1 g (CxI C) (tpO x3) (tpA c2.1 c2.2) x4 h4 x5 h5 σ hσ q22 cq22) (tpA c2.1 c2.2).1 rfl (Nat.le_of_ble_eq_true rfl) (Nat.le_of_ble_eq_true rfl) rfl rfl (Nat.le_of_ble_eq_true rfl) dX11_copy_94 (fun hz23 => ?_)
                refine J_if_ne C (rg01 hz23) (tgt := 107) dX11_copy_97 (by decide) h (fun h c26 => ?_) (fun h c26 => ?_)
                · exact J_sub [2] rfl (pc17 σ hσ h)
                · refine J_aload C 6 dX11_copy_107 1 rfl ?_
                  refine J_getR C fl_RX11_361 (tpA c1.1 c1.2).1 rfl dX11_copy_109 ?_
                  refine J_iload_n C 2 dX11_copy_112 rfl 4 rfl ?_
                  refine J_aload C 7 dX11_copy_113 0 rfl ?_
                  refine J_getR C fl_RX11_361 (tpA c2.1 c2.2).1 rfl dX11_copy_115 ?_
                  refine J_iload C 4 dX11_copy_118 6 rfl ?_
                  refine J_iload C 5 dX11_copy_120 7 rfl ?_
                  refine J_copyL C (tpA c1.1 c1.2).2.2.1 (tpA c2.1 c2.2).2.2.1 hσ h2 h4 h5 cpy_w ml_RX11_365 (Nat.le_of_ble_eq_true rfl) (Nat.le_of_ble_eq_true rfl) dX11_copy_122 h (fun σ24 hσ25 h => ?_)
                  refine J_iload C 5 dX11_copy_125 7 rfl ?_
                  have e9 := sE h
                  subst e9
                  exact J_iret C E ⟨h5, hσ25⟩ dX11_copy_127
            · exact J_sub [2] rfl (pc10 σ hσ h)
    · refine J_callV C mw_X11_tapeAt ml_RX11_171 (m_X11_tapeAt0 x.2.1 g (CxI C) x3 h3 σ hσ c2) oC_0 rfl (Nat.le_of_ble_eq_true rfl) (Nat.le_of_ble_eq_true rfl) rfl rfl (Nat.le_of_ble_eq_true rfl) dX11_copy_9 (fun _ => ?_)
      refine J_astoreN (lo2 := [(7, .null), (6, .ref (gad g (tpO x1))), (0, .ref (gad g 0)), (1, vi x1), (2, vi x2), (3, vi x3), (4, vi x4), (5, vi x5)]) C 7 dX11_copy_12 (by decide) rfl ?_
      refine J_aload C 6 dX11_copy_14 1 rfl ?_
      refine J_isnull C dX11_copy_16 ?_
      refine J_aloadN C 7 dX11_copy_19 0 rfl ?_
      refine J_nonnullN C dX11_copy_21 ?_
      refine J_iconst C dX11_copy_24 ?_
      have e9 := sE h
      subst e9
      exact J_iret C E ⟨rl_m1, hσ⟩ dX11_copy_25
  · refine J_callV C mw_X11_tapeAt ml_RX11_171 (m_X11_tapeAt0 x.2.1 g (CxI C) x1 h1 σ hσ c1) oC_0 rfl (Nat.le_of_ble_eq_true rfl) (Nat.le_of_ble_eq_true rfl) rfl rfl (Nat.le_of_ble_eq_true rfl) dX11_copy_2 (fun _ => ?_)
    refine J_astoreN (lo2 := [(6, .null), (0, .ref (gad g 0)), (1, vi x1), (2, vi x2), (3, vi x3), (4, vi x4), (5, vi x5)]) C 6 dX11_copy_5 (by decide) rfl ?_
    refine J_aload_n C 0 dX11_copy_7 rfl 1 rfl ?_
    refine J_iload_n C 3 dX11_copy_8 rfl 4 rfl ?_
    rcases lt_or h with ⟨c32, h⟩ | ⟨c32, h⟩
    · refine J_callV C mw_X11_tapeAt ml_RX11_171 (m_X11_tapeAt1 x.2.1 g (CxI C) x3 h3 σ hσ c32) oC_0 rfl (Nat.le_of_ble_eq_true rfl) (Nat.le_of_ble_eq_true rfl) rfl rfl (Nat.le_of_ble_eq_true rfl) dX11_copy_9 (fun _ => ?_)
      refine J_astore (lo2 := [(7, .ref (gad g (tpO x3))), (6, .null), (0, .ref (gad g 0)), (1, vi x1), (2, vi x2), (3, vi x3), (4, vi x4), (5, vi x5)]) C 7 dX11_copy_12 (by decide) rfl ?_
      refine J_aloadN C 6 dX11_copy_14 1 rfl ?_
      refine J_isnullN C (tgt := 24) dX11_copy_16 (by decide) ?_
      refine J_iconst C dX11_copy_24 ?_
      have e9 := sE h
      subst e9
      exact J_iret C E ⟨rl_m1, hσ⟩ dX11_copy_25
    · refine J_callV C mw_X11_tapeAt ml_RX11_171 (m_X11_tapeAt0 x.2.1 g (CxI C) x3 h3 σ hσ c32) oC_0 rfl (Nat.le_of_ble_eq_true rfl) (Nat.le_of_ble_eq_true rfl) rfl rfl (Nat.le_of_ble_eq_true rfl) dX11_copy_9 (fun _ => ?_)
      refine J_astoreN (lo2 := [(7, .null), (6, .null), (0, .ref (gad g 0)), (1, vi x1), (2, vi x2), (3, vi x3), (4, vi x4), (5, vi x5)]) C 7 dX11_copy_12 (by decide) rfl ?_
      refine J_aloadN C 6 dX11_copy_14 1 rfl ?_
      refine J_isnullN C (tgt := 24) dX11_copy_16 (by decide) ?_
      refine J_iconst C dX11_copy_24 ?_
      have e9 := sE h
      subst e9
      exact J_iret C E ⟨rl_m1, hσ⟩ dX11_copy_25
set_option maxRecDepth 100000 in
set_option maxHeartbeats 4000000 in
theorem wX2_number_L4 {x : Ct} {g : Gm} (C : Cx x yC g 3 cX2_number RX2 0 0) : ∀ (n : Nat) (x1 : Int) (h1 : rg x1) (x2 : Int) (h2 : rg x2) (σ : Sg) (hσ : wfS yC σ) (q : Int) (h : fX2_number_L4 n x1 x2 σ = some q) (k : rg q → J x yC g 3 28 [(1, vi q)] [] σ), J x yC g 3 4 [(0, .ref (gad g 6)), (1, vi x1), (2, vi x2)] [] σ := by
  intro n
  induction n with
  | zero =>
    intro x1 h1 x2 h2 σ hσ q h k
    exact absurd h (by intro z; cases z)
  | succ n ih =>
    intro x1 h1 x2 h2 σ hσ q h k
    rw [fX2_number_L4] at h
    have pc3 : ∀ (x1 : Int) (h1 : rg x1) (x2 : Int) (h2 : rg x2), fX2_number_L4P22 (fX2_number_L4 n) x1 x2 σ = some q → J x yC g 3 22 [(0, .ref (gad g 6)), (1, vi x1), (2, vi x2)] [] σ := by
      intro x1 h1 x2 h2 h
      unfold fX2_number_L4P22 at h
      refine J_iinc C 2 2 dX2_number_22 rfl (by decide) h (fun v4 hv5 h => ?_)
      refine J_goto C (tgt := 4) dX2_number_25 (by decide) ?_
      exact J_sub [1, 2, 0] rfl (ih x1 h1 v4 hv5 σ hσ q h k)
    refine J_iload_n C 2 dX2_number_4 rfl 2 rfl ?_
    refine J_bipush C dX2_number_5 (bp8 (by decide) (by decide)) ?_
    refine J_icmp_ge C h2 rl_12 (tgt := 28) dX2_number_7 (by decide) h (fun h c11 => ?_) (fun h c11 => ?_)
    · refine J_aload_n C 0 dX2_number_10 rfl 0 rfl ?_
      refine J_getR C fl_RX2_9 oC_6 rfl dX2_number_11 ?_
      refine J_iload_n C 2 dX2_number_14 rfl 2 rfl ?_
      refine J_iald C aC_7 hσ dX2_number_15 h (fun v1 hv2 h => ?_)
      refine J_if_le C hv2 (tgt := 22) dX2_number_16 (by decide) h (fun h c10 => ?_) (fun h c10 => ?_)
      · exact J_sub [0, 1, 2] rfl (pc3 x1 h1 x2 h2 h)
      · refine J_iinc C 1 1 dX2_number_19 rfl (by decide) h (fun v8 hv9 h => ?_)
        exact J_sub [1, 0, 2] rfl (pc3 v8 hv9 x2 h2 h)
    · have e9 := sE h
      subst e9
      exact J_sub [1] rfl (k h1)
set_option maxRecDepth 100000 in
set_option maxHeartbeats 4000000 in
theorem m_X2_number (l : Launch) (g : Gm) (hg : gInj yC g)  (σ : Sg) (hσ : wfS yC σ) (q : Int) (h : fX2_number  σ = some q) : CJ l yC g yX2_number cX2_number 3 (some .int) 0 0 [.ref (gad g 6)] σ (some (vi q)) σ (rg q) := by
  refine CJ_of hg (by decide) rfl (Nat.le_of_ble_eq_true rfl) (lo := [(0, .ref (gad g 6))]) rfl (fun x C E => ?_)
  unfold fX2_number at h
  refine J_iconst C dX2_number_0 ?_
  refine J_istore_n (lo2 := [(1, vi 0), (0, .ref (gad g 6))]) C 1 dX2_number_1 rfl (by decide) rfl ?_
  refine J_iconst C dX2_number_2 ?_
  refine J_istore_n (lo2 := [(2, vi 0), (1, vi 0), (0, .ref (gad g 6))]) C 2 dX2_number_3 rfl (by decide) rfl ?_
  obtain ⟨q12, cq12, h⟩ := bdS h
  refine J_sub [2, 1, 0] rfl (wX2_number_L4 C fu 0 rl_0 0 rl_0 σ hσ q12 cq12 (fun hr13 => ?_))
  refine J_iload_n C 1 dX2_number_28 rfl 0 rfl ?_
  have e9 := sE h
  subst e9
  exact J_iret C E hr13 dX2_number_29
set_option maxRecDepth 100000 in
set_option maxHeartbeats 4000000 in
theorem wX8_bargesTold_L4 {x : Ct} {g : Gm} (C : Cx x yC g 3 cX8_bargesTold RX8 0 0) : ∀ (n : Nat) (x1 : Int) (h1 : rg x1) (x2 : Int) (h2 : rg x2) (σ : Sg) (hσ : wfS yC σ) (q : Int) (h : fX8_bargesTold_L4 n x1 x2 σ = some q) (k : rg q → J x yC g 3 28 [(1, vi q)] [] σ), J x yC g 3 4 [(0, .ref (gad g 1)), (1, vi x1), (2, vi x2)] [] σ := by
  intro n
  induction n with
  | zero =>
    intro x1 h1 x2 h2 σ hσ q h k
    exact absurd h (by intro z; cases z)
  | succ n ih =>
    intro x1 h1 x2 h2 σ hσ q h k
    rw [fX8_bargesTold_L4] at h
    have pc3 : ∀ (x1 : Int) (h1 : rg x1) (x2 : Int) (h2 : rg x2), fX8_bargesTold_L4P22 (fX8_bargesTold_L4 n) x1 x2 σ = some q → J x yC g 3 22 [(0, .ref (gad g 1)), (1, vi x1), (2, vi x2)] [] σ := by
      intro x1 h1 x2 h2 h
      unfold fX8_bargesTold_L4P22 at h
      refine J_iinc C 2 2 dX8_bargesTold_22 rfl (by decide) h (fun v4 hv5 h => ?_)
      refine J_goto C (tgt := 4) dX8_bargesTold_25 (by decide) ?_
      exact J_sub [1, 2, 0] rfl (ih x1 h1 v4 hv5 σ hσ q h k)
    refine J_iload_n C 2 dX8_bargesTold_4 rfl 2 rfl ?_
    refine J_bipush C dX8_bargesTold_5 (bp8 (by decide) (by decide)) ?_
    refine J_icmp_ge C h2 rl_6 (tgt := 28) dX8_bargesTold_7 (by decide) h (fun h c11 => ?_) (fun h c11 => ?_)
    · refine J_aload_n C 0 dX8_bargesTold_10 rfl 0 rfl ?_
      refine J_getR C fl_RX8_22 oC_1 rfl dX8_bargesTold_11 ?_
      refine J_iload_n C 2 dX8_bargesTold_14 rfl 2 rfl ?_
      refine J_iald C aC_5 hσ dX8_bargesTold_15 h (fun v1 hv2 h => ?_)
      refine J_if_le C hv2 (tgt := 22) dX8_bargesTold_16 (by decide) h (fun h c10 => ?_) (fun h c10 => ?_)
      · exact J_sub [0, 1, 2] rfl (pc3 x1 h1 x2 h2 h)
      · refine J_iinc C 1 1 dX8_bargesTold_19 rfl (by decide) h (fun v8 hv9 h => ?_)
        exact J_sub [1, 0, 2] rfl (pc3 v8 hv9 x2 h2 h)
    · have e9 := sE h
      subst e9
      exact J_sub [1] rfl (k h1)
set_option maxRecDepth 100000 in
set_option maxHeartbeats 4000000 in
theorem m_X8_bargesTold (l : Launch) (g : Gm) (hg : gInj yC g)  (σ : Sg) (hσ : wfS yC σ) (q : Int) (h : fX8_bargesTold  σ = some q) : CJ l yC g yX8_bargesTold cX8_bargesTold 3 (some .int) 0 0 [.ref (gad g 1)] σ (some (vi q)) σ (rg q) := by
  refine CJ_of hg (by decide) rfl (Nat.le_of_ble_eq_true rfl) (lo := [(0, .ref (gad g 1))]) rfl (fun x C E => ?_)
  unfold fX8_bargesTold at h
  refine J_iconst C dX8_bargesTold_0 ?_
  refine J_istore_n (lo2 := [(1, vi 0), (0, .ref (gad g 1))]) C 1 dX8_bargesTold_1 rfl (by decide) rfl ?_
  refine J_iconst C dX8_bargesTold_2 ?_
  refine J_istore_n (lo2 := [(2, vi 0), (1, vi 0), (0, .ref (gad g 1))]) C 2 dX8_bargesTold_3 rfl (by decide) rfl ?_
  obtain ⟨q12, cq12, h⟩ := bdS h
  refine J_sub [2, 1, 0] rfl (wX8_bargesTold_L4 C fu 0 rl_0 0 rl_0 σ hσ q12 cq12 (fun hr13 => ?_))
  refine J_iload_n C 1 dX8_bargesTold_28 rfl 0 rfl ?_
  have e9 := sE h
  subst e9
  exact J_iret C E hr13 dX8_bargesTold_29
set_option maxRecDepth 100000 in
set_option maxHeartbeats 4000000 in
theorem m_X11_count (l : Launch) (g : Gm) (hg : gInj yC g) (x1 : Int) (h1 : rg x1) (σ : Sg) (hσ : wfS yC σ) (q : Int) (h : fX11_count x1 σ = some q) : CJ l yC g yX11_count cX11_count 2 (some .int) 3 64 [.ref (gad g 0), vi x1] σ (some (vi q)) σ (rg q) := by
  refine CJ_of hg (by decide) rfl (Nat.le_of_ble_eq_true rfl) (lo := [(0, .ref (gad g 0)), (1, vi x1)]) rfl (fun x C E => ?_)
  unfold fX11_count at h
  refine J_iload_n C 1 dX11_count_0 rfl 1 rfl ?_
  rcases lt_or h with ⟨c1, h⟩ | ⟨c1, h⟩
  · refine J_switch C (tgt := 48) h1 dX11_count_1 (47) (fun z => absurd z (by omega)) (fun _ _ => by rw [c1]; rfl) (by decide) ?_
    refine J_aload_n C 0 dX11_count_48 rfl 0 rfl ?_
    refine J_getR C fl_RX11_10 oC_0 rfl dX11_count_49 ?_
    refine J_getR C fl_RX11_115 oC_1 rfl dX11_count_52 ?_
    obtain ⟨q13, cq13, h⟩ := bdS h
    refine J_callV C mw_X2_number ml_RX11_371 (m_X2_number x.2.1 g (CxI C) σ hσ q13 cq13) oC_6 rfl (Nat.le_of_ble_eq_true rfl) (Nat.le_of_ble_eq_true rfl) rfl rfl (Nat.le_of_ble_eq_true rfl) dX11_count_55 (fun hz14 => ?_)
    have e9 := sE h
    subst e9
    exact J_iret C E hz14 dX11_count_58
  · rcases lt_or h with ⟨c2, h⟩ | ⟨c2, h⟩
    · refine J_switch C (tgt := 59) h1 dX11_count_1 (58) (fun z => absurd z (by omega)) (fun _ _ => by rw [c2]; rfl) (by decide) ?_
      refine J_aload_n C 0 dX11_count_59 rfl 0 rfl ?_
      refine J_getR C fl_RX11_10 oC_0 rfl dX11_count_60 ?_
      obtain ⟨q11, cq11, h⟩ := bdS h
      refine J_callV C mw_X8_bargesTold ml_RX11_374 (m_X8_bargesTold x.2.1 g (CxI C) σ hσ q11 cq11) oC_1 rfl (Nat.le_of_ble_eq_true rfl) (Nat.le_of_ble_eq_true rfl) rfl rfl (Nat.le_of_ble_eq_true rfl) dX11_count_63 (fun hz12 => ?_)
      have e9 := sE h
      subst e9
      exact J_iret C E hz12 dX11_count_66
    · rcases lt_or h with ⟨c3, h⟩ | ⟨c3, h⟩
      · refine J_switch C (tgt := 67) h1 dX11_count_1 (66) (fun z => absurd z (by omega)) (fun _ _ => by rw [c3]; rfl) (by decide) ?_
        refine J_aload_n C 0 dX11_count_67 rfl 0 rfl ?_
        refine J_getR C fl_RX11_19 oC_0 rfl dX11_count_68 ?_
        refine J_getI C fl_RX11_90 cues_19.1 rfl dX11_count_71 ?_
        have e9 := sE h
        subst e9
        exact J_iret C E (hσ 19 4 cues_19.2.1) dX11_count_74
      · rcases lt_or h with ⟨c4, h⟩ | ⟨c4, h⟩
        · refine J_switch C (tgt := 75) h1 dX11_count_1 (74) (fun z => absurd z (by omega)) (fun _ _ => by rw [c4]; rfl) (by decide) ?_
          refine J_aload_n C 0 dX11_count_75 rfl 0 rfl ?_
          refine J_getR C fl_RX11_19 oC_0 rfl dX11_count_76 ?_
          obtain ⟨q9, cq9, h⟩ := bdS h
          refine J_callV C mw_X1_openOnes ml_RX11_234 (m_X1_openOnes x.2.1 g (CxI C) 19 cues_19 σ hσ q9 cq9) cues_19.1 rfl (Nat.le_of_ble_eq_true rfl) (Nat.le_of_ble_eq_true rfl) rfl rfl (Nat.le_of_ble_eq_true rfl) dX11_count_79 (fun hz10 => ?_)
          have e9 := sE h
          subst e9
          exact J_iret C E hz10 dX11_count_82
        · rcases lt_or h with ⟨c5, h⟩ | ⟨c5, h⟩
          · refine J_switch C (tgt := 83) h1 dX11_count_1 (82) (fun z => absurd z (by omega)) (fun _ _ => by rw [c5]; rfl) (by decide) ?_
            refine J_aload_n C 0 dX11_count_83 rfl 0 rfl ?_
            refine J_getR C fl_RX11_44 oC_0 rfl dX11_count_84 ?_
            refine J_getI C fl_RX11_93 oC_40 rfl dX11_count_87 ?_
            have e9 := sE h
            subst e9
            exact J_iret C E (hσ 40 3 lC_40) dX11_count_90
          · rcases lt_or h with ⟨c6, h⟩ | ⟨c6, h⟩
            · refine J_switch C (tgt := 91) h1 dX11_count_1 (90) (fun z => absurd z (by omega)) (fun _ _ => by rw [c6]; rfl) (by decide) ?_
              refine J_aload_n C 0 dX11_count_91 rfl 0 rfl ?_
              refine J_getR C fl_RX11_51 oC_0 rfl dX11_count_92 ?_
              refine J_getI C fl_RX11_94 oC_44 rfl dX11_count_95 ?_
              have e9 := sE h
              subst e9
              exact J_iret C E (hσ 44 3 lC_44) dX11_count_98
            · rcases lt_or h with ⟨c7, h⟩ | ⟨c7, h⟩
              · refine J_switch C (tgt := 99) h1 dX11_count_1 (98) (fun z => absurd z (by omega)) (fun _ _ => by rw [c7]; rfl) (by decide) ?_
                refine J_aload_n C 0 dX11_count_99 rfl 0 rfl ?_
                refine J_getR C fl_RX11_69 oC_0 rfl dX11_count_100 ?_
                refine J_getI C fl_RX11_96 oC_54 rfl dX11_count_103 ?_
                have e9 := sE h
                subst e9
                exact J_iret C E (hσ 54 6 lC_54) dX11_count_106
              · rcases lt_or h with ⟨c8, h⟩ | ⟨c8, h⟩
                · refine J_switch C (tgt := 107) h1 dX11_count_1 (106) (fun z => absurd z (by omega)) (fun _ _ => by rw [c8]; rfl) (by decide) ?_
                  refine J_aload_n C 0 dX11_count_107 rfl 0 rfl ?_
                  refine J_getI C fl_RX11_84 oC_0 rfl dX11_count_108 ?_
                  have e9 := sE h
                  subst e9
                  exact J_iret C E (hσ 0 10 lC_0) dX11_count_111
                · refine J_switch C (tgt := 112) h1 dX11_count_1 (111) (fun _ => rfl) (fun z1 z2 => absurd z1 (by omega)) (by decide) ?_
                  refine J_iconst C dX11_count_112 ?_
                  have e9 := sE h
                  subst e9
                  exact J_iret C E rl_m1 dX11_count_113
set_option maxRecDepth 100000 in
set_option maxHeartbeats 4000000 in
theorem m_X12_thrown (l : Launch) (g : Gm) (hg : gInj yR g)  (σ : Sg) (hσ : wfS yR σ) (q : Int) (h : fX12_thrown  σ = some q) : CJ l yR g yX12_thrown cX12_thrown 1 (some .int) 0 0 [.ref (gad g 0)] σ (some (vi q)) σ (rg q) := by
  refine CJ_of hg (by decide) rfl (Nat.le_of_ble_eq_true rfl) (lo := [(0, .ref (gad g 0))]) rfl (fun x C E => ?_)
  unfold fX12_thrown at h
  refine J_aload_n C 0 dX12_thrown_0 rfl 0 rfl ?_
  refine J_getI C fl_RX12_148 oR_0 rfl dX12_thrown_1 ?_
  have e9 := sE h
  subst e9
  exact J_iret C E (hσ 0 38 lR_0) dX12_thrown_4
set_option maxRecDepth 100000 in
set_option maxHeartbeats 4000000 in
theorem m_X12_host (l : Launch) (g : Gm) (hg : gInj yR g) (x1 : Int) (h1 : rg x1) (σ : Sg) (hσ : wfS yR σ) (q : Int × Sg) (h : fX12_host x1 σ = some q) : CJ l yR g yX12_host cX12_host 2 (some .int) 0 0 [.ref (gad g 0), vi x1] σ (some (vi q.1)) q.2 ((rg q.1) ∧ wfS yR q.2) := by
  refine CJ_of hg (by decide) rfl (Nat.le_of_ble_eq_true rfl) (lo := [(0, .ref (gad g 0)), (1, vi x1)]) rfl (fun x C E => ?_)
  unfold fX12_host at h
  refine J_aload_n C 0 dX12_host_0 rfl 0 rfl ?_
  refine J_dup C rfl dX12_host_1 ?_
  refine J_getI C fl_RX12_152 oR_0 rfl dX12_host_2 ?_
  refine J_iconst C dX12_host_5 ?_
  refine J_iadd C dX12_host_6 h (fun v1 hv2 h => ?_)
  refine J_putI C fl_RX12_152 fp_RX12_37 oR_0 rfl rfl lR_0 hσ hv2 dX12_host_7 h (fun σ3 hσ4 h => ?_)
  refine J_iload_n C 1 dX12_host_10 rfl 1 rfl ?_
  have e9 := sE h
  subst e9
  exact J_iret C E ⟨h1, hσ4⟩ dX12_host_11
set_option maxRecDepth 100000 in
set_option maxHeartbeats 4000000 in
theorem m_X12_isIn (l : Launch) (g : Gm) (hg : gInj yR g) (x0 : Int) (h0 : rg x0) (x1 : Int) (h1 : rg x1) (x2 : Int) (h2 : rg x2) (σ : Sg) (hσ : wfS yR σ) (q : Int) (h : fX12_isIn x0 x1 x2 σ = some q) : CJ l yR g yX12_isIn cX12_isIn 3 (some .boolean) 0 0 [vi x0, vi x1, vi x2] σ (some (vi q)) σ (q = 0 ∨ q = 1) := by
  refine CJ_of hg (by decide) rfl (Nat.le_of_ble_eq_true rfl) (lo := [(0, vi x0), (1, vi x1), (2, vi x2)]) rfl (fun x C E => ?_)
  unfold fX12_isIn at h
  refine J_iload_n C 0 dX12_isIn_0 rfl 0 rfl ?_
  refine J_iload_n C 1 dX12_isIn_1 rfl 1 rfl ?_
  refine J_icmp_lt C h0 h1 (tgt := 14) dX12_isIn_2 (by decide) h (fun h c2 => ?_) (fun h c2 => ?_)
  · refine J_iconst C dX12_isIn_14 ?_
    have e9 := sE h
    subst e9
    exact J_zret C (Or.inl rfl) E (Or.inl rfl) dX12_isIn_15
  · refine J_iload_n C 0 dX12_isIn_5 rfl 0 rfl ?_
    refine J_iload_n C 2 dX12_isIn_6 rfl 2 rfl ?_
    refine J_icmp_gt C h0 h2 (tgt := 14) dX12_isIn_7 (by decide) h (fun h c1 => ?_) (fun h c1 => ?_)
    · refine J_iconst C dX12_isIn_10 ?_
      refine J_goto C (tgt := 15) dX12_isIn_11 (by decide) ?_
      have e9 := sE h
      subst e9
      exact J_zret C (Or.inr rfl) E (Or.inr rfl) dX12_isIn_15
    · refine J_iconst C dX12_isIn_14 ?_
      have e9 := sE h
      subst e9
      exact J_zret C (Or.inl rfl) E (Or.inl rfl) dX12_isIn_15
set_option maxRecDepth 100000 in
set_option maxHeartbeats 4000000 in
theorem wX12_begin_L7 {x : Ct} {g : Gm} (C : Cx x yR g 2 cX12_begin RX12 0 0) : ∀ (n : Nat) (x1 : Int) (h1 : rg x1) (σ : Sg) (hσ : wfS yR σ) (q : Sg) (h : fX12_begin_L7 n x1 σ = some q) (k : wfS yR q → J x yR g 2 27 [(0, .ref (gad g 0))] [] q), J x yR g 2 7 [(0, .ref (gad g 0)), (1, vi x1)] [] σ := by
  intro n
  induction n with
  | zero =>
    intro x1 h1 σ hσ q h k
    exact absurd h (by intro z; cases z)
  | succ n ih =>
    intro x1 h1 σ hσ q h k
    rw [fX12_begin_L7] at h
    refine J_iload_n C 1 dX12_begin_7 rfl 1 rfl ?_
    refine J_sipush C dX12_begin_8 (bp16 (by decide) (by decide)) ?_
    refine J_icmp_ge C h1 rl_1024 (tgt := 27) dX12_begin_11 (by decide) h (fun h c7 => ?_) (fun h c7 => ?_)
    · refine J_aload_n C 0 dX12_begin_14 rfl 0 rfl ?_
      refine J_getR C fl_RX12_9 oR_0 rfl dX12_begin_15 ?_
      refine J_iload_n C 1 dX12_begin_18 rfl 1 rfl ?_
      refine J_iconst C dX12_begin_19 ?_
      refine J_iast C aR_1 hσ rl_0 dX12_begin_20 h (fun σ3 hσ4 h => ?_)
      refine J_iinc C 1 1 dX12_begin_21 rfl (by decide) h (fun v5 hv6 h => ?_)
      refine J_goto C (tgt := 7) dX12_begin_24 (by decide) ?_
      exact J_sub [1, 0] rfl (ih v5 hv6 σ3 hσ4 q h k)
    · have e9 := sE h
      subst e9
      exact J_sub [0] rfl (k hσ)
set_option maxRecDepth 100000 in
set_option maxHeartbeats 4000000 in
theorem wX12_begin_L29 {x : Ct} {g : Gm} (C : Cx x yR g 2 cX12_begin RX12 0 0) : ∀ (n : Nat) (x1 : Int) (h1 : rg x1) (σ : Sg) (hσ : wfS yR σ) (q : Sg) (h : fX12_begin_L29 n x1 σ = some q) (k : wfS yR q → J x yR g 2 48 [(0, .ref (gad g 0))] [] q), J x yR g 2 29 [(0, .ref (gad g 0)), (1, vi x1)] [] σ := by
  intro n
  induction n with
  | zero =>
    intro x1 h1 σ hσ q h k
    exact absurd h (by intro z; cases z)
  | succ n ih =>
    intro x1 h1 σ hσ q h k
    rw [fX12_begin_L29] at h
    refine J_iload_n C 1 dX12_begin_29 rfl 1 rfl ?_
    refine J_bipush C dX12_begin_30 (bp8 (by decide) (by decide)) ?_
    refine J_icmp_ge C h1 rl_12 (tgt := 48) dX12_begin_32 (by decide) h (fun h c14 => ?_) (fun h c14 => ?_)
    · refine J_aload_n C 0 dX12_begin_35 rfl 0 rfl ?_
      refine J_getR C fl_RX12_13 oR_0 rfl dX12_begin_36 ?_
      refine J_iload_n C 1 dX12_begin_39 rfl 1 rfl ?_
      refine J_iconst C dX12_begin_40 ?_
      refine J_iast C aR_2 hσ rl_0 dX12_begin_41 h (fun σ10 hσ11 h => ?_)
      refine J_iinc C 1 1 dX12_begin_42 rfl (by decide) h (fun v12 hv13 h => ?_)
      refine J_goto C (tgt := 29) dX12_begin_45 (by decide) ?_
      exact J_sub [1, 0] rfl (ih v12 hv13 σ10 hσ11 q h k)
    · have e9 := sE h
      subst e9
      exact J_sub [0] rfl (k hσ)
