set_option maxRecDepth 100000 in
set_option maxHeartbeats 4000000 in
theorem wX12_fateOf_L97 {x : Ct} {g : Gm} (C : Cx x yR g 6 cX12_fateOf RX12 3 81) : ∀ (n : Nat) (x1 : Int) (h1 : rg x1) (x3 : Int) (h3 : rg x3) (x4 : Int) (h4 : rg x4) (σ : Sg) (hσ : wfS yR σ) (q : (Sg) ⊕ (Sg)) (h : fX12_fateOf_L97 n x1 x3 x4 σ = some q) (k0 : ∀ a : Sg, q = .inl a → wfS yR a → J x yR g 6 117 [] [] a) (k1 : ∀ a : Sg, q = .inr a → wfS yR a → J x yR g 6 125 [(0, .ref (gad g 0)), (1, vi x1)] [] a), J x yR g 6 97 [(0, .ref (gad g 0)), (1, vi x1), (3, vi x3), (4, vi x4)] [] σ := by
  intro n
  induction n with
  | zero =>
    intro x1 h1 x3 h3 x4 h4 σ hσ q h k0 k1
    exact absurd h (by intro z; cases z)
  | succ n ih =>
    intro x1 h1 x3 h3 x4 h4 σ hσ q h k0 k1
    rw [fX12_fateOf_L97] at h
    refine J_iload C 4 dX12_fateOf_97 3 rfl ?_
    refine J_aload_n C 0 dX12_fateOf_99 rfl 0 rfl ?_
    refine J_getI C fl_RX12_165 oR_0 rfl dX12_fateOf_100 ?_
    refine J_icmp_ge C h4 (hσ 0 34 lR_0) (tgt := 125) dX12_fateOf_103 (by decide) h (fun h c34 => ?_) (fun h c34 => ?_)
    · refine J_aload_n C 0 dX12_fateOf_106 rfl 0 rfl ?_
      refine J_iload C 4 dX12_fateOf_107 3 rfl ?_
      refine J_iload_n C 1 dX12_fateOf_109 rfl 1 rfl ?_
      refine J_iload_n C 3 dX12_fateOf_110 rfl 2 rfl ?_
      obtain ⟨q29, cq29, h⟩ := bdS h
      refine J_callV C mw_X12_holdsFor ml_RX12_287 (m_X12_holdsFor x.2.1 g (CxI C) x4 h4 x1 h1 x3 h3 σ hσ q29 cq29) oR_0 rfl (Nat.le_of_ble_eq_true rfl) (Nat.le_of_ble_eq_true rfl) rfl rfl (Nat.le_of_ble_eq_true rfl) dX12_fateOf_111 (fun hz30 => ?_)
      refine J_if_eq C (rg01 hz30.1) (tgt := 119) dX12_fateOf_114 (by decide) h (fun h c33 => ?_) (fun h c33 => ?_)
      · refine J_iinc C 4 3 dX12_fateOf_119 rfl (by decide) h (fun v31 hv32 h => ?_)
        refine J_goto C (tgt := 97) dX12_fateOf_122 (by decide) ?_
        exact J_sub [1, 2, 3, 0] rfl (ih x1 h1 x3 h3 v31 hv32 q29.2 hz30.2 q h k0 k1)
      · have e9 := sE h
        exact J_sub [] rfl (k0 q29.2 e9.symm hz30.2)
    · have e9 := sE h
      exact J_sub [0, 1] rfl (k1 σ e9.symm hσ)
set_option maxRecDepth 100000 in
set_option maxHeartbeats 4000000 in
theorem m_X12_fateOf (l : Launch) (g : Gm) (hg : gInj yR g) (x1 : Int) (h1 : rg x1) (x2 : Int) (h2 : rg x2) (σ : Sg) (hσ : wfS yR σ) (q : Int × Sg) (h : fX12_fateOf x1 x2 σ = some q) : CJ l yR g yX12_fateOf cX12_fateOf 6 (some .int) 3 81 [.ref (gad g 0), vi x1, vi x2] σ (some (vi q.1)) q.2 ((rg q.1) ∧ wfS yR q.2) := by
  refine CJ_of hg (by decide) rfl (Nat.le_of_ble_eq_true rfl) (lo := [(0, .ref (gad g 0)), (1, vi x1), (2, vi x2)]) rfl (fun x C E => ?_)
  unfold fX12_fateOf at h
  have pc52 : ∀ (x5 : Int) (h5 : rg x5) (σ : Sg) (hσ : wfS yR σ), fX12_fateOf_P180 x1 x5 σ = some q → J x yR g 6 180 [(0, .ref (gad g 0)), (1, vi x1), (5, vi x5)] [] σ := by
    intro x5 h5 σ hσ h
    unfold fX12_fateOf_P180 at h
    refine J_aload_n C 0 dX12_fateOf_180 rfl 0 rfl ?_
    refine J_getR C fl_RX12_135 oR_0 rfl dX12_fateOf_181 ?_
    refine J_iload_n C 1 dX12_fateOf_184 rfl 1 rfl ?_
    refine J_iald C aR_42 hσ dX12_fateOf_185 h (fun v53 hv54 h => ?_)
    refine J_if_ge C hv54 (tgt := 203) dX12_fateOf_186 (by decide) h (fun h c63 => ?_) (fun h c63 => ?_)
    · refine J_aload_n C 0 dX12_fateOf_189 rfl 0 rfl ?_
      refine J_getR C fl_RX12_135 oR_0 rfl dX12_fateOf_190 ?_
      refine J_iload_n C 1 dX12_fateOf_193 rfl 1 rfl ?_
      refine J_aload_n C 0 dX12_fateOf_194 rfl 0 rfl ?_
      refine J_getR C fl_RX12_49 oR_0 rfl dX12_fateOf_195 ?_
      refine J_iload_n C 1 dX12_fateOf_198 rfl 1 rfl ?_
      refine J_iald C aR_14 hσ dX12_fateOf_199 h (fun v59 hv60 h => ?_)
      refine J_iast C aR_42 hσ hv60 dX12_fateOf_200 h (fun σ61 hσ62 h => ?_)
      refine J_iconst C dX12_fateOf_201 ?_
      have e9 := sE h
      subst e9
      exact J_iret C E ⟨rl_2, hσ62⟩ dX12_fateOf_202
    · refine J_aload_n C 0 dX12_fateOf_203 rfl 0 rfl ?_
      refine J_getR C fl_RX12_58 oR_0 rfl dX12_fateOf_204 ?_
      refine J_iload_n C 1 dX12_fateOf_207 rfl 1 rfl ?_
      refine J_iald C aR_17 hσ dX12_fateOf_208 h (fun v55 hv56 h => ?_)
      refine J_bipush C dX12_fateOf_209 (bp8 (by decide) (by decide)) ?_
      refine J_icmp_ne C hv56 rl_6 (tgt := 218) dX12_fateOf_211 (by decide) h (fun h c58 => ?_) (fun h c58 => ?_)
      · refine J_iconst C dX12_fateOf_214 ?_
        refine J_goto C (tgt := 228) dX12_fateOf_215 (by decide) ?_
        have e9 := sE h
        subst e9
        exact J_iret C E ⟨rl_5, hσ⟩ dX12_fateOf_228
      · refine J_iload C 5 dX12_fateOf_218 2 rfl ?_
        refine J_if_eq C h5 (tgt := 227) dX12_fateOf_220 (by decide) h (fun h c57 => ?_) (fun h c57 => ?_)
        · refine J_iconst C dX12_fateOf_227 ?_
          have e9 := sE h
          subst e9
          exact J_iret C E ⟨rl_1, hσ⟩ dX12_fateOf_228
        · refine J_iconst C dX12_fateOf_223 ?_
          refine J_goto C (tgt := 228) dX12_fateOf_224 (by decide) ?_
          have e9 := sE h
          subst e9
          exact J_iret C E ⟨rl_0, hσ⟩ dX12_fateOf_228
  have pc3 : ∀  (σ : Sg) (hσ : wfS yR σ), fX12_fateOf_P33 x1 x2 σ = some q → J x yR g 6 33 [(0, .ref (gad g 0)), (1, vi x1), (2, vi x2)] [] σ := by
    intro  σ hσ h
    unfold fX12_fateOf_P33 at h
    refine J_iconst C dX12_fateOf_33 ?_
    refine J_istore_n (lo2 := [(3, vi 0), (0, .ref (gad g 0)), (1, vi x1), (2, vi x2)]) C 3 dX12_fateOf_34 rfl (by decide) rfl ?_
    refine J_iconst C dX12_fateOf_35 ?_
    refine J_istore (lo2 := [(4, vi 0), (3, vi 0), (0, .ref (gad g 0)), (1, vi x1), (2, vi x2)]) C 4 dX12_fateOf_36 (by decide) rfl ?_
    obtain ⟨q27, cq27, h⟩ := bdS h
    refine J_sub [2, 3, 4, 1, 0] rfl (wX12_fateOf_L38 C fu x1 h1 x2 h2 0 rl_0 0 rl_0 σ hσ q27 cq27 (fun hr28 => ?_))
    refine J_iconst C dX12_fateOf_94 ?_
    refine J_istore (lo2 := [(4, vi 0), (0, .ref (gad g 0)), (1, vi x1), (3, vi q27)]) C 4 dX12_fateOf_95 (by decide) rfl ?_
    obtain ⟨q35, cq35, h⟩ := bdS h
    refine J_sub [1, 2, 3, 0] rfl (wX12_fateOf_L97 C fu x1 h1 q27 hr28 0 rl_0 σ hσ q35 cq35 (fun a36 ea36 hσ37 => ?_) (fun a38 ea38 hσ39 => ?_))
    · subst ea36
      have h := elL h
      refine J_iconst C dX12_fateOf_117 ?_
      have e9 := sE h
      subst e9
      exact J_iret C E ⟨rl_3, hσ37⟩ dX12_fateOf_118
    · subst ea38
      have h := elR h
      refine J_aload_n C 0 dX12_fateOf_125 rfl 0 rfl ?_
      refine J_aload_n C 0 dX12_fateOf_126 rfl 0 rfl ?_
      refine J_iload_n C 1 dX12_fateOf_127 rfl 1 rfl ?_
      obtain ⟨q40, cq40, h⟩ := bdS h
      refine J_callV C mw_X12_fire ml_RX12_254 (m_X12_fire x.2.1 g (CxI C) x1 h1 a38 hσ39 q40 cq40) oR_0 rfl (Nat.le_of_ble_eq_true rfl) (Nat.le_of_ble_eq_true rfl) rfl rfl (Nat.le_of_ble_eq_true rfl) dX12_fateOf_128 (fun hz41 => ?_)
      obtain ⟨q42, cq42, h⟩ := bdS h
      refine J_callV C mw_X12_knownWind ml_RX12_278 (m_X12_knownWind x.2.1 g (CxI C) q40 hz41 a38 hσ39 q42 cq42) oR_0 rfl (Nat.le_of_ble_eq_true rfl) (Nat.le_of_ble_eq_true rfl) rfl rfl (Nat.le_of_ble_eq_true rfl) dX12_fateOf_131 (fun hz43 => ?_)
      refine J_istore (lo2 := [(4, vi q42), (0, .ref (gad g 0)), (1, vi x1)]) C 4 dX12_fateOf_134 (by decide) rfl ?_
      refine J_aload_n C 0 dX12_fateOf_136 rfl 1 rfl ?_
      refine J_aload_n C 0 dX12_fateOf_137 rfl 1 rfl ?_
      refine J_getR C fl_RX12_49 oR_0 rfl dX12_fateOf_138 ?_
      refine J_iload_n C 1 dX12_fateOf_141 rfl 2 rfl ?_
      refine J_iald C aR_14 hσ39 dX12_fateOf_142 h (fun v44 hv45 h => ?_)
      refine J_aload_n C 0 dX12_fateOf_143 rfl 1 rfl ?_
      refine J_getR C fl_RX12_52 oR_0 rfl dX12_fateOf_144 ?_
      refine J_iload_n C 1 dX12_fateOf_147 rfl 2 rfl ?_
      refine J_iald C aR_15 hσ39 dX12_fateOf_148 h (fun v46 hv47 h => ?_)
      refine J_aload_n C 0 dX12_fateOf_149 rfl 1 rfl ?_
      refine J_getR C fl_RX12_55 oR_0 rfl dX12_fateOf_150 ?_
      refine J_iload_n C 1 dX12_fateOf_153 rfl 2 rfl ?_
      refine J_iald C aR_16 hσ39 dX12_fateOf_154 h (fun v48 hv49 h => ?_)
      refine J_iload C 4 dX12_fateOf_155 0 rfl ?_
      obtain ⟨q50, cq50, h⟩ := bdS h
      refine J_callV C mw_X12_isSafe ml_RX12_205 (m_X12_isSafe x.2.1 g (CxI C) v44 hv45 v46 hv47 v48 hv49 q42 hz43 a38 hσ39 q50 cq50) oR_0 rfl (Nat.le_of_ble_eq_true rfl) (Nat.le_of_ble_eq_true rfl) rfl rfl (Nat.le_of_ble_eq_true rfl) dX12_fateOf_157 (fun hz51 => ?_)
      refine J_istore (lo2 := [(5, vi q50), (4, vi q42), (0, .ref (gad g 0)), (1, vi x1)]) C 5 dX12_fateOf_160 (by decide) rfl ?_
      refine J_iload C 5 dX12_fateOf_162 0 rfl ?_
      refine J_if_ne C (rg01 hz51) (tgt := 180) dX12_fateOf_164 (by decide) h (fun h c79 => ?_) (fun h c79 => ?_)
      · refine J_aload_n C 0 dX12_fateOf_167 rfl 2 rfl ?_
        refine J_getR C fl_RX12_135 oR_0 rfl dX12_fateOf_168 ?_
        refine J_iload_n C 1 dX12_fateOf_171 rfl 3 rfl ?_
        refine J_aload_n C 0 dX12_fateOf_172 rfl 2 rfl ?_
        refine J_iload_n C 1 dX12_fateOf_173 rfl 3 rfl ?_
        refine J_iload C 4 dX12_fateOf_174 1 rfl ?_
        obtain ⟨q75, cq75, h⟩ := bdS h
        refine J_callV C mw_X12_otherKind ml_RX12_290 (m_X12_otherKind x.2.1 g (CxI C) x1 h1 q42 hz43 a38 hσ39 q75 cq75) oR_0 rfl (Nat.le_of_ble_eq_true rfl) (Nat.le_of_ble_eq_true rfl) rfl rfl (Nat.le_of_ble_eq_true rfl) dX12_fateOf_176 (fun hz76 => ?_)
        refine J_iast C aR_42 hσ39 hz76 dX12_fateOf_179 h (fun σ77 hσ78 h => ?_)
        exact J_sub [2, 3, 0] rfl (pc52 q50 (rg01 hz51) σ77 hσ78 h)
      · exact J_sub [2, 3, 0] rfl (pc52 q50 (rg01 hz51) a38 hσ39 h)
  refine J_aload_n C 0 dX12_fateOf_0 rfl 0 rfl ?_
  refine J_getR C fl_RX12_52 oR_0 rfl dX12_fateOf_1 ?_
  refine J_iload_n C 1 dX12_fateOf_4 rfl 1 rfl ?_
  refine J_iald C aR_15 hσ dX12_fateOf_5 h (fun v1 hv2 h => ?_)
  refine J_if_ge C hv2 (tgt := 12) dX12_fateOf_6 (by decide) h (fun h c108 => ?_) (fun h c108 => ?_)
  · refine J_bipush C dX12_fateOf_9 (bp8 (by decide) (by decide)) ?_
    have e9 := sE h
    subst e9
    exact J_iret C E ⟨rl_6, hσ⟩ dX12_fateOf_11
  · refine J_aload_n C 0 dX12_fateOf_12 rfl 0 rfl ?_
    refine J_getI C fl_RX12_168 oR_0 rfl dX12_fateOf_13 ?_
    refine J_if_lt C (hσ 0 35 lR_0) (tgt := 33) dX12_fateOf_16 (by decide) h (fun h c107 => ?_) (fun h c107 => ?_)
    · exact J_sub [0, 1, 2] rfl (pc3 σ hσ h)
    · refine J_aload_n C 0 dX12_fateOf_19 rfl 0 rfl ?_
      refine J_iload_n C 1 dX12_fateOf_20 rfl 1 rfl ?_
      obtain ⟨q104, cq104, h⟩ := bdS h
      refine J_callV C mw_X12_fire ml_RX12_254 (m_X12_fire x.2.1 g (CxI C) x1 h1 σ hσ q104 cq104) oR_0 rfl (Nat.le_of_ble_eq_true rfl) (Nat.le_of_ble_eq_true rfl) rfl rfl (Nat.le_of_ble_eq_true rfl) dX12_fateOf_21 (fun hz105 => ?_)
      refine J_aload_n C 0 dX12_fateOf_24 rfl 0 rfl ?_
      refine J_getI C fl_RX12_168 oR_0 rfl dX12_fateOf_25 ?_
      refine J_icmp_lt C hz105 (hσ 0 35 lR_0) (tgt := 33) dX12_fateOf_28 (by decide) h (fun h c106 => ?_) (fun h c106 => ?_)
      · exact J_sub [0, 1, 2] rfl (pc3 σ hσ h)
      · refine J_iconst C dX12_fateOf_31 ?_
        have e9 := sE h
        subst e9
        exact J_iret C E ⟨rl_4, hσ⟩ dX12_fateOf_32
set_option maxRecDepth 100000 in
set_option maxHeartbeats 4000000 in
theorem wX12_plays_L25 {x : Ct} {g : Gm} (C : Cx x yR g 3 cX12_plays RX12 4 106) : ∀ (n : Nat) (x1 : Int) (h1 : rg x1) (x2 : Int) (h2 : rg x2) (σ : Sg) (hσ : wfS yR σ) (q : Int × Sg) (h : fX12_plays_L25 n x1 x2 σ = some q) (k : rg q.1 → wfS yR q.2 → J x yR g 3 69 [(0, .ref (gad g 0)), (1, vi x1), (2, vi q.1)] [] q.2), J x yR g 3 25 [(0, .ref (gad g 0)), (1, vi x1), (2, vi x2)] [] σ := by
  intro n
  induction n with
  | zero =>
    intro x1 h1 x2 h2 σ hσ q h k
    exact absurd h (by intro z; cases z)
  | succ n ih =>
    intro x1 h1 x2 h2 σ hσ q h k
    rw [fX12_plays_L25] at h
    refine J_iload_n C 2 dX12_plays_25 rfl 2 rfl ?_
    refine J_if_le C h2 (tgt := 69) dX12_plays_26 (by decide) h (fun h c20 => ?_) (fun h c20 => ?_)
    · have e9 := sE h
      subst e9
      exact J_sub [0, 1, 2] rfl (k h2 hσ)
    · refine J_aload_n C 0 dX12_plays_29 rfl 0 rfl ?_
      refine J_aload_n C 0 dX12_plays_30 rfl 0 rfl ?_
      refine J_getR C fl_RX12_129 oR_0 rfl dX12_plays_31 ?_
      refine J_iload_n C 2 dX12_plays_34 rfl 2 rfl ?_
      refine J_iconst C dX12_plays_35 ?_
      refine J_isub C dX12_plays_36 h (fun v3 hv4 h => ?_)
      refine J_iald C aR_40 hσ dX12_plays_37 h (fun v5 hv6 h => ?_)
      obtain ⟨q7, cq7, h⟩ := bdS h
      refine J_callV C mw_X12_fire ml_RX12_254 (m_X12_fire x.2.1 g (CxI C) v5 hv6 σ hσ q7 cq7) oR_0 rfl (Nat.le_of_ble_eq_true rfl) (Nat.le_of_ble_eq_true rfl) rfl rfl (Nat.le_of_ble_eq_true rfl) dX12_plays_38 (fun hz8 => ?_)
      refine J_aload_n C 0 dX12_plays_41 rfl 0 rfl ?_
      refine J_iload_n C 1 dX12_plays_42 rfl 1 rfl ?_
      obtain ⟨q9, cq9, h⟩ := bdS h
      refine J_callV C mw_X12_fire ml_RX12_254 (m_X12_fire x.2.1 g (CxI C) x1 h1 σ hσ q9 cq9) oR_0 rfl (Nat.le_of_ble_eq_true rfl) (Nat.le_of_ble_eq_true rfl) rfl rfl (Nat.le_of_ble_eq_true rfl) dX12_plays_43 (fun hz10 => ?_)
      refine J_icmp_le C hz8 hz10 (tgt := 69) dX12_plays_46 (by decide) h (fun h c19 => ?_) (fun h c19 => ?_)
      · have e9 := sE h
        subst e9
        exact J_sub [0, 1, 2] rfl (k h2 hσ)
      · refine J_aload_n C 0 dX12_plays_49 rfl 0 rfl ?_
        refine J_getR C fl_RX12_129 oR_0 rfl dX12_plays_50 ?_
        refine J_iload_n C 2 dX12_plays_53 rfl 2 rfl ?_
        refine J_aload_n C 0 dX12_plays_54 rfl 0 rfl ?_
        refine J_getR C fl_RX12_129 oR_0 rfl dX12_plays_55 ?_
        refine J_iload_n C 2 dX12_plays_58 rfl 2 rfl ?_
        refine J_iconst C dX12_plays_59 ?_
        refine J_isub C dX12_plays_60 h (fun v11 hv12 h => ?_)
        refine J_iald C aR_40 hσ dX12_plays_61 h (fun v13 hv14 h => ?_)
        refine J_iast C aR_40 hσ hv14 dX12_plays_62 h (fun σ15 hσ16 h => ?_)
        refine J_iinc C 2 2 dX12_plays_63 rfl (by decide) h (fun v17 hv18 h => ?_)
        refine J_goto C (tgt := 25) dX12_plays_66 (by decide) ?_
        exact J_sub [1, 2, 0] rfl (ih x1 h1 v17 hv18 σ15 hσ16 q h k)
set_option maxRecDepth 100000 in
set_option maxHeartbeats 4000000 in
theorem wX12_plays_L15 {x : Ct} {g : Gm} (C : Cx x yR g 3 cX12_plays RX12 4 106) : ∀ (n : Nat) (x1 : Int) (h1 : rg x1) (σ : Sg) (hσ : wfS yR σ) (q : Sg) (h : fX12_plays_L15 n x1 σ = some q) (k : wfS yR q → J x yR g 3 82 [(0, .ref (gad g 0))] [] q), J x yR g 3 15 [(0, .ref (gad g 0)), (1, vi x1)] [] σ := by
  intro n
  induction n with
  | zero =>
    intro x1 h1 σ hσ q h k
    exact absurd h (by intro z; cases z)
  | succ n ih =>
    intro x1 h1 σ hσ q h k
    rw [fX12_plays_L15] at h
    refine J_iload_n C 1 dX12_plays_15 rfl 1 rfl ?_
    refine J_aload_n C 0 dX12_plays_16 rfl 0 rfl ?_
    refine J_getI C fl_RX12_159 oR_0 rfl dX12_plays_17 ?_
    refine J_icmp_ge C h1 (hσ 0 32 lR_0) (tgt := 82) dX12_plays_20 (by decide) h (fun h c28 => ?_) (fun h c28 => ?_)
    · refine J_iload_n C 1 dX12_plays_23 rfl 1 rfl ?_
      refine J_istore_n (lo2 := [(2, vi x1), (0, .ref (gad g 0)), (1, vi x1)]) C 2 dX12_plays_24 rfl (by decide) rfl ?_
      obtain ⟨q21, cq21, h⟩ := bdS h
      refine J_sub [1, 2, 0] rfl (wX12_plays_L25 C fu x1 h1 x1 h1 σ hσ q21 cq21 (fun hr22 hσ23 => ?_))
      refine J_aload_n C 0 dX12_plays_69 rfl 0 rfl ?_
      refine J_getR C fl_RX12_129 oR_0 rfl dX12_plays_70 ?_
      refine J_iload_n C 2 dX12_plays_73 rfl 2 rfl ?_
      refine J_iload_n C 1 dX12_plays_74 rfl 1 rfl ?_
      refine J_iast C aR_40 hσ23 h1 dX12_plays_75 h (fun σ24 hσ25 h => ?_)
      refine J_iinc C 1 1 dX12_plays_76 rfl (by decide) h (fun v26 hv27 h => ?_)
      refine J_goto C (tgt := 15) dX12_plays_79 (by decide) ?_
      exact J_sub [1, 0] rfl (ih v26 hv27 σ24 hσ25 q h k)
    · have e9 := sE h
      subst e9
      exact J_sub [0] rfl (k hσ)
set_option maxRecDepth 100000 in
set_option maxHeartbeats 4000000 in
theorem wX12_plays_L84 {x : Ct} {g : Gm} (C : Cx x yR g 3 cX12_plays RX12 4 106) : ∀ (n : Nat) (x1 : Int) (h1 : rg x1) (σ : Sg) (hσ : wfS yR σ) (q : Sg) (h : fX12_plays_L84 n x1 σ = some q) (k : wfS yR q → J x yR g 3 129 [] [] q), J x yR g 3 84 [(0, .ref (gad g 0)), (1, vi x1)] [] σ := by
  intro n
  induction n with
  | zero =>
    intro x1 h1 σ hσ q h k
    exact absurd h (by intro z; cases z)
  | succ n ih =>
    intro x1 h1 σ hσ q h k
    rw [fX12_plays_L84] at h
    refine J_iload_n C 1 dX12_plays_84 rfl 1 rfl ?_
    refine J_aload_n C 0 dX12_plays_85 rfl 0 rfl ?_
    refine J_getI C fl_RX12_159 oR_0 rfl dX12_plays_86 ?_
    refine J_icmp_ge C h1 (hσ 0 32 lR_0) (tgt := 129) dX12_plays_89 (by decide) h (fun h c43 => ?_) (fun h c43 => ?_)
    · refine J_aload_n C 0 dX12_plays_92 rfl 0 rfl ?_
      refine J_getR C fl_RX12_129 oR_0 rfl dX12_plays_93 ?_
      refine J_iload_n C 1 dX12_plays_96 rfl 1 rfl ?_
      refine J_iald C aR_40 hσ dX12_plays_97 h (fun v31 hv32 h => ?_)
      refine J_istore_n (lo2 := [(2, vi v31), (0, .ref (gad g 0)), (1, vi x1)]) C 2 dX12_plays_98 rfl (by decide) rfl ?_
      refine J_aload_n C 0 dX12_plays_99 rfl 1 rfl ?_
      refine J_getR C fl_RX12_135 oR_0 rfl dX12_plays_100 ?_
      refine J_iload_n C 2 dX12_plays_103 rfl 0 rfl ?_
      refine J_aload_n C 0 dX12_plays_104 rfl 1 rfl ?_
      refine J_getR C fl_RX12_49 oR_0 rfl dX12_plays_105 ?_
      refine J_iload_n C 2 dX12_plays_108 rfl 0 rfl ?_
      refine J_iald C aR_14 hσ dX12_plays_109 h (fun v33 hv34 h => ?_)
      refine J_iast C aR_42 hσ hv34 dX12_plays_110 h (fun σ35 hσ36 h => ?_)
      refine J_aload_n C 0 dX12_plays_111 rfl 1 rfl ?_
      refine J_getR C fl_RX12_132 oR_0 rfl dX12_plays_112 ?_
      refine J_iload_n C 2 dX12_plays_115 rfl 0 rfl ?_
      refine J_aload_n C 0 dX12_plays_116 rfl 1 rfl ?_
      refine J_iload_n C 2 dX12_plays_117 rfl 0 rfl ?_
      refine J_iload_n C 1 dX12_plays_118 rfl 2 rfl ?_
      obtain ⟨q37, cq37, h⟩ := bdS h
      refine J_callV C mw_X12_fateOf ml_RX12_284 (m_X12_fateOf x.2.1 g (CxI C) v31 hv32 x1 h1 σ35 hσ36 q37 cq37) oR_0 rfl (Nat.le_of_ble_eq_true rfl) (Nat.le_of_ble_eq_true rfl) rfl rfl (Nat.le_of_ble_eq_true rfl) dX12_plays_119 (fun hz38 => ?_)
      refine J_iast C aR_41 hz38.2 hz38.1 dX12_plays_122 h (fun σ39 hσ40 h => ?_)
      refine J_iinc C 1 2 dX12_plays_123 rfl (by decide) h (fun v41 hv42 h => ?_)
      refine J_goto C (tgt := 84) dX12_plays_126 (by decide) ?_
      exact J_sub [2, 0] rfl (ih v41 hv42 σ39 hσ40 q h k)
    · have e9 := sE h
      subst e9
      exact J_sub [] rfl (k hσ)
set_option maxRecDepth 100000 in
set_option maxHeartbeats 4000000 in
theorem m_X12_plays (l : Launch) (g : Gm) (hg : gInj yR g)  (σ : Sg) (hσ : wfS yR σ) (q : Sg) (h : fX12_plays  σ = some q) : CJ l yR g yX12_plays cX12_plays 3 none 4 106 [.ref (gad g 0)] σ none q (wfS yR q) := by
  refine CJ_of hg (by decide) rfl (Nat.le_of_ble_eq_true rfl) (lo := [(0, .ref (gad g 0))]) rfl (fun x C E => ?_)
  unfold fX12_plays at h
  refine J_aload_n C 0 dX12_plays_0 rfl 0 rfl ?_
  refine J_getI C fl_RX12_155 oR_0 rfl dX12_plays_1 ?_
  refine J_if_eq C (hσ 0 54 lR_0) (tgt := 8) dX12_plays_4 (by decide) h (fun h c46 => ?_) (fun h c46 => ?_)
  · refine J_aload_n C 0 dX12_plays_8 rfl 0 rfl ?_
    refine J_iconst C dX12_plays_9 ?_
    refine J_putZ C fl_RX12_155 fp_RX12_54 oR_0 rfl rfl lR_0 hσ (Or.inr rfl) dX12_plays_10 h (fun σ1 hσ2 h => ?_)
    refine J_iconst C dX12_plays_13 ?_
    refine J_istore_n (lo2 := [(1, vi 0), (0, .ref (gad g 0))]) C 1 dX12_plays_14 rfl (by decide) rfl ?_
    obtain ⟨q29, cq29, h⟩ := bdS h
    refine J_sub [1, 0] rfl (wX12_plays_L15 C fu 0 rl_0 σ1 hσ2 q29 cq29 (fun hσ30 => ?_))
    refine J_iconst C dX12_plays_82 ?_
    refine J_istore_n (lo2 := [(1, vi 0), (0, .ref (gad g 0))]) C 1 dX12_plays_83 rfl (by decide) rfl ?_
    obtain ⟨q44, cq44, h⟩ := bdS h
    refine J_sub [1, 0] rfl (wX12_plays_L84 C fu 0 rl_0 q29 hσ30 q44 cq44 (fun hσ45 => ?_))
    have e9 := sE h
    subst e9
    exact J_vret C E hσ45 dX12_plays_129
  · have e9 := sE h
    subst e9
    exact J_vret C E hσ dX12_plays_7
set_option maxRecDepth 100000 in
set_option maxHeartbeats 4000000 in
theorem m_X12_fate (l : Launch) (g : Gm) (hg : gInj yR g) (x1 : Int) (h1 : rg x1) (σ : Sg) (hσ : wfS yR σ) (q : Int × Sg) (h : fX12_fate x1 σ = some q) : CJ l yR g yX12_fate cX12_fate 2 (some .int) 5 128 [.ref (gad g 0), vi x1] σ (some (vi q.1)) q.2 ((rg q.1) ∧ wfS yR q.2) := by
  refine CJ_of hg (by decide) rfl (Nat.le_of_ble_eq_true rfl) (lo := [(0, .ref (gad g 0)), (1, vi x1)]) rfl (fun x C E => ?_)
  unfold fX12_fate at h
  refine J_aload_n C 0 dX12_fate_0 rfl 0 rfl ?_
  refine J_iload_n C 1 dX12_fate_1 rfl 1 rfl ?_
  obtain ⟨q1, cq1, h⟩ := bdS h
  refine J_callV C mw_X12_isCue ml_RX12_244 (m_X12_isCue x.2.1 g (CxI C) x1 h1 σ hσ q1 cq1) oR_0 rfl (Nat.le_of_ble_eq_true rfl) (Nat.le_of_ble_eq_true rfl) rfl rfl (Nat.le_of_ble_eq_true rfl) dX12_fate_2 (fun hz2 => ?_)
  refine J_if_ne C (rg01 hz2) (tgt := 10) dX12_fate_5 (by decide) h (fun h c7 => ?_) (fun h c7 => ?_)
  · refine J_iconst C dX12_fate_8 ?_
    have e9 := sE h
    subst e9
    exact J_iret C E ⟨rl_m1, hσ⟩ dX12_fate_9
  · refine J_aload_n C 0 dX12_fate_10 rfl 0 rfl ?_
    obtain ⟨q3, cq3, h⟩ := bdS h
    refine J_callV C mw_X12_plays ml_RX12_293 (m_X12_plays x.2.1 g (CxI C) σ hσ q3 cq3) oR_0 rfl (Nat.le_of_ble_eq_true rfl) (Nat.le_of_ble_eq_true rfl) rfl rfl (Nat.le_of_ble_eq_true rfl) dX12_fate_11 (fun hz4 => ?_)
    refine J_aload_n C 0 dX12_fate_14 rfl 0 rfl ?_
    refine J_getR C fl_RX12_132 oR_0 rfl dX12_fate_15 ?_
    refine J_iload_n C 1 dX12_fate_18 rfl 1 rfl ?_
    refine J_iald C aR_41 hz4 dX12_fate_19 h (fun v5 hv6 h => ?_)
    have e9 := sE h
    subst e9
    exact J_iret C E ⟨hv6, hz4⟩ dX12_fate_20
set_option maxRecDepth 100000 in
set_option maxHeartbeats 4000000 in
theorem m_X12_goes (l : Launch) (g : Gm) (hg : gInj yR g) (x1 : Int) (h1 : rg x1) (x2 : Int) (h2 : rg x2) (σ : Sg) (hσ : wfS yR σ) (q : Int × Sg) (h : fX12_goes x1 x2 σ = some q) : CJ l yR g yX12_goes cX12_goes 3 (some .int) 5 128 [.ref (gad g 0), vi x1, vi x2] σ (some (vi q.1)) q.2 ((rg q.1) ∧ wfS yR q.2) := by
  refine CJ_of hg (by decide) rfl (Nat.le_of_ble_eq_true rfl) (lo := [(0, .ref (gad g 0)), (1, vi x1), (2, vi x2)]) rfl (fun x C E => ?_)
  unfold fX12_goes at h
  have pc11 : ∀ (y0 : Int) (g0 : rg y0) (σ : Sg) (hσ : wfS yR σ), fX12_goes_P55 x1 x2 y0 σ = some q → J x yR g 3 55 [(0, .ref (gad g 0)), (1, vi x1), (2, vi x2)] [vi y0, .ref (gad g 0)] σ := by
    intro y0 g0 σ hσ h
    unfold fX12_goes_P55 at h
    refine J_putI C fl_RX12_148 fp_RX12_38 oR_0 rfl rfl lR_0 hσ g0 dX12_goes_55 h (fun σ12 hσ13 h => ?_)
    refine J_aload_n C 0 dX12_goes_58 rfl 0 rfl ?_
    refine J_getI C fl_RX12_148 oR_0 rfl dX12_goes_59 ?_
    refine J_if_eq C (hσ13 0 38 lR_0) (tgt := 67) dX12_goes_62 (by decide) h (fun h c32 => ?_) (fun h c32 => ?_)
    · refine J_iload_n C 2 dX12_goes_67 rfl 2 rfl ?_
      refine J_if_ne C h2 (tgt := 80) dX12_goes_68 (by decide) h (fun h c31 => ?_) (fun h c31 => ?_)
      · refine J_aload_n C 0 dX12_goes_71 rfl 0 rfl ?_
        refine J_getR C fl_RX12_135 oR_0 rfl dX12_goes_72 ?_
        refine J_iload_n C 1 dX12_goes_75 rfl 1 rfl ?_
        refine J_iald C aR_42 hσ13 dX12_goes_76 h (fun v29 hv30 h => ?_)
        refine J_goto C (tgt := 119) dX12_goes_77 (by decide) ?_
        have e9 := sE h
        subst e9
        exact J_iret C E ⟨hv30, hσ13⟩ dX12_goes_119
      · refine J_iload_n C 2 dX12_goes_80 rfl 2 rfl ?_
        refine J_iconst C dX12_goes_81 ?_
        refine J_icmp_ne C h2 rl_1 (tgt := 106) dX12_goes_82 (by decide) h (fun h c28 => ?_) (fun h c28 => ?_)
        · refine J_aload_n C 0 dX12_goes_85 rfl 0 rfl ?_
          refine J_getR C fl_RX12_46 oR_0 rfl dX12_goes_86 ?_
          refine J_iload_n C 1 dX12_goes_89 rfl 1 rfl ?_
          refine J_iald C aR_13 hσ13 dX12_goes_90 h (fun v20 hv21 h => ?_)
          refine J_aload_n C 0 dX12_goes_91 rfl 0 rfl ?_
          refine J_getR C fl_RX12_13 oR_0 rfl dX12_goes_92 ?_
          refine J_aload_n C 0 dX12_goes_95 rfl 0 rfl ?_
          refine J_getR C fl_RX12_135 oR_0 rfl dX12_goes_96 ?_
          refine J_iload_n C 1 dX12_goes_99 rfl 1 rfl ?_
          refine J_iald C aR_42 hσ13 dX12_goes_100 h (fun v22 hv23 h => ?_)
          refine J_iald C aR_2 hσ13 dX12_goes_101 h (fun v24 hv25 h => ?_)
          refine J_isub C dX12_goes_102 h (fun v26 hv27 h => ?_)
          refine J_goto C (tgt := 119) dX12_goes_103 (by decide) ?_
          have e9 := sE h
          subst e9
          exact J_iret C E ⟨hv27, hσ13⟩ dX12_goes_119
        · refine J_aload_n C 0 dX12_goes_106 rfl 0 rfl ?_
          refine J_getR C fl_RX12_46 oR_0 rfl dX12_goes_107 ?_
          refine J_iload_n C 1 dX12_goes_110 rfl 1 rfl ?_
          refine J_iald C aR_13 hσ13 dX12_goes_111 h (fun v14 hv15 h => ?_)
          refine J_aload_n C 0 dX12_goes_112 rfl 0 rfl ?_
          refine J_getR C fl_RX12_58 oR_0 rfl dX12_goes_113 ?_
          refine J_iload_n C 1 dX12_goes_116 rfl 1 rfl ?_
          refine J_iald C aR_17 hσ13 dX12_goes_117 h (fun v16 hv17 h => ?_)
          refine J_iadd C dX12_goes_118 h (fun v18 hv19 h => ?_)
          have e9 := sE h
          subst e9
          exact J_iret C E ⟨hv19, hσ13⟩ dX12_goes_119
    · refine J_iconst C dX12_goes_65 ?_
      have e9 := sE h
      subst e9
      exact J_iret C E ⟨rl_0, hσ13⟩ dX12_goes_66
  have pc4 : ∀ (y0 : Int) (g0 : rg y0) (σ : Sg) (hσ : wfS yR σ), fX12_goes_P23 x1 x2 y0 σ = some q → J x yR g 3 23 [(0, .ref (gad g 0)), (1, vi x1), (2, vi x2)] [vi y0, .ref (gad g 0)] σ := by
    intro y0 g0 σ hσ h
    unfold fX12_goes_P23 at h
    refine J_putI C fl_RX12_148 fp_RX12_38 oR_0 rfl rfl lR_0 hσ g0 dX12_goes_23 h (fun σ5 hσ6 h => ?_)
    refine J_aload_n C 0 dX12_goes_26 rfl 0 rfl ?_
    refine J_getI C fl_RX12_148 oR_0 rfl dX12_goes_27 ?_
    refine J_if_eq C (hσ6 0 38 lR_0) (tgt := 35) dX12_goes_30 (by decide) h (fun h c55 => ?_) (fun h c55 => ?_)
    · refine J_aload_n C 0 dX12_goes_35 rfl 0 rfl ?_
      obtain ⟨q7, cq7, h⟩ := bdS h
      refine J_callV C mw_X12_plays ml_RX12_293 (m_X12_plays x.2.1 g (CxI C) σ5 hσ6 q7 cq7) oR_0 rfl (Nat.le_of_ble_eq_true rfl) (Nat.le_of_ble_eq_true rfl) rfl rfl (Nat.le_of_ble_eq_true rfl) dX12_goes_36 (fun hz8 => ?_)
      refine J_aload_n C 0 dX12_goes_39 rfl 0 rfl ?_
      refine J_aload_n C 0 dX12_goes_40 rfl 0 rfl ?_
      refine J_getR C fl_RX12_132 oR_0 rfl dX12_goes_41 ?_
      refine J_iload_n C 1 dX12_goes_44 rfl 1 rfl ?_
      refine J_iald C aR_41 hz8 dX12_goes_45 h (fun v9 hv10 h => ?_)
      refine J_iconst C dX12_goes_46 ?_
      refine J_icmp_le C hv10 rl_1 (tgt := 54) dX12_goes_47 (by decide) h (fun h c54 => ?_) (fun h c54 => ?_)
      · refine J_iconst C dX12_goes_54 ?_
        exact J_sub [0, 1, 2] rfl (pc11 0 rl_0 q7 hz8 h)
      · refine J_iconst C dX12_goes_50 ?_
        refine J_goto C (tgt := 55) dX12_goes_51 (by decide) ?_
        exact J_sub [0, 1, 2] rfl (pc11 2 rl_2 q7 hz8 h)
    · refine J_iconst C dX12_goes_33 ?_
      have e9 := sE h
      subst e9
      exact J_iret C E ⟨rl_0, hσ6⟩ dX12_goes_34
  have pc3 : ∀  (σ : Sg) (hσ : wfS yR σ), fX12_goes_P18 x1 x2 σ = some q → J x yR g 3 18 [(0, .ref (gad g 0)), (1, vi x1), (2, vi x2)] [.ref (gad g 0)] σ := by
    intro  σ hσ h
    unfold fX12_goes_P18 at h
    refine J_iconst C dX12_goes_18 ?_
    refine J_goto C (tgt := 23) dX12_goes_19 (by decide) ?_
    exact J_sub [0, 1, 2] rfl (pc4 1 rl_1 σ hσ h)
  refine J_aload_n C 0 dX12_goes_0 rfl 0 rfl ?_
  refine J_aload_n C 0 dX12_goes_1 rfl 0 rfl ?_
  refine J_iload_n C 1 dX12_goes_2 rfl 1 rfl ?_
  obtain ⟨q1, cq1, h⟩ := bdS h
  refine J_callV C mw_X12_isCue ml_RX12_244 (m_X12_isCue x.2.1 g (CxI C) x1 h1 σ hσ q1 cq1) oR_0 rfl (Nat.le_of_ble_eq_true rfl) (Nat.le_of_ble_eq_true rfl) rfl rfl (Nat.le_of_ble_eq_true rfl) dX12_goes_3 (fun hz2 => ?_)
  refine J_if_eq C (rg01 hz2) (tgt := 18) dX12_goes_6 (by decide) h (fun h c67 => ?_) (fun h c67 => ?_)
  · exact J_sub [0, 1, 2] rfl (pc3 σ hσ h)
  · refine J_iload_n C 2 dX12_goes_9 rfl 2 rfl ?_
    refine J_iconst C dX12_goes_10 ?_
    refine J_iconst C dX12_goes_11 ?_
    obtain ⟨q64, cq64, h⟩ := bdS h
    refine J_callS C mw_X12_isIn ml_RX12_177 (m_X12_isIn x.2.1 g (CxI C) x2 h2 0 rl_0 2 rl_2 σ hσ q64 cq64) (Nat.le_of_ble_eq_true rfl) (Nat.le_of_ble_eq_true rfl) rfl rfl (Nat.le_of_ble_eq_true rfl) dX12_goes_12 (fun hz65 => ?_)
    refine J_if_ne C (rg01 hz65) (tgt := 22) dX12_goes_15 (by decide) h (fun h c66 => ?_) (fun h c66 => ?_)
    · exact J_sub [0, 1, 2] rfl (pc3 σ hσ h)
    · refine J_iconst C dX12_goes_22 ?_
      exact J_sub [0, 1, 2] rfl (pc4 0 rl_0 σ hσ h)
set_option maxRecDepth 100000 in
set_option maxHeartbeats 4000000 in
theorem wX12_many_L20 {x : Ct} {g : Gm} (C : Cx x yR g 4 cX12_many RX12 5 128) : ∀ (n : Nat) (x1 : Int) (h1 : rg x1) (x2 : Int) (h2 : rg x2) (x3 : Int) (h3 : rg x3) (σ : Sg) (hσ : wfS yR σ) (q : Int) (h : fX12_many_L20 n x1 x2 x3 σ = some q) (k : rg q → J x yR g 4 52 [(2, vi q)] [] σ), J x yR g 4 20 [(0, .ref (gad g 0)), (1, vi x1), (2, vi x2), (3, vi x3)] [] σ := by
  intro n
  induction n with
  | zero =>
    intro x1 h1 x2 h2 x3 h3 σ hσ q h k
    exact absurd h (by intro z; cases z)
  | succ n ih =>
    intro x1 h1 x2 h2 x3 h3 σ hσ q h k
    rw [fX12_many_L20] at h
    have pc7 : ∀ (x3 : Int) (h3 : rg x3) (y0 : Int) (g0 : rg y0) (y1 : Int) (g1 : rg y1), fX12_many_L20P44 (fX12_many_L20 n) x1 x3 y0 y1 σ = some q → J x yR g 4 44 [(0, .ref (gad g 0)), (1, vi x1), (3, vi x3)] [vi y0, vi y1] σ := by
      intro x3 h3 y0 g0 y1 g1 h
      unfold fX12_many_L20P44 at h
      refine J_iadd C dX12_many_44 h (fun v8 hv9 h => ?_)
      refine J_istore_n (lo2 := [(2, vi v8), (0, .ref (gad g 0)), (1, vi x1), (3, vi x3)]) C 2 dX12_many_45 rfl (by decide) rfl ?_
      refine J_iinc C 3 3 dX12_many_46 rfl (by decide) h (fun v10 hv11 h => ?_)
      refine J_goto C (tgt := 20) dX12_many_49 (by decide) ?_
      exact J_sub [2, 3, 1, 0] rfl (ih x1 h1 v8 hv9 v10 hv11 σ hσ q h k)
    refine J_iload_n C 3 dX12_many_20 rfl 3 rfl ?_
    refine J_aload_n C 0 dX12_many_21 rfl 0 rfl ?_
    refine J_getI C fl_RX12_159 oR_0 rfl dX12_many_22 ?_
    refine J_icmp_ge C h3 (hσ 0 32 lR_0) (tgt := 52) dX12_many_25 (by decide) h (fun h c17 => ?_) (fun h c17 => ?_)
    · refine J_iload_n C 2 dX12_many_28 rfl 2 rfl ?_
      refine J_aload_n C 0 dX12_many_29 rfl 0 rfl ?_
      refine J_getR C fl_RX12_132 oR_0 rfl dX12_many_30 ?_
      refine J_iload_n C 3 dX12_many_33 rfl 3 rfl ?_
      refine J_iald C aR_41 hσ dX12_many_34 h (fun v5 hv6 h => ?_)
      refine J_iload_n C 1 dX12_many_35 rfl 1 rfl ?_
      refine J_icmp_ne C hv6 h1 (tgt := 43) dX12_many_36 (by decide) h (fun h c16 => ?_) (fun h c16 => ?_)
      · refine J_iconst C dX12_many_39 ?_
        refine J_goto C (tgt := 44) dX12_many_40 (by decide) ?_
        exact J_sub [0, 1, 3] rfl (pc7 x3 h3 1 rl_1 x2 h2 h)
      · refine J_iconst C dX12_many_43 ?_
        exact J_sub [0, 1, 3] rfl (pc7 x3 h3 0 rl_0 x2 h2 h)
    · have e9 := sE h
      subst e9
      exact J_sub [2] rfl (k h2)
set_option maxRecDepth 100000 in
set_option maxHeartbeats 4000000 in
theorem m_X12_many (l : Launch) (g : Gm) (hg : gInj yR g) (x1 : Int) (h1 : rg x1) (σ : Sg) (hσ : wfS yR σ) (q : Int × Sg) (h : fX12_many x1 σ = some q) : CJ l yR g yX12_many cX12_many 4 (some .int) 5 128 [.ref (gad g 0), vi x1] σ (some (vi q.1)) q.2 ((rg q.1) ∧ wfS yR q.2) := by
  refine CJ_of hg (by decide) rfl (Nat.le_of_ble_eq_true rfl) (lo := [(0, .ref (gad g 0)), (1, vi x1)]) rfl (fun x C E => ?_)
  unfold fX12_many at h
  refine J_iload_n C 1 dX12_many_0 rfl 1 rfl ?_
  refine J_iconst C dX12_many_1 ?_
  refine J_bipush C dX12_many_2 (bp8 (by decide) (by decide)) ?_
  obtain ⟨q1, cq1, h⟩ := bdS h
  refine J_callS C mw_X12_isIn ml_RX12_177 (m_X12_isIn x.2.1 g (CxI C) x1 h1 0 rl_0 6 rl_6 σ hσ q1 cq1) (Nat.le_of_ble_eq_true rfl) (Nat.le_of_ble_eq_true rfl) rfl rfl (Nat.le_of_ble_eq_true rfl) dX12_many_4 (fun hz2 => ?_)
  refine J_if_ne C (rg01 hz2) (tgt := 12) dX12_many_7 (by decide) h (fun h c20 => ?_) (fun h c20 => ?_)
  · refine J_iconst C dX12_many_10 ?_
    have e9 := sE h
    subst e9
    exact J_iret C E ⟨rl_m1, hσ⟩ dX12_many_11
  · refine J_aload_n C 0 dX12_many_12 rfl 0 rfl ?_
    obtain ⟨q3, cq3, h⟩ := bdS h
    refine J_callV C mw_X12_plays ml_RX12_293 (m_X12_plays x.2.1 g (CxI C) σ hσ q3 cq3) oR_0 rfl (Nat.le_of_ble_eq_true rfl) (Nat.le_of_ble_eq_true rfl) rfl rfl (Nat.le_of_ble_eq_true rfl) dX12_many_13 (fun hz4 => ?_)
    refine J_iconst C dX12_many_16 ?_
    refine J_istore_n (lo2 := [(2, vi 0), (0, .ref (gad g 0)), (1, vi x1)]) C 2 dX12_many_17 rfl (by decide) rfl ?_
    refine J_iconst C dX12_many_18 ?_
    refine J_istore_n (lo2 := [(3, vi 0), (2, vi 0), (0, .ref (gad g 0)), (1, vi x1)]) C 3 dX12_many_19 rfl (by decide) rfl ?_
    obtain ⟨q18, cq18, h⟩ := bdS h
    refine J_sub [2, 3, 1, 0] rfl (wX12_many_L20 C fu x1 h1 0 rl_0 0 rl_0 q3 hz4 q18 cq18 (fun hr19 => ?_))
    refine J_iload_n C 2 dX12_many_52 rfl 0 rfl ?_
    have e9 := sE h
    subst e9
    exact J_iret C E ⟨hr19, hz4⟩ dX12_many_53
set_option maxRecDepth 100000 in
set_option maxHeartbeats 4000000 in
theorem m_X12_order (l : Launch) (g : Gm) (hg : gInj yR g) (x1 : Int) (h1 : rg x1) (σ : Sg) (hσ : wfS yR σ) (q : Int × Sg) (h : fX12_order x1 σ = some q) : CJ l yR g yX12_order cX12_order 2 (some .int) 5 128 [.ref (gad g 0), vi x1] σ (some (vi q.1)) q.2 ((rg q.1) ∧ wfS yR q.2) := by
  refine CJ_of hg (by decide) rfl (Nat.le_of_ble_eq_true rfl) (lo := [(0, .ref (gad g 0)), (1, vi x1)]) rfl (fun x C E => ?_)
  unfold fX12_order at h
  refine J_aload_n C 0 dX12_order_0 rfl 0 rfl ?_
  refine J_iload_n C 1 dX12_order_1 rfl 1 rfl ?_
  obtain ⟨q1, cq1, h⟩ := bdS h
  refine J_callV C mw_X12_isCue ml_RX12_244 (m_X12_isCue x.2.1 g (CxI C) x1 h1 σ hσ q1 cq1) oR_0 rfl (Nat.le_of_ble_eq_true rfl) (Nat.le_of_ble_eq_true rfl) rfl rfl (Nat.le_of_ble_eq_true rfl) dX12_order_2 (fun hz2 => ?_)
  refine J_if_ne C (rg01 hz2) (tgt := 10) dX12_order_5 (by decide) h (fun h c7 => ?_) (fun h c7 => ?_)
  · refine J_iconst C dX12_order_8 ?_
    have e9 := sE h
    subst e9
    exact J_iret C E ⟨rl_m1, hσ⟩ dX12_order_9
  · refine J_aload_n C 0 dX12_order_10 rfl 0 rfl ?_
    obtain ⟨q3, cq3, h⟩ := bdS h
    refine J_callV C mw_X12_plays ml_RX12_293 (m_X12_plays x.2.1 g (CxI C) σ hσ q3 cq3) oR_0 rfl (Nat.le_of_ble_eq_true rfl) (Nat.le_of_ble_eq_true rfl) rfl rfl (Nat.le_of_ble_eq_true rfl) dX12_order_11 (fun hz4 => ?_)
    refine J_aload_n C 0 dX12_order_14 rfl 0 rfl ?_
    refine J_getR C fl_RX12_129 oR_0 rfl dX12_order_15 ?_
    refine J_iload_n C 1 dX12_order_18 rfl 1 rfl ?_
    refine J_iald C aR_40 hz4 dX12_order_19 h (fun v5 hv6 h => ?_)
    have e9 := sE h
    subst e9
    exact J_iret C E ⟨hv6, hz4⟩ dX12_order_20
set_option maxRecDepth 100000 in
set_option maxHeartbeats 4000000 in
theorem m_X12_seen (l : Launch) (g : Gm) (hg : gInj yR g) (x1 : Int) (h1 : rg x1) (x2 : Int) (h2 : rg x2) (σ : Sg) (hσ : wfS yR σ) (q : Int × Sg) (h : fX12_seen x1 x2 σ = some q) : CJ l yR g yX12_seen cX12_seen 3 (some .int) 1 22 [.ref (gad g 0), vi x1, vi x2] σ (some (vi q.1)) q.2 ((rg q.1) ∧ wfS yR q.2) := by
  refine CJ_of hg (by decide) rfl (Nat.le_of_ble_eq_true rfl) (lo := [(0, .ref (gad g 0)), (1, vi x1), (2, vi x2)]) rfl (fun x C E => ?_)
  unfold fX12_seen at h
  refine J_iload_n C 1 dX12_seen_0 rfl 1 rfl ?_
  refine J_iconst C dX12_seen_1 ?_
  refine J_sipush C dX12_seen_2 (bp16 (by decide) (by decide)) ?_
  obtain ⟨q1, cq1, h⟩ := bdS h
  refine J_callS C mw_X12_isIn ml_RX12_177 (m_X12_isIn x.2.1 g (CxI C) x1 h1 0 rl_0 20010 rl_20010 σ hσ q1 cq1) (Nat.le_of_ble_eq_true rfl) (Nat.le_of_ble_eq_true rfl) rfl rfl (Nat.le_of_ble_eq_true rfl) dX12_seen_5 (fun hz2 => ?_)
  refine J_if_eq C (rg01 hz2) (tgt := 21) dX12_seen_8 (by decide) h (fun h c15 => ?_) (fun h c15 => ?_)
  · refine J_iconst C dX12_seen_21 ?_
    have e9 := sE h
    subst e9
    exact J_iret C E ⟨rl_m1, hσ⟩ dX12_seen_22
  · refine J_iload_n C 2 dX12_seen_11 rfl 2 rfl ?_
    refine J_iconst C dX12_seen_12 ?_
    refine J_bipush C dX12_seen_13 (bp8 (by decide) (by decide)) ?_
    obtain ⟨q3, cq3, h⟩ := bdS h
    refine J_callS C mw_X12_isIn ml_RX12_177 (m_X12_isIn x.2.1 g (CxI C) x2 h2 1 rl_1 9 rl_9 σ hσ q3 cq3) (Nat.le_of_ble_eq_true rfl) (Nat.le_of_ble_eq_true rfl) rfl rfl (Nat.le_of_ble_eq_true rfl) dX12_seen_15 (fun hz4 => ?_)
    refine J_if_ne C (rg01 hz4) (tgt := 23) dX12_seen_18 (by decide) h (fun h c14 => ?_) (fun h c14 => ?_)
    · refine J_iconst C dX12_seen_21 ?_
      have e9 := sE h
      subst e9
      exact J_iret C E ⟨rl_m1, hσ⟩ dX12_seen_22
    · refine J_aload_n C 0 dX12_seen_23 rfl 0 rfl ?_
      refine J_getI C fl_RX12_171 oR_0 rfl dX12_seen_24 ?_
      refine J_bipush C dX12_seen_27 (bp8 (by decide) (by decide)) ?_
      refine J_icmp_ne C (hσ 0 36 lR_0) rl_60 (tgt := 35) dX12_seen_29 (by decide) h (fun h c13 => ?_) (fun h c13 => ?_)
      · refine J_bipush C dX12_seen_32 (bp8 (by decide) (by decide)) ?_
        have e9 := sE h
        subst e9
        exact J_iret C E ⟨rl_m2, hσ⟩ dX12_seen_34
      · refine J_aload_n C 0 dX12_seen_35 rfl 0 rfl ?_
        refine J_getR C fl_RX12_85 oR_0 rfl dX12_seen_36 ?_
        refine J_aload_n C 0 dX12_seen_39 rfl 0 rfl ?_
        refine J_getI C fl_RX12_171 oR_0 rfl dX12_seen_40 ?_
        refine J_iload_n C 1 dX12_seen_43 rfl 1 rfl ?_
        refine J_iast C aR_26 hσ h1 dX12_seen_44 h (fun σ5 hσ6 h => ?_)
        refine J_aload_n C 0 dX12_seen_45 rfl 0 rfl ?_
        refine J_getR C fl_RX12_88 oR_0 rfl dX12_seen_46 ?_
        refine J_aload_n C 0 dX12_seen_49 rfl 0 rfl ?_
        refine J_getI C fl_RX12_171 oR_0 rfl dX12_seen_50 ?_
        refine J_iload_n C 2 dX12_seen_53 rfl 2 rfl ?_
        refine J_iast C aR_27 hσ6 h2 dX12_seen_54 h (fun σ7 hσ8 h => ?_)
        refine J_aload_n C 0 dX12_seen_55 rfl 0 rfl ?_
        refine J_dup C rfl dX12_seen_56 ?_
        refine J_getI C fl_RX12_171 oR_0 rfl dX12_seen_57 ?_
        refine J_iconst C dX12_seen_60 ?_
        refine J_iadd C dX12_seen_61 h (fun v9 hv10 h => ?_)
        refine J_putI C fl_RX12_171 fp_RX12_36 oR_0 rfl rfl lR_0 hσ8 hv10 dX12_seen_62 h (fun σ11 hσ12 h => ?_)
        refine J_aload_n C 0 dX12_seen_65 rfl 0 rfl ?_
        refine J_getI C fl_RX12_171 oR_0 rfl dX12_seen_66 ?_
        have e9 := sE h
        subst e9
        exact J_iret C E ⟨(hσ12 0 36 lR_0), hσ12⟩ dX12_seen_69
set_option maxRecDepth 100000 in
set_option maxHeartbeats 4000000 in
theorem m_X12_unseen (l : Launch) (g : Gm) (hg : gInj yR g)  (σ : Sg) (hσ : wfS yR σ) (q : Int × Sg) (h : fX12_unseen  σ = some q) : CJ l yR g yX12_unseen cX12_unseen 2 (some .int) 0 0 [.ref (gad g 0)] σ (some (vi q.1)) q.2 ((rg q.1) ∧ wfS yR q.2) := by
  refine CJ_of hg (by decide) rfl (Nat.le_of_ble_eq_true rfl) (lo := [(0, .ref (gad g 0))]) rfl (fun x C E => ?_)
  unfold fX12_unseen at h
  refine J_aload_n C 0 dX12_unseen_0 rfl 0 rfl ?_
  refine J_getI C fl_RX12_171 oR_0 rfl dX12_unseen_1 ?_
  refine J_istore_n (lo2 := [(1, vi (σ 0 36)), (0, .ref (gad g 0))]) C 1 dX12_unseen_4 rfl (by decide) rfl ?_
  refine J_aload_n C 0 dX12_unseen_5 rfl 1 rfl ?_
  refine J_iconst C dX12_unseen_6 ?_
  refine J_putI C fl_RX12_171 fp_RX12_36 oR_0 rfl rfl lR_0 hσ rl_0 dX12_unseen_7 h (fun σ1 hσ2 h => ?_)
  refine J_iload_n C 1 dX12_unseen_10 rfl 0 rfl ?_
  have e9 := sE h
  subst e9
  exact J_iret C E ⟨(hσ 0 36 lR_0), hσ2⟩ dX12_unseen_11
set_option maxRecDepth 100000 in
set_option maxHeartbeats 4000000 in
theorem m_X12_isShown (l : Launch) (g : Gm) (hg : gInj yR g) (x1 : Int) (h1 : rg x1) (σ : Sg) (hσ : wfS yR σ) (q : Int) (h : fX12_isShown x1 σ = some q) : CJ l yR g yX12_isShown cX12_isShown 2 (some .boolean) 0 0 [.ref (gad g 0), vi x1] σ (some (vi q)) σ (q = 0 ∨ q = 1) := by
  refine CJ_of hg (by decide) rfl (Nat.le_of_ble_eq_true rfl) (lo := [(0, .ref (gad g 0)), (1, vi x1)]) rfl (fun x C E => ?_)
  unfold fX12_isShown at h
  have pc3 : fX12_isShown_P20  σ = some q → J x yR g 2 20 [] [] σ := by
    intro h
    unfold fX12_isShown_P20 at h
    refine J_iconst C dX12_isShown_20 ?_
    refine J_goto C (tgt := 25) dX12_isShown_21 (by decide) ?_
    have e9 := sE h
    subst e9
    exact J_zret C (Or.inr rfl) E (Or.inr rfl) dX12_isShown_25
  refine J_aload_n C 0 dX12_isShown_0 rfl 0 rfl ?_
  refine J_getR C fl_RX12_132 oR_0 rfl dX12_isShown_1 ?_
  refine J_iload_n C 1 dX12_isShown_4 rfl 1 rfl ?_
  refine J_iald C aR_41 hσ dX12_isShown_5 h (fun v1 hv2 h => ?_)
  refine J_iconst C dX12_isShown_6 ?_
  refine J_icmp_lt C hv2 rl_2 (tgt := 20) dX12_isShown_7 (by decide) h (fun h c7 => ?_) (fun h c7 => ?_)
  · exact J_sub [] rfl (pc3  h)
  · refine J_aload_n C 0 dX12_isShown_10 rfl 0 rfl ?_
    refine J_getR C fl_RX12_132 oR_0 rfl dX12_isShown_11 ?_
    refine J_iload_n C 1 dX12_isShown_14 rfl 1 rfl ?_
    refine J_iald C aR_41 hσ dX12_isShown_15 h (fun v4 hv5 h => ?_)
    refine J_iconst C dX12_isShown_16 ?_
    refine J_icmp_ne C hv5 rl_5 (tgt := 24) dX12_isShown_17 (by decide) h (fun h c6 => ?_) (fun h c6 => ?_)
    · exact J_sub [] rfl (pc3  h)
    · refine J_iconst C dX12_isShown_24 ?_
      have e9 := sE h
      subst e9
      exact J_zret C (Or.inl rfl) E (Or.inl rfl) dX12_isShown_25
set_option maxRecDepth 100000 in
set_option maxHeartbeats 4000000 in
theorem m_X12_mayBe (l : Launch) (g : Gm) (hg : gInj yR g) (x1 : Int) (h1 : rg x1) (x2 : Int) (h2 : rg x2) (σ : Sg) (hσ : wfS yR σ) (q : Int) (h : fX12_mayBe x1 x2 σ = some q) : CJ l yR g yX12_mayBe cX12_mayBe 3 (some .boolean) 1 20 [.ref (gad g 0), vi x1, vi x2] σ (some (vi q)) σ (q = 0 ∨ q = 1) := by
  refine CJ_of hg (by decide) rfl (Nat.le_of_ble_eq_true rfl) (lo := [(0, .ref (gad g 0)), (1, vi x1), (2, vi x2)]) rfl (fun x C E => ?_)
  unfold fX12_mayBe at h
  refine J_aload_n C 0 dX12_mayBe_0 rfl 0 rfl ?_
  refine J_getR C fl_RX12_88 oR_0 rfl dX12_mayBe_1 ?_
  refine J_iload_n C 2 dX12_mayBe_4 rfl 2 rfl ?_
  refine J_iald C aR_27 hσ dX12_mayBe_5 h (fun v1 hv2 h => ?_)
  refine J_aload_n C 0 dX12_mayBe_6 rfl 0 rfl ?_
  refine J_getR C fl_RX12_25 oR_0 rfl dX12_mayBe_7 ?_
  refine J_aload_n C 0 dX12_mayBe_10 rfl 0 rfl ?_
  refine J_getR C fl_RX12_135 oR_0 rfl dX12_mayBe_11 ?_
  refine J_iload_n C 1 dX12_mayBe_14 rfl 1 rfl ?_
  refine J_iald C aR_42 hσ dX12_mayBe_15 h (fun v3 hv4 h => ?_)
  refine J_iald C aR_6 hσ dX12_mayBe_16 h (fun v5 hv6 h => ?_)
  refine J_icmp_ne C hv2 hv6 (tgt := 54) dX12_mayBe_17 (by decide) h (fun h c20 => ?_) (fun h c20 => ?_)
  · refine J_aload_n C 0 dX12_mayBe_20 rfl 0 rfl ?_
    refine J_getR C fl_RX12_85 oR_0 rfl dX12_mayBe_21 ?_
    refine J_iload_n C 2 dX12_mayBe_24 rfl 2 rfl ?_
    refine J_iald C aR_26 hσ dX12_mayBe_25 h (fun v7 hv8 h => ?_)
    refine J_aload_n C 0 dX12_mayBe_26 rfl 0 rfl ?_
    refine J_getR C fl_RX12_46 oR_0 rfl dX12_mayBe_27 ?_
    refine J_iload_n C 1 dX12_mayBe_30 rfl 1 rfl ?_
    refine J_iald C aR_13 hσ dX12_mayBe_31 h (fun v9 hv10 h => ?_)
    refine J_isub C dX12_mayBe_32 h (fun v11 hv12 h => ?_)
    obtain ⟨q13, cq13, h⟩ := bdS h
    refine J_callS C mw_X12_amount ml_RX12_182 (m_X12_amount x.2.1 g (CxI C) v11 hv12 σ hσ q13 cq13) (Nat.le_of_ble_eq_true rfl) (Nat.le_of_ble_eq_true rfl) rfl rfl (Nat.le_of_ble_eq_true rfl) dX12_mayBe_33 (fun hz14 => ?_)
    refine J_aload_n C 0 dX12_mayBe_36 rfl 0 rfl ?_
    refine J_getR C fl_RX12_28 oR_0 rfl dX12_mayBe_37 ?_
    refine J_aload_n C 0 dX12_mayBe_40 rfl 0 rfl ?_
    refine J_getR C fl_RX12_135 oR_0 rfl dX12_mayBe_41 ?_
    refine J_iload_n C 1 dX12_mayBe_44 rfl 1 rfl ?_
    refine J_iald C aR_42 hσ dX12_mayBe_45 h (fun v15 hv16 h => ?_)
    refine J_iald C aR_7 hσ dX12_mayBe_46 h (fun v17 hv18 h => ?_)
    refine J_icmp_gt C hz14 hv18 (tgt := 54) dX12_mayBe_47 (by decide) h (fun h c19 => ?_) (fun h c19 => ?_)
    · refine J_iconst C dX12_mayBe_50 ?_
      refine J_goto C (tgt := 55) dX12_mayBe_51 (by decide) ?_
      have e9 := sE h
      subst e9
      exact J_zret C (Or.inr rfl) E (Or.inr rfl) dX12_mayBe_55
    · refine J_iconst C dX12_mayBe_54 ?_
      have e9 := sE h
      subst e9
      exact J_zret C (Or.inl rfl) E (Or.inl rfl) dX12_mayBe_55
  · refine J_iconst C dX12_mayBe_54 ?_
    have e9 := sE h
    subst e9
    exact J_zret C (Or.inl rfl) E (Or.inl rfl) dX12_mayBe_55
set_option maxRecDepth 100000 in
set_option maxHeartbeats 4000000 in
theorem wX12_finds_L2 {x : Ct} {g : Gm} (d : Nat) (C : Cx x yR g 3 cX12_finds RX12 (2 + (d + 1)) (42 + 22 * (d + 1))) (slf : Int → Sg → Option (Int × Sg)) (hslf : ∀ (x1 : Int) (h1 : rg x1) (σ : Sg) (hσ : wfS yR σ) (q : Int × Sg) (h : slf x1 σ = some q), CJ x.2.1 yR g yX12_finds cX12_finds 3 (some .boolean) (2 + d) (42 + 22 * d) [.ref (gad g 0), vi x1] σ (some (vi q.1)) q.2 ((q.1 = 0 ∨ q.1 = 1) ∧ wfS yR q.2)) : ∀ (n : Nat) (x1 : Int) (h1 : rg x1) (x2 : Int) (h2 : rg x2) (σ : Sg) (hσ : wfS yR σ) (q : (Int × Sg) ⊕ (Sg)) (h : fX12_finds_L2 slf n x1 x2 σ = some q) (k0 : ∀ a : Int × Sg, q = .inl a → rg a.1 → wfS yR a.2 → J x yR g 3 63 [(0, .ref (gad g 0)), (1, vi x1), (2, vi a.1)] [] a.2) (k1 : ∀ a : Sg, q = .inr a → wfS yR a → J x yR g 3 78 [] [] a), J x yR g 3 2 [(0, .ref (gad g 0)), (1, vi x1), (2, vi x2)] [] σ := by
  intro n
  induction n with
  | zero =>
    intro x1 h1 x2 h2 σ hσ q h k0 k1
    exact absurd h (by intro z; cases z)
  | succ n ih =>
    intro x1 h1 x2 h2 σ hσ q h k0 k1
    rw [fX12_finds_L2] at h
    have pc3 : ∀ (x2 : Int) (h2 : rg x2) (σ : Sg) (hσ : wfS yR σ), fX12_finds_L2P72 slf (fX12_finds_L2 slf n) x1 x2 σ = some q → J x yR g 3 72 [(0, .ref (gad g 0)), (1, vi x1), (2, vi x2)] [] σ := by
      intro x2 h2 σ hσ h
      unfold fX12_finds_L2P72 at h
      refine J_iinc C 2 2 dX12_finds_72 rfl (by decide) h (fun v4 hv5 h => ?_)
      refine J_goto C (tgt := 2) dX12_finds_75 (by decide) ?_
      exact J_sub [1, 2, 0] rfl (ih x1 h1 v4 hv5 σ hσ q h k0 k1)
    refine J_iload_n C 2 dX12_finds_2 rfl 2 rfl ?_
    refine J_aload_n C 0 dX12_finds_3 rfl 0 rfl ?_
    refine J_getI C fl_RX12_171 oR_0 rfl dX12_finds_4 ?_
    refine J_icmp_ge C h2 (hσ 0 36 lR_0) (tgt := 78) dX12_finds_7 (by decide) h (fun h c22 => ?_) (fun h c22 => ?_)
    · refine J_aload_n C 0 dX12_finds_10 rfl 0 rfl ?_
      refine J_getR C fl_RX12_141 oR_0 rfl dX12_finds_11 ?_
      refine J_iload_n C 2 dX12_finds_14 rfl 2 rfl ?_
      refine J_zald C aR_44 hσ dX12_finds_15 h (fun v1 hv2 h => ?_)
      refine J_if_ne C hv2 (tgt := 72) dX12_finds_16 (by decide) h (fun h c21 => ?_) (fun h c21 => ?_)
      · refine J_aload_n C 0 dX12_finds_19 rfl 0 rfl ?_
        refine J_iload_n C 1 dX12_finds_20 rfl 1 rfl ?_
        refine J_iload_n C 2 dX12_finds_21 rfl 2 rfl ?_
        obtain ⟨q8, cq8, h⟩ := bdS h
        refine J_callV C mw_X12_mayBe ml_RX12_296 (m_X12_mayBe x.2.1 g (CxI C) x1 h1 x2 h2 σ hσ q8 cq8) oR_0 rfl (by omega) (by omega) rfl rfl (Nat.le_of_ble_eq_true rfl) dX12_finds_22 (fun hz9 => ?_)
        refine J_if_ne C (rg01 hz9) (tgt := 31) dX12_finds_25 (by decide) h (fun h c20 => ?_) (fun h c20 => ?_)
        · refine J_goto C (tgt := 72) dX12_finds_28 (by decide) ?_
          exact J_sub [0, 1, 2] rfl (pc3 x2 h2 σ hσ h)
        · refine J_aload_n C 0 dX12_finds_31 rfl 0 rfl ?_
          refine J_getR C fl_RX12_141 oR_0 rfl dX12_finds_32 ?_
          refine J_iload_n C 2 dX12_finds_35 rfl 2 rfl ?_
          refine J_iconst C dX12_finds_36 ?_
          refine J_zast C aR_44 hσ dX12_finds_37 h (fun σ10 hσ11 h => ?_)
          refine J_aload_n C 0 dX12_finds_38 rfl 0 rfl ?_
          refine J_getR C fl_RX12_138 oR_0 rfl dX12_finds_39 ?_
          refine J_iload_n C 2 dX12_finds_42 rfl 2 rfl ?_
          refine J_iald C aR_43 hσ11 dX12_finds_43 h (fun v12 hv13 h => ?_)
          refine J_if_lt C hv13 (tgt := 63) dX12_finds_44 (by decide) h (fun h c19 => ?_) (fun h c19 => ?_)
          · have e9 := sE h
            exact J_sub [0, 1, 2] rfl (k0 (x2, σ10) e9.symm h2 hσ11)
          · refine J_aload_n C 0 dX12_finds_47 rfl 0 rfl ?_
            refine J_aload_n C 0 dX12_finds_48 rfl 0 rfl ?_
            refine J_getR C fl_RX12_138 oR_0 rfl dX12_finds_49 ?_
            refine J_iload_n C 2 dX12_finds_52 rfl 2 rfl ?_
            refine J_iald C aR_43 hσ11 dX12_finds_53 h (fun v14 hv15 h => ?_)
            obtain ⟨q16, cq16, h⟩ := bdS h
            refine J_callV C mw_X12_finds ml_RX12_299 (hslf v14 hv15 σ10 hσ11 q16 cq16) oR_0 rfl (by omega) (by omega) rfl rfl (Nat.le_of_ble_eq_true rfl) dX12_finds_54 (fun hz17 => ?_)
            refine J_if_ne C (rg01 hz17.1) (tgt := 63) dX12_finds_57 (by decide) h (fun h c18 => ?_) (fun h c18 => ?_)
            · refine J_goto C (tgt := 72) dX12_finds_60 (by decide) ?_
              exact J_sub [0, 1, 2] rfl (pc3 x2 h2 q16.2 hz17.2 h)
            · have e9 := sE h
              exact J_sub [0, 1, 2] rfl (k0 (x2, q16.2) e9.symm h2 hz17.2)
      · exact J_sub [0, 1, 2] rfl (pc3 x2 h2 σ hσ h)
    · have e9 := sE h
      exact J_sub [] rfl (k1 σ e9.symm hσ)
set_option maxRecDepth 100000 in
set_option maxHeartbeats 4000000 in
theorem m_X12_finds (l : Launch) (g : Gm) (hg : gInj yR g) : ∀ (d : Nat) (x1 : Int) (h1 : rg x1) (σ : Sg) (hσ : wfS yR σ) (q : Int × Sg) (h : fX12_finds d x1 σ = some q), CJ l yR g yX12_finds cX12_finds 3 (some .boolean) (2 + d) (42 + 22 * d) [.ref (gad g 0), vi x1] σ (some (vi q.1)) q.2 ((q.1 = 0 ∨ q.1 = 1) ∧ wfS yR q.2) := by
  intro d
  induction d with
  | zero =>
    intro x1 h1 σ hσ q h
    exact absurd h (by intro z; cases z)
  | succ d ih =>
    intro x1 h1 σ hσ q h
    rw [fX12_finds] at h
    refine CJ_ofL hg (by decide) rfl (Nat.le_of_ble_eq_true rfl) (lo := [(0, .ref (gad g 0)), (1, vi x1)]) rfl (fun x C E hxl => ?_)
    subst hxl
    refine J_iconst C dX12_finds_0 ?_
    refine J_istore_n (lo2 := [(2, vi 0), (0, .ref (gad g 0)), (1, vi x1)]) C 2 dX12_finds_1 rfl (by decide) rfl ?_
    obtain ⟨q23, cq23, h⟩ := bdS h
    refine J_sub [1, 2, 0] rfl (wX12_finds_L2 d C (fX12_finds d) ih fu x1 h1 0 rl_0 σ hσ q23 cq23 (fun a24 ea24 hr25 hσ26 => ?_) (fun a29 ea29 hσ30 => ?_))
    · subst ea24
      have h := elL h
      refine J_aload_n C 0 dX12_finds_63 rfl 0 rfl ?_
      refine J_getR C fl_RX12_138 oR_0 rfl dX12_finds_64 ?_
      refine J_iload_n C 2 dX12_finds_67 rfl 2 rfl ?_
      refine J_iload_n C 1 dX12_finds_68 rfl 1 rfl ?_
      refine J_iast C aR_43 hσ26 h1 dX12_finds_69 h (fun σ27 hσ28 h => ?_)
      refine J_iconst C dX12_finds_70 ?_
      have e9 := sE h
      subst e9
      exact J_zret C (Or.inr rfl) E ⟨(Or.inr rfl), hσ28⟩ dX12_finds_71
    · subst ea29
      have h := elR h
      refine J_iconst C dX12_finds_78 ?_
      have e9 := sE h
      subst e9
      exact J_zret C (Or.inl rfl) E ⟨(Or.inl rfl), hσ30⟩ dX12_finds_79
set_option maxRecDepth 100000 in
set_option maxHeartbeats 4000000 in
theorem wX12_matching_L4 {x : Ct} {g : Gm} (C : Cx x yR g 5 cX12_matching RX12 65 1428) : ∀ (n : Nat) (x1 : Int) (h1 : rg x1) (x2 : Int) (h2 : rg x2) (x3 : Int) (h3 : rg x3) (σ : Sg) (hσ : wfS yR σ) (q : Sg) (h : fX12_matching_L4 n x1 x2 x3 σ = some q) (k : wfS yR q → J x yR g 5 25 [(0, .ref (gad g 0)), (1, vi x1), (2, vi x2)] [] q), J x yR g 5 4 [(0, .ref (gad g 0)), (1, vi x1), (2, vi x2), (3, vi x3)] [] σ := by
  intro n
  induction n with
  | zero =>
    intro x1 h1 x2 h2 x3 h3 σ hσ q h k
    exact absurd h (by intro z; cases z)
  | succ n ih =>
    intro x1 h1 x2 h2 x3 h3 σ hσ q h k
    rw [fX12_matching_L4] at h
    refine J_iload_n C 3 dX12_matching_4 rfl 3 rfl ?_
    refine J_aload_n C 0 dX12_matching_5 rfl 0 rfl ?_
    refine J_getI C fl_RX12_171 oR_0 rfl dX12_matching_6 ?_
    refine J_icmp_ge C h3 (hσ 0 36 lR_0) (tgt := 25) dX12_matching_9 (by decide) h (fun h c5 => ?_) (fun h c5 => ?_)
    · refine J_aload_n C 0 dX12_matching_12 rfl 0 rfl ?_
      refine J_getR C fl_RX12_138 oR_0 rfl dX12_matching_13 ?_
      refine J_iload_n C 3 dX12_matching_16 rfl 3 rfl ?_
      refine J_iconst C dX12_matching_17 ?_
      refine J_iast C aR_43 hσ rl_m1 dX12_matching_18 h (fun σ1 hσ2 h => ?_)
      refine J_iinc C 3 3 dX12_matching_19 rfl (by decide) h (fun v3 hv4 h => ?_)
      refine J_goto C (tgt := 4) dX12_matching_22 (by decide) ?_
      exact J_sub [1, 2, 3, 0] rfl (ih x1 h1 x2 h2 v3 hv4 σ1 hσ2 q h k)
    · have e9 := sE h
      subst e9
      exact J_sub [0, 1, 2] rfl (k hσ)
set_option maxRecDepth 100000 in
set_option maxHeartbeats 4000000 in
theorem wX12_matching_L54 {x : Ct} {g : Gm} (C : Cx x yR g 5 cX12_matching RX12 65 1428) : ∀ (n : Nat) (x1 : Int) (h1 : rg x1) (x2 : Int) (h2 : rg x2) (x3 : Int) (h3 : rg x3) (x4 : Int) (h4 : rg x4) (σ : Sg) (hσ : wfS yR σ) (q : Sg) (h : fX12_matching_L54 n x1 x2 x3 x4 σ = some q) (k : wfS yR q → J x yR g 5 77 [(0, .ref (gad g 0)), (1, vi x1), (2, vi x2), (3, vi x3)] [] q), J x yR g 5 54 [(0, .ref (gad g 0)), (1, vi x1), (2, vi x2), (3, vi x3), (4, vi x4)] [] σ := by
  intro n
  induction n with
  | zero =>
    intro x1 h1 x2 h2 x3 h3 x4 h4 σ hσ q h k
    exact absurd h (by intro z; cases z)
  | succ n ih =>
    intro x1 h1 x2 h2 x3 h3 x4 h4 σ hσ q h k
    rw [fX12_matching_L54] at h
    refine J_iload C 4 dX12_matching_54 4 rfl ?_
    refine J_aload_n C 0 dX12_matching_56 rfl 0 rfl ?_
    refine J_getI C fl_RX12_171 oR_0 rfl dX12_matching_57 ?_
    refine J_icmp_ge C h4 (hσ 0 36 lR_0) (tgt := 77) dX12_matching_60 (by decide) h (fun h c19 => ?_) (fun h c19 => ?_)
    · refine J_aload_n C 0 dX12_matching_63 rfl 0 rfl ?_
      refine J_getR C fl_RX12_141 oR_0 rfl dX12_matching_64 ?_
      refine J_iload C 4 dX12_matching_67 4 rfl ?_
      refine J_iconst C dX12_matching_69 ?_
      refine J_zast C aR_44 hσ dX12_matching_70 h (fun σ15 hσ16 h => ?_)
      refine J_iinc C 4 4 dX12_matching_71 rfl (by decide) h (fun v17 hv18 h => ?_)
      refine J_goto C (tgt := 54) dX12_matching_74 (by decide) ?_
      exact J_sub [1, 2, 3, 4, 0] rfl (ih x1 h1 x2 h2 x3 h3 v17 hv18 σ15 hσ16 q h k)
    · have e9 := sE h
      subst e9
      exact J_sub [0, 1, 2, 3] rfl (k hσ)
set_option maxRecDepth 100000 in
set_option maxHeartbeats 4000000 in
theorem wX12_matching_L27 {x : Ct} {g : Gm} (C : Cx x yR g 5 cX12_matching RX12 65 1428) : ∀ (n : Nat) (x1 : Int) (h1 : rg x1) (x2 : Int) (h2 : rg x2) (x3 : Int) (h3 : rg x3) (σ : Sg) (hσ : wfS yR σ) (q : Int × Sg) (h : fX12_matching_L27 n x1 x2 x3 σ = some q) (k : rg q.1 → wfS yR q.2 → J x yR g 5 99 [(2, vi q.1)] [] q.2), J x yR g 5 27 [(0, .ref (gad g 0)), (1, vi x1), (2, vi x2), (3, vi x3)] [] σ := by
  intro n
  induction n with
  | zero =>
    intro x1 h1 x2 h2 x3 h3 σ hσ q h k
    exact absurd h (by intro z; cases z)
  | succ n ih =>
    intro x1 h1 x2 h2 x3 h3 σ hσ q h k
    rw [fX12_matching_L27] at h
    have pc8 : ∀ (x2 : Int) (h2 : rg x2) (x3 : Int) (h3 : rg x3) (σ : Sg) (hσ : wfS yR σ), fX12_matching_L27P93 (fX12_matching_L27 n) x1 x2 x3 σ = some q → J x yR g 5 93 [(0, .ref (gad g 0)), (1, vi x1), (2, vi x2), (3, vi x3)] [] σ := by
      intro x2 h2 x3 h3 σ hσ h
      unfold fX12_matching_L27P93 at h
      refine J_iinc C 3 3 dX12_matching_93 rfl (by decide) h (fun v9 hv10 h => ?_)
      refine J_goto C (tgt := 27) dX12_matching_96 (by decide) ?_
      exact J_sub [1, 2, 3, 0] rfl (ih x1 h1 x2 h2 v9 hv10 σ hσ q h k)
    have pc24 : ∀ (x3 : Int) (h3 : rg x3) (y0 : Int) (g0 : rg y0) (y1 : Int) (g1 : rg y1) (σ : Sg) (hσ : wfS yR σ), fX12_matching_L27P91 (fX12_matching_L27 n) x1 x3 y0 y1 σ = some q → J x yR g 5 91 [(0, .ref (gad g 0)), (1, vi x1), (3, vi x3)] [vi y0, vi y1] σ := by
      intro x3 h3 y0 g0 y1 g1 σ hσ h
      unfold fX12_matching_L27P91 at h
      refine J_iadd C dX12_matching_91 h (fun v25 hv26 h => ?_)
      refine J_istore_n (lo2 := [(2, vi v25), (0, .ref (gad g 0)), (1, vi x1), (3, vi x3)]) C 2 dX12_matching_92 rfl (by decide) rfl ?_
      exact J_sub [1, 2, 0, 3] rfl (pc8 v25 hv26 x3 h3 σ hσ h)
    refine J_iload_n C 3 dX12_matching_27 rfl 3 rfl ?_
    refine J_aload_n C 0 dX12_matching_28 rfl 0 rfl ?_
    refine J_getI C fl_RX12_159 oR_0 rfl dX12_matching_29 ?_
    refine J_icmp_ge C h3 (hσ 0 32 lR_0) (tgt := 99) dX12_matching_32 (by decide) h (fun h c32 => ?_) (fun h c32 => ?_)
    · refine J_iload_n C 3 dX12_matching_35 rfl 3 rfl ?_
      refine J_iload_n C 1 dX12_matching_36 rfl 1 rfl ?_
      refine J_icmp_eq C h3 h1 (tgt := 93) dX12_matching_37 (by decide) h (fun h c31 => ?_) (fun h c31 => ?_)
      · exact J_sub [0, 1, 2, 3] rfl (pc8 x2 h2 x3 h3 σ hσ h)
      · refine J_aload_n C 0 dX12_matching_40 rfl 0 rfl ?_
        refine J_iload_n C 3 dX12_matching_41 rfl 3 rfl ?_
        obtain ⟨q13, cq13, h⟩ := bdS h
        refine J_callV C mw_X12_isShown ml_RX12_302 (m_X12_isShown x.2.1 g (CxI C) x3 h3 σ hσ q13 cq13) oR_0 rfl (Nat.le_of_ble_eq_true rfl) (Nat.le_of_ble_eq_true rfl) rfl rfl (Nat.le_of_ble_eq_true rfl) dX12_matching_42 (fun hz14 => ?_)
        refine J_if_ne C (rg01 hz14) (tgt := 51) dX12_matching_45 (by decide) h (fun h c30 => ?_) (fun h c30 => ?_)
        · refine J_goto C (tgt := 93) dX12_matching_48 (by decide) ?_
          exact J_sub [0, 1, 2, 3] rfl (pc8 x2 h2 x3 h3 σ hσ h)
        · refine J_iconst C dX12_matching_51 ?_
          refine J_istore (lo2 := [(4, vi 0), (0, .ref (gad g 0)), (1, vi x1), (2, vi x2), (3, vi x3)]) C 4 dX12_matching_52 (by decide) rfl ?_
          obtain ⟨q20, cq20, h⟩ := bdS h
          refine J_sub [1, 2, 3, 4, 0] rfl (wX12_matching_L54 C fu x1 h1 x2 h2 x3 h3 0 rl_0 σ hσ q20 cq20 (fun hσ21 => ?_))
          refine J_iload_n C 2 dX12_matching_77 rfl 2 rfl ?_
          refine J_aload_n C 0 dX12_matching_78 rfl 0 rfl ?_
          refine J_iload_n C 3 dX12_matching_79 rfl 3 rfl ?_
          obtain ⟨q22, cq22, h⟩ := bdS h
          refine J_callV C mw_X12_finds ml_RX12_299 (m_X12_finds x.2.1 g (CxI C) 62 x3 h3 q20 hσ21 q22 cq22) oR_0 rfl (Nat.le_of_ble_eq_true rfl) (Nat.le_of_ble_eq_true rfl) rfl rfl (Nat.le_of_ble_eq_true rfl) dX12_matching_80 (fun hz23 => ?_)
          refine J_if_eq C (rg01 hz23.1) (tgt := 90) dX12_matching_83 (by decide) h (fun h c29 => ?_) (fun h c29 => ?_)
          · refine J_iconst C dX12_matching_90 ?_
            exact J_sub [0, 1, 3] rfl (pc24 x3 h3 0 rl_0 x2 h2 q22.2 hz23.2 h)
          · refine J_iconst C dX12_matching_86 ?_
            refine J_goto C (tgt := 91) dX12_matching_87 (by decide) ?_
            exact J_sub [0, 1, 3] rfl (pc24 x3 h3 1 rl_1 x2 h2 q22.2 hz23.2 h)
    · have e9 := sE h
      subst e9
      exact J_sub [2] rfl (k h2 hσ)
set_option maxRecDepth 100000 in
set_option maxHeartbeats 4000000 in
theorem m_X12_matching (l : Launch) (g : Gm) (hg : gInj yR g) (x1 : Int) (h1 : rg x1) (σ : Sg) (hσ : wfS yR σ) (q : Int × Sg) (h : fX12_matching x1 σ = some q) : CJ l yR g yX12_matching cX12_matching 5 (some .int) 65 1428 [.ref (gad g 0), vi x1] σ (some (vi q.1)) q.2 ((rg q.1) ∧ wfS yR q.2) := by
  refine CJ_of hg (by decide) rfl (Nat.le_of_ble_eq_true rfl) (lo := [(0, .ref (gad g 0)), (1, vi x1)]) rfl (fun x C E => ?_)
  unfold fX12_matching at h
  refine J_iconst C dX12_matching_0 ?_
  refine J_istore_n (lo2 := [(2, vi 0), (0, .ref (gad g 0)), (1, vi x1)]) C 2 dX12_matching_1 rfl (by decide) rfl ?_
  refine J_iconst C dX12_matching_2 ?_
  refine J_istore_n (lo2 := [(3, vi 0), (2, vi 0), (0, .ref (gad g 0)), (1, vi x1)]) C 3 dX12_matching_3 rfl (by decide) rfl ?_
  obtain ⟨q6, cq6, h⟩ := bdS h
  refine J_sub [2, 3, 1, 0] rfl (wX12_matching_L4 C fu x1 h1 0 rl_0 0 rl_0 σ hσ q6 cq6 (fun hσ7 => ?_))
  refine J_iconst C dX12_matching_25 ?_
  refine J_istore_n (lo2 := [(3, vi 0), (0, .ref (gad g 0)), (1, vi x1), (2, vi 0)]) C 3 dX12_matching_26 rfl (by decide) rfl ?_
  obtain ⟨q33, cq33, h⟩ := bdS h
  refine J_sub [1, 2, 3, 0] rfl (wX12_matching_L27 C fu x1 h1 0 rl_0 0 rl_0 q6 hσ7 q33 cq33 (fun hr34 hσ35 => ?_))
  refine J_iload_n C 2 dX12_matching_99 rfl 0 rfl ?_
  have e9 := sE h
  subst e9
  exact J_iret C E ⟨hr34, hσ35⟩ dX12_matching_100
set_option maxRecDepth 100000 in
set_option maxHeartbeats 4000000 in
theorem wX12_duds_L8 {x : Ct} {g : Gm} (C : Cx x yR g 3 cX12_duds RX12 66 1452) : ∀ (n : Nat) (x1 : Int) (h1 : rg x1) (x2 : Int) (h2 : rg x2) (σ : Sg) (hσ : wfS yR σ) (q : Int) (h : fX12_duds_L8 n x1 x2 σ = some q) (k : rg q → J x yR g 3 38 [(0, .ref (gad g 0)), (1, vi q)] [] σ), J x yR g 3 8 [(0, .ref (gad g 0)), (1, vi x1), (2, vi x2)] [] σ := by
  intro n
  induction n with
  | zero =>
    intro x1 h1 x2 h2 σ hσ q h k
    exact absurd h (by intro z; cases z)
  | succ n ih =>
    intro x1 h1 x2 h2 σ hσ q h k
    rw [fX12_duds_L8] at h
    have pc5 : ∀ (x2 : Int) (h2 : rg x2) (y0 : Int) (g0 : rg y0) (y1 : Int) (g1 : rg y1), fX12_duds_L8P30 (fX12_duds_L8 n) x2 y0 y1 σ = some q → J x yR g 3 30 [(0, .ref (gad g 0)), (2, vi x2)] [vi y0, vi y1] σ := by
      intro x2 h2 y0 g0 y1 g1 h
      unfold fX12_duds_L8P30 at h
      refine J_iadd C dX12_duds_30 h (fun v6 hv7 h => ?_)
      refine J_istore_n (lo2 := [(1, vi v6), (0, .ref (gad g 0)), (2, vi x2)]) C 1 dX12_duds_31 rfl (by decide) rfl ?_
      refine J_iinc C 2 2 dX12_duds_32 rfl (by decide) h (fun v8 hv9 h => ?_)
      refine J_goto C (tgt := 8) dX12_duds_35 (by decide) ?_
      exact J_sub [2, 1, 0] rfl (ih v6 hv7 v8 hv9 σ hσ q h k)
    refine J_iload_n C 2 dX12_duds_8 rfl 2 rfl ?_
    refine J_aload_n C 0 dX12_duds_9 rfl 0 rfl ?_
    refine J_getI C fl_RX12_159 oR_0 rfl dX12_duds_10 ?_
    refine J_icmp_ge C h2 (hσ 0 32 lR_0) (tgt := 38) dX12_duds_13 (by decide) h (fun h c15 => ?_) (fun h c15 => ?_)
    · refine J_iload_n C 1 dX12_duds_16 rfl 1 rfl ?_
      refine J_aload_n C 0 dX12_duds_17 rfl 0 rfl ?_
      refine J_iload_n C 2 dX12_duds_18 rfl 2 rfl ?_
      obtain ⟨q3, cq3, h⟩ := bdS h
      refine J_callV C mw_X12_isShown ml_RX12_302 (m_X12_isShown x.2.1 g (CxI C) x2 h2 σ hσ q3 cq3) oR_0 rfl (Nat.le_of_ble_eq_true rfl) (Nat.le_of_ble_eq_true rfl) rfl rfl (Nat.le_of_ble_eq_true rfl) dX12_duds_19 (fun hz4 => ?_)
      refine J_if_eq C (rg01 hz4) (tgt := 29) dX12_duds_22 (by decide) h (fun h c14 => ?_) (fun h c14 => ?_)
      · refine J_iconst C dX12_duds_29 ?_
        exact J_sub [0, 2] rfl (pc5 x2 h2 0 rl_0 x1 h1 h)
      · refine J_iconst C dX12_duds_25 ?_
        refine J_goto C (tgt := 30) dX12_duds_26 (by decide) ?_
        exact J_sub [0, 2] rfl (pc5 x2 h2 1 rl_1 x1 h1 h)
    · have e9 := sE h
      subst e9
      exact J_sub [0, 1] rfl (k h1)
set_option maxRecDepth 100000 in
set_option maxHeartbeats 4000000 in
theorem m_X12_duds (l : Launch) (g : Gm) (hg : gInj yR g)  (σ : Sg) (hσ : wfS yR σ) (q : Int × Sg) (h : fX12_duds  σ = some q) : CJ l yR g yX12_duds cX12_duds 3 (some .int) 66 1452 [.ref (gad g 0)] σ (some (vi q.1)) q.2 ((rg q.1) ∧ wfS yR q.2) := by
  refine CJ_of hg (by decide) rfl (Nat.le_of_ble_eq_true rfl) (lo := [(0, .ref (gad g 0))]) rfl (fun x C E => ?_)
  unfold fX12_duds at h
  refine J_aload_n C 0 dX12_duds_0 rfl 0 rfl ?_
  obtain ⟨q1, cq1, h⟩ := bdS h
  refine J_callV C mw_X12_plays ml_RX12_293 (m_X12_plays x.2.1 g (CxI C) σ hσ q1 cq1) oR_0 rfl (Nat.le_of_ble_eq_true rfl) (Nat.le_of_ble_eq_true rfl) rfl rfl (Nat.le_of_ble_eq_true rfl) dX12_duds_1 (fun hz2 => ?_)
  refine J_iconst C dX12_duds_4 ?_
  refine J_istore_n (lo2 := [(1, vi 0), (0, .ref (gad g 0))]) C 1 dX12_duds_5 rfl (by decide) rfl ?_
  refine J_iconst C dX12_duds_6 ?_
  refine J_istore_n (lo2 := [(2, vi 0), (1, vi 0), (0, .ref (gad g 0))]) C 2 dX12_duds_7 rfl (by decide) rfl ?_
  obtain ⟨q16, cq16, h⟩ := bdS h
  refine J_sub [2, 1, 0] rfl (wX12_duds_L8 C fu 0 rl_0 0 rl_0 q1 hz2 q16 cq16 (fun hr17 => ?_))
  refine J_iload_n C 1 dX12_duds_38 rfl 1 rfl ?_
  refine J_aload_n C 0 dX12_duds_39 rfl 0 rfl ?_
  refine J_iconst C dX12_duds_40 ?_
  obtain ⟨q18, cq18, h⟩ := bdS h
  refine J_callV C mw_X12_matching ml_RX12_305 (m_X12_matching x.2.1 g (CxI C) (-1) rl_m1 q1 hz2 q18 cq18) oR_0 rfl (Nat.le_of_ble_eq_true rfl) (Nat.le_of_ble_eq_true rfl) rfl rfl (Nat.le_of_ble_eq_true rfl) dX12_duds_41 (fun hz19 => ?_)
  refine J_isub C dX12_duds_44 h (fun v20 hv21 h => ?_)
  have e9 := sE h
  subst e9
  exact J_iret C E ⟨hv21, hz19.2⟩ dX12_duds_45
set_option maxRecDepth 100000 in
set_option maxHeartbeats 4000000 in
theorem wX12_dud_L29 {x : Ct} {g : Gm} (C : Cx x yR g 4 cX12_dud RX12 66 1452) : ∀ (n : Nat) (x1 : Int) (h1 : rg x1) (x2 : Int) (h2 : rg x2) (x3 : Int) (h3 : rg x3) (σ : Sg) (hσ : wfS yR σ) (q : Int) (h : fX12_dud_L29 n x1 x2 x3 σ = some q) (k : rg q → J x yR g 4 62 [(0, .ref (gad g 0)), (1, vi x1), (2, vi q)] [] σ), J x yR g 4 29 [(0, .ref (gad g 0)), (1, vi x1), (2, vi x2), (3, vi x3)] [] σ := by
  intro n
  induction n with
  | zero =>
    intro x1 h1 x2 h2 x3 h3 σ hσ q h k
    exact absurd h (by intro z; cases z)
  | succ n ih =>
    intro x1 h1 x2 h2 x3 h3 σ hσ q h k
    rw [fX12_dud_L29] at h
    have pc8 : ∀ (x3 : Int) (h3 : rg x3) (y0 : Int) (g0 : rg y0), fX12_dud_L29P55 (fX12_dud_L29 n) x1 x3 y0 σ = some q → J x yR g 4 55 [(0, .ref (gad g 0)), (1, vi x1), (3, vi x3)] [vi y0] σ := by
      intro x3 h3 y0 g0 h
      unfold fX12_dud_L29P55 at h
      refine J_istore_n (lo2 := [(2, vi y0), (0, .ref (gad g 0)), (1, vi x1), (3, vi x3)]) C 2 dX12_dud_55 rfl (by decide) rfl ?_
      refine J_iinc C 3 3 dX12_dud_56 rfl (by decide) h (fun v9 hv10 h => ?_)
      refine J_goto C (tgt := 29) dX12_dud_59 (by decide) ?_
      exact J_sub [2, 3, 1, 0] rfl (ih x1 h1 y0 g0 v9 hv10 σ hσ q h k)
    have pc7 : ∀ (x3 : Int) (h3 : rg x3), fX12_dud_L29P50 (fX12_dud_L29 n) x1 x3 σ = some q → J x yR g 4 50 [(0, .ref (gad g 0)), (1, vi x1), (3, vi x3)] [] σ := by
      intro x3 h3 h
      unfold fX12_dud_L29P50 at h
      refine J_iconst C dX12_dud_50 ?_
      refine J_goto C (tgt := 55) dX12_dud_51 (by decide) ?_
      exact J_sub [0, 1, 2] rfl (pc8 x3 h3 1 rl_1 h)
    refine J_iload_n C 3 dX12_dud_29 rfl 3 rfl ?_
    refine J_aload_n C 0 dX12_dud_30 rfl 0 rfl ?_
    refine J_getI C fl_RX12_171 oR_0 rfl dX12_dud_31 ?_
    refine J_icmp_ge C h3 (hσ 0 36 lR_0) (tgt := 62) dX12_dud_34 (by decide) h (fun h c17 => ?_) (fun h c17 => ?_)
    · refine J_iload_n C 2 dX12_dud_37 rfl 2 rfl ?_
      refine J_if_ne C h2 (tgt := 50) dX12_dud_38 (by decide) h (fun h c16 => ?_) (fun h c16 => ?_)
      · refine J_aload_n C 0 dX12_dud_41 rfl 0 rfl ?_
        refine J_iload_n C 1 dX12_dud_42 rfl 1 rfl ?_
        refine J_iload_n C 3 dX12_dud_43 rfl 3 rfl ?_
        obtain ⟨q13, cq13, h⟩ := bdS h
        refine J_callV C mw_X12_mayBe ml_RX12_296 (m_X12_mayBe x.2.1 g (CxI C) x1 h1 x3 h3 σ hσ q13 cq13) oR_0 rfl (Nat.le_of_ble_eq_true rfl) (Nat.le_of_ble_eq_true rfl) rfl rfl (Nat.le_of_ble_eq_true rfl) dX12_dud_44 (fun hz14 => ?_)
        refine J_if_eq C (rg01 hz14) (tgt := 54) dX12_dud_47 (by decide) h (fun h c15 => ?_) (fun h c15 => ?_)
        · refine J_iconst C dX12_dud_54 ?_
          exact J_sub [0, 1, 3] rfl (pc8 x3 h3 0 rl_0 h)
        · exact J_sub [0, 1, 3] rfl (pc7 x3 h3 h)
      · exact J_sub [0, 1, 3] rfl (pc7 x3 h3 h)
    · have e9 := sE h
      subst e9
      exact J_sub [0, 1, 2] rfl (k h2)
set_option maxRecDepth 100000 in
set_option maxHeartbeats 4000000 in
theorem m_X12_dud (l : Launch) (g : Gm) (hg : gInj yR g) (x1 : Int) (h1 : rg x1) (σ : Sg) (hσ : wfS yR σ) (q : Int × Sg) (h : fX12_dud x1 σ = some q) : CJ l yR g yX12_dud cX12_dud 4 (some .int) 66 1452 [.ref (gad g 0), vi x1] σ (some (vi q.1)) q.2 ((rg q.1) ∧ wfS yR q.2) := by
  refine CJ_of hg (by decide) rfl (Nat.le_of_ble_eq_true rfl) (lo := [(0, .ref (gad g 0)), (1, vi x1)]) rfl (fun x C E => ?_)
  unfold fX12_dud at h
  refine J_aload_n C 0 dX12_dud_0 rfl 0 rfl ?_
  refine J_iload_n C 1 dX12_dud_1 rfl 1 rfl ?_
  obtain ⟨q1, cq1, h⟩ := bdS h
  refine J_callV C mw_X12_isCue ml_RX12_244 (m_X12_isCue x.2.1 g (CxI C) x1 h1 σ hσ q1 cq1) oR_0 rfl (Nat.le_of_ble_eq_true rfl) (Nat.le_of_ble_eq_true rfl) rfl rfl (Nat.le_of_ble_eq_true rfl) dX12_dud_2 (fun hz2 => ?_)
  refine J_if_ne C (rg01 hz2) (tgt := 10) dX12_dud_5 (by decide) h (fun h c27 => ?_) (fun h c27 => ?_)
  · refine J_iconst C dX12_dud_8 ?_
    have e9 := sE h
    subst e9
    exact J_iret C E ⟨rl_m1, hσ⟩ dX12_dud_9
  · refine J_aload_n C 0 dX12_dud_10 rfl 0 rfl ?_
    obtain ⟨q3, cq3, h⟩ := bdS h
    refine J_callV C mw_X12_plays ml_RX12_293 (m_X12_plays x.2.1 g (CxI C) σ hσ q3 cq3) oR_0 rfl (Nat.le_of_ble_eq_true rfl) (Nat.le_of_ble_eq_true rfl) rfl rfl (Nat.le_of_ble_eq_true rfl) dX12_dud_11 (fun hz4 => ?_)
    refine J_aload_n C 0 dX12_dud_14 rfl 0 rfl ?_
    refine J_iload_n C 1 dX12_dud_15 rfl 1 rfl ?_
    obtain ⟨q5, cq5, h⟩ := bdS h
    refine J_callV C mw_X12_isShown ml_RX12_302 (m_X12_isShown x.2.1 g (CxI C) x1 h1 q3 hz4 q5 cq5) oR_0 rfl (Nat.le_of_ble_eq_true rfl) (Nat.le_of_ble_eq_true rfl) rfl rfl (Nat.le_of_ble_eq_true rfl) dX12_dud_16 (fun hz6 => ?_)
    refine J_if_ne C (rg01 hz6) (tgt := 25) dX12_dud_19 (by decide) h (fun h c26 => ?_) (fun h c26 => ?_)
    · refine J_bipush C dX12_dud_22 (bp8 (by decide) (by decide)) ?_
      have e9 := sE h
      subst e9
      exact J_iret C E ⟨rl_m2, hz4⟩ dX12_dud_24
    · refine J_iconst C dX12_dud_25 ?_
      refine J_istore_n (lo2 := [(2, vi 0), (0, .ref (gad g 0)), (1, vi x1)]) C 2 dX12_dud_26 rfl (by decide) rfl ?_
      refine J_iconst C dX12_dud_27 ?_
      refine J_istore_n (lo2 := [(3, vi 0), (2, vi 0), (0, .ref (gad g 0)), (1, vi x1)]) C 3 dX12_dud_28 rfl (by decide) rfl ?_
      obtain ⟨q18, cq18, h⟩ := bdS h
      refine J_sub [2, 3, 1, 0] rfl (wX12_dud_L29 C fu x1 h1 0 rl_0 0 rl_0 q3 hz4 q18 cq18 (fun hr19 => ?_))
      refine J_iload_n C 2 dX12_dud_62 rfl 2 rfl ?_
      refine J_if_ne C hr19 (tgt := 70) dX12_dud_63 (by decide) h (fun h c25 => ?_) (fun h c25 => ?_)
      · refine J_iconst C dX12_dud_66 ?_
        refine J_goto C (tgt := 88) dX12_dud_67 (by decide) ?_
        have e9 := sE h
        subst e9
        exact J_iret C E ⟨rl_2, hz4⟩ dX12_dud_88
      · refine J_aload_n C 0 dX12_dud_70 rfl 0 rfl ?_
        refine J_iload_n C 1 dX12_dud_71 rfl 1 rfl ?_
        obtain ⟨q20, cq20, h⟩ := bdS h
        refine J_callV C mw_X12_matching ml_RX12_305 (m_X12_matching x.2.1 g (CxI C) x1 h1 q3 hz4 q20 cq20) oR_0 rfl (Nat.le_of_ble_eq_true rfl) (Nat.le_of_ble_eq_true rfl) rfl rfl (Nat.le_of_ble_eq_true rfl) dX12_dud_72 (fun hz21 => ?_)
        refine J_aload_n C 0 dX12_dud_75 rfl 0 rfl ?_
        refine J_iconst C dX12_dud_76 ?_
        obtain ⟨q22, cq22, h⟩ := bdS h
        refine J_callV C mw_X12_matching ml_RX12_305 (m_X12_matching x.2.1 g (CxI C) (-1) rl_m1 q20.2 hz21.2 q22 cq22) oR_0 rfl (Nat.le_of_ble_eq_true rfl) (Nat.le_of_ble_eq_true rfl) rfl rfl (Nat.le_of_ble_eq_true rfl) dX12_dud_77 (fun hz23 => ?_)
        refine J_icmp_ne C hz21.1 hz23.1 (tgt := 87) dX12_dud_80 (by decide) h (fun h c24 => ?_) (fun h c24 => ?_)
        · refine J_iconst C dX12_dud_83 ?_
          refine J_goto C (tgt := 88) dX12_dud_84 (by decide) ?_
          have e9 := sE h
          subst e9
          exact J_iret C E ⟨rl_1, hz23.2⟩ dX12_dud_88
        · refine J_iconst C dX12_dud_87 ?_
          have e9 := sE h
          subst e9
          exact J_iret C E ⟨rl_0, hz23.2⟩ dX12_dud_88
set_option maxRecDepth 100000 in
set_option maxHeartbeats 4000000 in
theorem m_X12_strange (l : Launch) (g : Gm) (hg : gInj yR g)  (σ : Sg) (hσ : wfS yR σ) (q : Int × Sg) (h : fX12_strange  σ = some q) : CJ l yR g yX12_strange cX12_strange 1 (some .int) 66 1452 [.ref (gad g 0)] σ (some (vi q.1)) q.2 ((rg q.1) ∧ wfS yR q.2) := by
  refine CJ_of hg (by decide) rfl (Nat.le_of_ble_eq_true rfl) (lo := [(0, .ref (gad g 0))]) rfl (fun x C E => ?_)
  unfold fX12_strange at h
  refine J_aload_n C 0 dX12_strange_0 rfl 0 rfl ?_
  obtain ⟨q1, cq1, h⟩ := bdS h
  refine J_callV C mw_X12_plays ml_RX12_293 (m_X12_plays x.2.1 g (CxI C) σ hσ q1 cq1) oR_0 rfl (Nat.le_of_ble_eq_true rfl) (Nat.le_of_ble_eq_true rfl) rfl rfl (Nat.le_of_ble_eq_true rfl) dX12_strange_1 (fun hz2 => ?_)
  refine J_aload_n C 0 dX12_strange_4 rfl 0 rfl ?_
  refine J_getI C fl_RX12_171 oR_0 rfl dX12_strange_5 ?_
  refine J_aload_n C 0 dX12_strange_8 rfl 0 rfl ?_
  refine J_iconst C dX12_strange_9 ?_
  obtain ⟨q3, cq3, h⟩ := bdS h
  refine J_callV C mw_X12_matching ml_RX12_305 (m_X12_matching x.2.1 g (CxI C) (-1) rl_m1 q1 hz2 q3 cq3) oR_0 rfl (Nat.le_of_ble_eq_true rfl) (Nat.le_of_ble_eq_true rfl) rfl rfl (Nat.le_of_ble_eq_true rfl) dX12_strange_10 (fun hz4 => ?_)
  refine J_isub C dX12_strange_13 h (fun v5 hv6 h => ?_)
  have e9 := sE h
  subst e9
  exact J_iret C E ⟨hv6, hz4.2⟩ dX12_strange_14
set_option maxRecDepth 100000 in
set_option maxHeartbeats 4000000 in
theorem wX12_tape_L52 {x : Ct} {g : Gm} (C : Cx x yR g 5 cX12_tape RX12 2 42) : ∀ (n : Nat) (x1 : Int) (h1 : rg x1) (x3 : Int) (h3 : rg x3) (x4 : Int) (h4 : rg x4) (σ : Sg) (hσ : wfS yR σ) (q : Sg) (h : fX12_tape_L52 n x1 x3 x4 σ = some q) (k : wfS yR q → J x yR g 5 78 [(3, vi x3)] [] q), J x yR g 5 52 [(0, .ref (gad g 0)), (1, vi x1), (3, vi x3), (4, vi x4)] [] σ := by
  intro n
  induction n with
  | zero =>
    intro x1 h1 x3 h3 x4 h4 σ hσ q h k
    exact absurd h (by intro z; cases z)
  | succ n ih =>
    intro x1 h1 x3 h3 x4 h4 σ hσ q h k
    rw [fX12_tape_L52] at h
    refine J_iload C 4 dX12_tape_52 3 rfl ?_
    refine J_bipush C dX12_tape_54 (bp8 (by decide) (by decide)) ?_
    refine J_icmp_ge C h4 rl_100 (tgt := 78) dX12_tape_56 (by decide) h (fun h c17 => ?_) (fun h c17 => ?_)
    · refine J_aload_n C 0 dX12_tape_59 rfl 0 rfl ?_
      refine J_getR C fl_RX12_100 oR_0 rfl dX12_tape_60 ?_
      refine J_bipush C dX12_tape_63 (bp8 (by decide) (by decide)) ?_
      refine J_iload_n C 1 dX12_tape_65 rfl 1 rfl ?_
      refine J_imul C dX12_tape_66 h (fun v9 hv10 h => ?_)
      refine J_iload C 4 dX12_tape_67 3 rfl ?_
      refine J_iadd C dX12_tape_69 h (fun v11 hv12 h => ?_)
      refine J_lconst0 C dX12_tape_70 ?_
      refine J_last C aR_31 hσ dX12_tape_71 h (fun σ13 hσ14 h => ?_)
      refine J_iinc C 4 3 dX12_tape_72 rfl (by decide) h (fun v15 hv16 h => ?_)
      refine J_goto C (tgt := 52) dX12_tape_75 (by decide) ?_
      exact J_sub [1, 2, 3, 0] rfl (ih x1 h1 x3 h3 v15 hv16 σ13 hσ14 q h k)
    · have e9 := sE h
      subst e9
      exact J_sub [2] rfl (k hσ)
set_option maxRecDepth 100000 in
set_option maxHeartbeats 4000000 in
theorem m_X12_tape (l : Launch) (g : Gm) (hg : gInj yR g) (x1 : Int) (h1 : rg x1) (x2 : Int) (h2 : rg x2) (x3 : Int) (h3 : rg x3) (σ : Sg) (hσ : wfS yR σ) (q : Int × Sg) (h : fX12_tape x1 x2 x3 σ = some q) : CJ l yR g yX12_tape cX12_tape 5 (some .int) 2 42 [.ref (gad g 0), vi x1, vi x2, vi x3] σ (some (vi q.1)) q.2 ((rg q.1) ∧ wfS yR q.2) := by
  refine CJ_of hg (by decide) rfl (Nat.le_of_ble_eq_true rfl) (lo := [(0, .ref (gad g 0)), (1, vi x1), (2, vi x2), (3, vi x3)]) rfl (fun x C E => ?_)
  unfold fX12_tape at h
  refine J_iload_n C 1 dX12_tape_0 rfl 1 rfl ?_
  obtain ⟨q1, cq1, h⟩ := bdS h
  refine J_callS C mw_X12_isTape ml_RX12_231 (m_X12_isTape x.2.1 g (CxI C) x1 h1 σ hσ q1 cq1) (Nat.le_of_ble_eq_true rfl) (Nat.le_of_ble_eq_true rfl) rfl rfl (Nat.le_of_ble_eq_true rfl) dX12_tape_1 (fun hz2 => ?_)
  refine J_if_eq C (rg01 hz2) (tgt := 22) dX12_tape_4 (by decide) h (fun h c25 => ?_) (fun h c25 => ?_)
  · refine J_iconst C dX12_tape_22 ?_
    have e9 := sE h
    subst e9
    exact J_iret C E ⟨rl_m1, hσ⟩ dX12_tape_23
  · refine J_iload_n C 2 dX12_tape_7 rfl 2 rfl ?_
    refine J_iconst C dX12_tape_8 ?_
    refine J_iconst C dX12_tape_9 ?_
    obtain ⟨q3, cq3, h⟩ := bdS h
    refine J_callS C mw_X12_isIn ml_RX12_177 (m_X12_isIn x.2.1 g (CxI C) x2 h2 1 rl_1 4 rl_4 σ hσ q3 cq3) (Nat.le_of_ble_eq_true rfl) (Nat.le_of_ble_eq_true rfl) rfl rfl (Nat.le_of_ble_eq_true rfl) dX12_tape_10 (fun hz4 => ?_)
    refine J_if_eq C (rg01 hz4) (tgt := 22) dX12_tape_13 (by decide) h (fun h c24 => ?_) (fun h c24 => ?_)
    · refine J_iconst C dX12_tape_22 ?_
      have e9 := sE h
      subst e9
      exact J_iret C E ⟨rl_m1, hσ⟩ dX12_tape_23
    · refine J_iload_n C 3 dX12_tape_16 rfl 3 rfl ?_
      refine J_bipush C dX12_tape_17 (bp8 (by decide) (by decide)) ?_
      refine J_icmp_le C h3 rl_100 (tgt := 24) dX12_tape_19 (by decide) h (fun h c23 => ?_) (fun h c23 => ?_)
      · refine J_iload_n C 3 dX12_tape_24 rfl 3 rfl ?_
        refine J_if_ge C h3 (tgt := 35) dX12_tape_25 (by decide) h (fun h c22 => ?_) (fun h c22 => ?_)
        · refine J_aload_n C 0 dX12_tape_28 rfl 0 rfl ?_
          refine J_bipush C dX12_tape_29 (bp8 (by decide) (by decide)) ?_
          obtain ⟨q20, cq20, h⟩ := bdS h
          refine J_callV C mw_X12_host ml_RX12_228 (m_X12_host x.2.1 g (CxI C) (-14) rl_m14 σ hσ q20 cq20) oR_0 rfl (Nat.le_of_ble_eq_true rfl) (Nat.le_of_ble_eq_true rfl) rfl rfl (Nat.le_of_ble_eq_true rfl) dX12_tape_31 (fun hz21 => ?_)
          have e9 := sE h
          subst e9
          exact J_iret C E ⟨hz21.1, hz21.2⟩ dX12_tape_34
        · refine J_aload_n C 0 dX12_tape_35 rfl 0 rfl ?_
          refine J_getR C fl_RX12_91 oR_0 rfl dX12_tape_36 ?_
          refine J_iload_n C 1 dX12_tape_39 rfl 1 rfl ?_
          refine J_iload_n C 2 dX12_tape_40 rfl 2 rfl ?_
          refine J_iast C aR_28 hσ h2 dX12_tape_41 h (fun σ5 hσ6 h => ?_)
          refine J_aload_n C 0 dX12_tape_42 rfl 0 rfl ?_
          refine J_getR C fl_RX12_94 oR_0 rfl dX12_tape_43 ?_
          refine J_iload_n C 1 dX12_tape_46 rfl 1 rfl ?_
          refine J_iload_n C 3 dX12_tape_47 rfl 3 rfl ?_
          refine J_iast C aR_29 hσ6 h3 dX12_tape_48 h (fun σ7 hσ8 h => ?_)
          refine J_iconst C dX12_tape_49 ?_
          refine J_istore (lo2 := [(4, vi 0), (0, .ref (gad g 0)), (1, vi x1), (2, vi x2), (3, vi x3)]) C 4 dX12_tape_50 (by decide) rfl ?_
          obtain ⟨q18, cq18, h⟩ := bdS h
          refine J_sub [1, 2, 4, 0] rfl (wX12_tape_L52 C fu x1 h1 x3 h3 0 rl_0 σ7 hσ8 q18 cq18 (fun hσ19 => ?_))
          refine J_iload_n C 3 dX12_tape_78 rfl 0 rfl ?_
          have e9 := sE h
          subst e9
          exact J_iret C E ⟨h3, hσ19⟩ dX12_tape_79
      · refine J_iconst C dX12_tape_22 ?_
        have e9 := sE h
        subst e9
        exact J_iret C E ⟨rl_m1, hσ⟩ dX12_tape_23
set_option maxRecDepth 100000 in
set_option maxHeartbeats 4000000 in
theorem wX12_keep_L28 {x : Ct} {g : Gm} (C : Cx x yR g 4 cX12_keep RX12 2 42) : ∀ (n : Nat) (x1 : Int) (h1 : rg x1) (x2 : Int) (h2 : rg x2) (σ : Sg) (hσ : wfS yR σ) (q : Sg) (h : fX12_keep_L28 n x1 x2 σ = some q) (k : wfS yR q → J x yR g 4 105 [(0, .ref (gad g 0))] [] q), J x yR g 4 28 [(0, .ref (gad g 0)), (1, vi x1), (2, vi x2)] [] σ := by
  intro n
  induction n with
  | zero =>
    intro x1 h1 x2 h2 σ hσ q h k
    exact absurd h (by intro z; cases z)
  | succ n ih =>
    intro x1 h1 x2 h2 σ hσ q h k
    rw [fX12_keep_L28] at h
    refine J_iload_n C 2 dX12_keep_28 rfl 2 rfl ?_
    refine J_aload_n C 0 dX12_keep_29 rfl 0 rfl ?_
    refine J_getI C fl_RX12_159 oR_0 rfl dX12_keep_30 ?_
    refine J_icmp_ge C h2 (hσ 0 32 lR_0) (tgt := 105) dX12_keep_33 (by decide) h (fun h c37 => ?_) (fun h c37 => ?_)
    · refine J_iconst C dX12_keep_36 ?_
      refine J_bipush C dX12_keep_37 (bp8 (by decide) (by decide)) ?_
      refine J_iload_n C 1 dX12_keep_39 rfl 1 rfl ?_
      refine J_imul C dX12_keep_40 h (fun v7 hv8 h => ?_)
      refine J_iload_n C 2 dX12_keep_41 rfl 2 rfl ?_
      refine J_iadd C dX12_keep_42 h (fun v9 hv10 h => ?_)
      refine J_imul C dX12_keep_43 h (fun v11 hv12 h => ?_)
      refine J_istore_n (lo2 := [(3, vi v11), (0, .ref (gad g 0)), (1, vi x1), (2, vi x2)]) C 3 dX12_keep_44 rfl (by decide) rfl ?_
      refine J_aload_n C 0 dX12_keep_45 rfl 1 rfl ?_
      refine J_getR C fl_RX12_97 oR_0 rfl dX12_keep_46 ?_
      refine J_iload_n C 3 dX12_keep_49 rfl 0 rfl ?_
      refine J_aload_n C 0 dX12_keep_50 rfl 1 rfl ?_
      refine J_getR C fl_RX12_46 oR_0 rfl dX12_keep_51 ?_
      refine J_iload_n C 2 dX12_keep_54 rfl 3 rfl ?_
      refine J_iald C aR_13 hσ dX12_keep_55 h (fun v13 hv14 h => ?_)
      refine J_iast C aR_30 hσ hv14 dX12_keep_56 h (fun σ15 hσ16 h => ?_)
      refine J_aload_n C 0 dX12_keep_57 rfl 1 rfl ?_
      refine J_getR C fl_RX12_97 oR_0 rfl dX12_keep_58 ?_
      refine J_iload_n C 3 dX12_keep_61 rfl 0 rfl ?_
      refine J_iconst C dX12_keep_62 ?_
      refine J_iadd C dX12_keep_63 h (fun v17 hv18 h => ?_)
      refine J_aload_n C 0 dX12_keep_64 rfl 1 rfl ?_
      refine J_getR C fl_RX12_49 oR_0 rfl dX12_keep_65 ?_
      refine J_iload_n C 2 dX12_keep_68 rfl 3 rfl ?_
      refine J_iald C aR_14 hσ16 dX12_keep_69 h (fun v19 hv20 h => ?_)
      refine J_iast C aR_30 hσ16 hv20 dX12_keep_70 h (fun σ21 hσ22 h => ?_)
      refine J_aload_n C 0 dX12_keep_71 rfl 1 rfl ?_
      refine J_getR C fl_RX12_97 oR_0 rfl dX12_keep_72 ?_
      refine J_iload_n C 3 dX12_keep_75 rfl 0 rfl ?_
      refine J_iconst C dX12_keep_76 ?_
      refine J_iadd C dX12_keep_77 h (fun v23 hv24 h => ?_)
      refine J_aload_n C 0 dX12_keep_78 rfl 1 rfl ?_
      refine J_getR C fl_RX12_52 oR_0 rfl dX12_keep_79 ?_
      refine J_iload_n C 2 dX12_keep_82 rfl 3 rfl ?_
      refine J_iald C aR_15 hσ22 dX12_keep_83 h (fun v25 hv26 h => ?_)
      refine J_iast C aR_30 hσ22 hv26 dX12_keep_84 h (fun σ27 hσ28 h => ?_)
      refine J_aload_n C 0 dX12_keep_85 rfl 1 rfl ?_
      refine J_getR C fl_RX12_97 oR_0 rfl dX12_keep_86 ?_
      refine J_iload_n C 3 dX12_keep_89 rfl 0 rfl ?_
      refine J_iconst C dX12_keep_90 ?_
      refine J_iadd C dX12_keep_91 h (fun v29 hv30 h => ?_)
      refine J_aload_n C 0 dX12_keep_92 rfl 1 rfl ?_
      refine J_getR C fl_RX12_55 oR_0 rfl dX12_keep_93 ?_
      refine J_iload_n C 2 dX12_keep_96 rfl 3 rfl ?_
      refine J_iald C aR_16 hσ28 dX12_keep_97 h (fun v31 hv32 h => ?_)
      refine J_iast C aR_30 hσ28 hv32 dX12_keep_98 h (fun σ33 hσ34 h => ?_)
      refine J_iinc C 2 3 dX12_keep_99 rfl (by decide) h (fun v35 hv36 h => ?_)
      refine J_goto C (tgt := 28) dX12_keep_102 (by decide) ?_
      exact J_sub [2, 3, 0] rfl (ih x1 h1 v35 hv36 σ33 hσ34 q h k)
    · have e9 := sE h
      subst e9
      exact J_sub [0] rfl (k hσ)
set_option maxRecDepth 100000 in
set_option maxHeartbeats 4000000 in
theorem m_X12_keep (l : Launch) (g : Gm) (hg : gInj yR g) (x1 : Int) (h1 : rg x1) (σ : Sg) (hσ : wfS yR σ) (q : Int × Sg) (h : fX12_keep x1 σ = some q) : CJ l yR g yX12_keep cX12_keep 4 (some .int) 2 42 [.ref (gad g 0), vi x1] σ (some (vi q.1)) q.2 ((rg q.1) ∧ wfS yR q.2) := by
  refine CJ_of hg (by decide) rfl (Nat.le_of_ble_eq_true rfl) (lo := [(0, .ref (gad g 0)), (1, vi x1)]) rfl (fun x C E => ?_)
  unfold fX12_keep at h
  refine J_iload_n C 1 dX12_keep_0 rfl 1 rfl ?_
  obtain ⟨q1, cq1, h⟩ := bdS h
  refine J_callS C mw_X12_isTape ml_RX12_231 (m_X12_isTape x.2.1 g (CxI C) x1 h1 σ hσ q1 cq1) (Nat.le_of_ble_eq_true rfl) (Nat.le_of_ble_eq_true rfl) rfl rfl (Nat.le_of_ble_eq_true rfl) dX12_keep_1 (fun hz2 => ?_)
  refine J_if_ne C (rg01 hz2) (tgt := 9) dX12_keep_4 (by decide) h (fun h c40 => ?_) (fun h c40 => ?_)
  · refine J_iconst C dX12_keep_7 ?_
    have e9 := sE h
    subst e9
    exact J_iret C E ⟨rl_m1, hσ⟩ dX12_keep_8
  · refine J_aload_n C 0 dX12_keep_9 rfl 0 rfl ?_
    refine J_getR C fl_RX12_91 oR_0 rfl dX12_keep_10 ?_
    refine J_iload_n C 1 dX12_keep_13 rfl 1 rfl ?_
    refine J_iconst C dX12_keep_14 ?_
    refine J_iast C aR_28 hσ rl_5 dX12_keep_15 h (fun σ3 hσ4 h => ?_)
    refine J_aload_n C 0 dX12_keep_16 rfl 0 rfl ?_
    refine J_getR C fl_RX12_94 oR_0 rfl dX12_keep_17 ?_
    refine J_iload_n C 1 dX12_keep_20 rfl 1 rfl ?_
    refine J_aload_n C 0 dX12_keep_21 rfl 0 rfl ?_
    refine J_getI C fl_RX12_159 oR_0 rfl dX12_keep_22 ?_
    refine J_iast C aR_29 hσ4 (hσ4 0 32 lR_0) dX12_keep_25 h (fun σ5 hσ6 h => ?_)
    refine J_iconst C dX12_keep_26 ?_
    refine J_istore_n (lo2 := [(2, vi 0), (0, .ref (gad g 0)), (1, vi x1)]) C 2 dX12_keep_27 rfl (by decide) rfl ?_
    obtain ⟨q38, cq38, h⟩ := bdS h
    refine J_sub [1, 2, 0] rfl (wX12_keep_L28 C fu x1 h1 0 rl_0 σ5 hσ6 q38 cq38 (fun hσ39 => ?_))
    refine J_aload_n C 0 dX12_keep_105 rfl 0 rfl ?_
    refine J_getI C fl_RX12_159 oR_0 rfl dX12_keep_106 ?_
    have e9 := sE h
    subst e9
    exact J_iret C E ⟨(hσ39 0 32 lR_0), hσ39⟩ dX12_keep_109
set_option maxRecDepth 100000 in
set_option maxHeartbeats 4000000 in
theorem m_X12_wrongShow (l : Launch) (g : Gm) (hg : gInj yR g) (x1 : Int) (h1 : rg x1) (σ : Sg) (hσ : wfS yR σ) (q : Int × Sg) (h : fX12_wrongShow x1 σ = some q) : CJ l yR g yX12_wrongShow cX12_wrongShow 2 (some .int) 2 42 [.ref (gad g 0), vi x1] σ (some (vi q.1)) q.2 ((rg q.1) ∧ wfS yR q.2) := by
  refine CJ_of hg (by decide) rfl (Nat.le_of_ble_eq_true rfl) (lo := [(0, .ref (gad g 0)), (1, vi x1)]) rfl (fun x C E => ?_)
  unfold fX12_wrongShow at h
  refine J_iload_n C 1 dX12_wrongShow_0 rfl 1 rfl ?_
  obtain ⟨q1, cq1, h⟩ := bdS h
  refine J_callS C mw_X12_isTape ml_RX12_231 (m_X12_isTape x.2.1 g (CxI C) x1 h1 σ hσ q1 cq1) (Nat.le_of_ble_eq_true rfl) (Nat.le_of_ble_eq_true rfl) rfl rfl (Nat.le_of_ble_eq_true rfl) dX12_wrongShow_1 (fun hz2 => ?_)
  refine J_if_ne C (rg01 hz2) (tgt := 11) dX12_wrongShow_4 (by decide) h (fun h c13 => ?_) (fun h c13 => ?_)
  · refine J_iconst C dX12_wrongShow_7 ?_
    refine J_goto C (tgt := 49) dX12_wrongShow_8 (by decide) ?_
    have e9 := sE h
    subst e9
    exact J_iret C E ⟨rl_m1, hσ⟩ dX12_wrongShow_49
  · refine J_aload_n C 0 dX12_wrongShow_11 rfl 0 rfl ?_
    refine J_getR C fl_RX12_91 oR_0 rfl dX12_wrongShow_12 ?_
    refine J_iload_n C 1 dX12_wrongShow_15 rfl 1 rfl ?_
    refine J_iald C aR_28 hσ dX12_wrongShow_16 h (fun v3 hv4 h => ?_)
    refine J_if_ne C hv4 (tgt := 29) dX12_wrongShow_17 (by decide) h (fun h c12 => ?_) (fun h c12 => ?_)
    · refine J_aload_n C 0 dX12_wrongShow_20 rfl 0 rfl ?_
      refine J_bipush C dX12_wrongShow_21 (bp8 (by decide) (by decide)) ?_
      obtain ⟨q10, cq10, h⟩ := bdS h
      refine J_callV C mw_X12_host ml_RX12_228 (m_X12_host x.2.1 g (CxI C) (-11) rl_m11 σ hσ q10 cq10) oR_0 rfl (Nat.le_of_ble_eq_true rfl) (Nat.le_of_ble_eq_true rfl) rfl rfl (Nat.le_of_ble_eq_true rfl) dX12_wrongShow_23 (fun hz11 => ?_)
      refine J_goto C (tgt := 49) dX12_wrongShow_26 (by decide) ?_
      have e9 := sE h
      subst e9
      exact J_iret C E ⟨hz11.1, hz11.2⟩ dX12_wrongShow_49
    · refine J_aload_n C 0 dX12_wrongShow_29 rfl 0 rfl ?_
      refine J_getR C fl_RX12_91 oR_0 rfl dX12_wrongShow_30 ?_
      refine J_iload_n C 1 dX12_wrongShow_33 rfl 1 rfl ?_
      refine J_iald C aR_28 hσ dX12_wrongShow_34 h (fun v5 hv6 h => ?_)
      refine J_iconst C dX12_wrongShow_35 ?_
      refine J_icmp_eq C hv6 rl_5 (tgt := 48) dX12_wrongShow_36 (by decide) h (fun h c9 => ?_) (fun h c9 => ?_)
      · refine J_iconst C dX12_wrongShow_48 ?_
        have e9 := sE h
        subst e9
        exact J_iret C E ⟨rl_0, hσ⟩ dX12_wrongShow_49
      · refine J_aload_n C 0 dX12_wrongShow_39 rfl 0 rfl ?_
        refine J_bipush C dX12_wrongShow_40 (bp8 (by decide) (by decide)) ?_
        obtain ⟨q7, cq7, h⟩ := bdS h
        refine J_callV C mw_X12_host ml_RX12_228 (m_X12_host x.2.1 g (CxI C) (-12) rl_m12 σ hσ q7 cq7) oR_0 rfl (Nat.le_of_ble_eq_true rfl) (Nat.le_of_ble_eq_true rfl) rfl rfl (Nat.le_of_ble_eq_true rfl) dX12_wrongShow_42 (fun hz8 => ?_)
        refine J_goto C (tgt := 49) dX12_wrongShow_45 (by decide) ?_
        have e9 := sE h
        subst e9
        exact J_iret C E ⟨hz8.1, hz8.2⟩ dX12_wrongShow_49
set_option maxRecDepth 100000 in
set_option maxHeartbeats 4000000 in
theorem wX12_back_L26 {x : Ct} {g : Gm} (C : Cx x yR g 5 cX12_back RX12 3 63) : ∀ (n : Nat) (x1 : Int) (h1 : rg x1) (x3 : Int) (h3 : rg x3) (x4 : Int) (h4 : rg x4) (σ : Sg) (hσ : wfS yR σ) (q : (Unit) ⊕ (Unit)) (h : fX12_back_L26 n x1 x3 x4 σ = some q) (k0 : ∀ a : Unit, q = .inl a → J x yR g 5 93 [] [] σ) (k1 : ∀ a : Unit, q = .inr a → J x yR g 5 102 [(0, .ref (gad g 0)), (1, vi x1), (3, vi x3)] [] σ), J x yR g 5 26 [(0, .ref (gad g 0)), (1, vi x1), (3, vi x3), (4, vi x4)] [] σ := by
  intro n
  induction n with
  | zero =>
    intro x1 h1 x3 h3 x4 h4 σ hσ q h k0 k1
    exact absurd h (by intro z; cases z)
  | succ n ih =>
    intro x1 h1 x3 h3 x4 h4 σ hσ q h k0 k1
    rw [fX12_back_L26] at h
    have pc27 : ∀ (x4 : Int) (h4 : rg x4), fX12_back_L26P96 (fX12_back_L26 n) x1 x3 x4 σ = some q → J x yR g 5 96 [(0, .ref (gad g 0)), (1, vi x1), (3, vi x3), (4, vi x4)] [] σ := by
      intro x4 h4 h
      unfold fX12_back_L26P96 at h
      refine J_iinc C 4 3 dX12_back_96 rfl (by decide) h (fun v28 hv29 h => ?_)
      refine J_goto C (tgt := 26) dX12_back_99 (by decide) ?_
      exact J_sub [1, 2, 3, 0] rfl (ih x1 h1 x3 h3 v28 hv29 σ hσ q h k0 k1)
    refine J_iload C 4 dX12_back_26 3 rfl ?_
    refine J_aload_n C 0 dX12_back_28 rfl 0 rfl ?_
    refine J_getR C fl_RX12_94 oR_0 rfl dX12_back_29 ?_
    refine J_iload_n C 1 dX12_back_32 rfl 1 rfl ?_
    refine J_iald C aR_29 hσ dX12_back_33 h (fun v7 hv8 h => ?_)
    refine J_icmp_ge C h4 hv8 (tgt := 102) dX12_back_34 (by decide) h (fun h c45 => ?_) (fun h c45 => ?_)
    · refine J_aload_n C 0 dX12_back_37 rfl 0 rfl ?_
      refine J_aload_n C 0 dX12_back_38 rfl 0 rfl ?_
      refine J_getR C fl_RX12_97 oR_0 rfl dX12_back_39 ?_
      refine J_iload_n C 3 dX12_back_42 rfl 2 rfl ?_
      refine J_iconst C dX12_back_43 ?_
      refine J_iload C 4 dX12_back_44 3 rfl ?_
      refine J_imul C dX12_back_46 h (fun v9 hv10 h => ?_)
      refine J_iadd C dX12_back_47 h (fun v11 hv12 h => ?_)
      refine J_iconst C dX12_back_48 ?_
      refine J_iadd C dX12_back_49 h (fun v13 hv14 h => ?_)
      refine J_iald C aR_30 hσ dX12_back_50 h (fun v15 hv16 h => ?_)
      obtain ⟨q17, cq17, h⟩ := bdS h
      refine J_callV C mw_X12_isKind ml_RX12_190 (m_X12_isKind x.2.1 g (CxI C) v15 hv16 σ hσ q17 cq17) oR_0 rfl (Nat.le_of_ble_eq_true rfl) (Nat.le_of_ble_eq_true rfl) rfl rfl (Nat.le_of_ble_eq_true rfl) dX12_back_51 (fun hz18 => ?_)
      refine J_if_eq C (rg01 hz18) (tgt := 93) dX12_back_54 (by decide) h (fun h c44 => ?_) (fun h c44 => ?_)
      · have e9 := sE h
        exact J_sub [] rfl (k0 () e9.symm)
      · refine J_aload_n C 0 dX12_back_57 rfl 0 rfl ?_
        refine J_getR C fl_RX12_97 oR_0 rfl dX12_back_58 ?_
        refine J_iload_n C 3 dX12_back_61 rfl 2 rfl ?_
        refine J_iconst C dX12_back_62 ?_
        refine J_iload C 4 dX12_back_63 3 rfl ?_
        refine J_imul C dX12_back_65 h (fun v19 hv20 h => ?_)
        refine J_iadd C dX12_back_66 h (fun v21 hv22 h => ?_)
        refine J_iconst C dX12_back_67 ?_
        refine J_iadd C dX12_back_68 h (fun v23 hv24 h => ?_)
        refine J_iald C aR_30 hσ dX12_back_69 h (fun v25 hv26 h => ?_)
        refine J_if_lt C hv26 (tgt := 96) dX12_back_70 (by decide) h (fun h c43 => ?_) (fun h c43 => ?_)
        · exact J_sub [0, 1, 2, 3] rfl (pc27 x4 h4 h)
        · refine J_aload_n C 0 dX12_back_73 rfl 0 rfl ?_
          refine J_aload_n C 0 dX12_back_74 rfl 0 rfl ?_
          refine J_getR C fl_RX12_97 oR_0 rfl dX12_back_75 ?_
          refine J_iload_n C 3 dX12_back_78 rfl 2 rfl ?_
          refine J_iconst C dX12_back_79 ?_
          refine J_iload C 4 dX12_back_80 3 rfl ?_
          refine J_imul C dX12_back_82 h (fun v32 hv33 h => ?_)
          refine J_iadd C dX12_back_83 h (fun v34 hv35 h => ?_)
          refine J_iconst C dX12_back_84 ?_
          refine J_iadd C dX12_back_85 h (fun v36 hv37 h => ?_)
          refine J_iald C aR_30 hσ dX12_back_86 h (fun v38 hv39 h => ?_)
          obtain ⟨q40, cq40, h⟩ := bdS h
          refine J_callV C mw_X12_isBarge ml_RX12_186 (m_X12_isBarge x.2.1 g (CxI C) v38 hv39 σ hσ q40 cq40) oR_0 rfl (Nat.le_of_ble_eq_true rfl) (Nat.le_of_ble_eq_true rfl) rfl rfl (Nat.le_of_ble_eq_true rfl) dX12_back_87 (fun hz41 => ?_)
          refine J_if_ne C (rg01 hz41) (tgt := 96) dX12_back_90 (by decide) h (fun h c42 => ?_) (fun h c42 => ?_)
          · have e9 := sE h
            exact J_sub [] rfl (k0 () e9.symm)
          · exact J_sub [0, 1, 2, 3] rfl (pc27 x4 h4 h)
    · have e9 := sE h
      exact J_sub [0, 1, 2] rfl (k1 () e9.symm)
set_option maxRecDepth 100000 in
set_option maxHeartbeats 4000000 in
theorem wX12_back_L105 {x : Ct} {g : Gm} (C : Cx x yR g 5 cX12_back RX12 3 63) : ∀ (n : Nat) (x1 : Int) (h1 : rg x1) (x3 : Int) (h3 : rg x3) (x4 : Int) (h4 : rg x4) (σ : Sg) (hσ : wfS yR σ) (q : (Unit) ⊕ (Unit)) (h : fX12_back_L105 n x1 x3 x4 σ = some q) (k0 : ∀ a : Unit, q = .inl a → J x yR g 5 148 [] [] σ) (k1 : ∀ a : Unit, q = .inr a → J x yR g 5 157 [(0, .ref (gad g 0)), (1, vi x1), (3, vi x3)] [] σ), J x yR g 5 105 [(0, .ref (gad g 0)), (1, vi x1), (3, vi x3), (4, vi x4)] [] σ := by
  intro n
  induction n with
  | zero =>
    intro x1 h1 x3 h3 x4 h4 σ hσ q h k0 k1
    exact absurd h (by intro z; cases z)
  | succ n ih =>
    intro x1 h1 x3 h3 x4 h4 σ hσ q h k0 k1
    rw [fX12_back_L105] at h
    refine J_iload C 4 dX12_back_105 3 rfl ?_
    refine J_aload_n C 0 dX12_back_107 rfl 0 rfl ?_
    refine J_getR C fl_RX12_94 oR_0 rfl dX12_back_108 ?_
    refine J_iload_n C 1 dX12_back_111 rfl 1 rfl ?_
    refine J_iald C aR_29 hσ dX12_back_112 h (fun v49 hv50 h => ?_)
    refine J_icmp_ge C h4 hv50 (tgt := 157) dX12_back_113 (by decide) h (fun h c70 => ?_) (fun h c70 => ?_)
    · refine J_aload_n C 0 dX12_back_116 rfl 0 rfl ?_
      refine J_getR C fl_RX12_97 oR_0 rfl dX12_back_117 ?_
      refine J_iload_n C 3 dX12_back_120 rfl 2 rfl ?_
      refine J_iconst C dX12_back_121 ?_
      refine J_iload C 4 dX12_back_122 3 rfl ?_
      refine J_imul C dX12_back_124 h (fun v51 hv52 h => ?_)
      refine J_iadd C dX12_back_125 h (fun v53 hv54 h => ?_)
      refine J_iald C aR_30 hσ dX12_back_126 h (fun v55 hv56 h => ?_)
      refine J_aload_n C 0 dX12_back_127 rfl 0 rfl ?_
      refine J_getR C fl_RX12_13 oR_0 rfl dX12_back_128 ?_
      refine J_aload_n C 0 dX12_back_131 rfl 0 rfl ?_
      refine J_getR C fl_RX12_97 oR_0 rfl dX12_back_132 ?_
      refine J_iload_n C 3 dX12_back_135 rfl 2 rfl ?_
      refine J_iconst C dX12_back_136 ?_
      refine J_iload C 4 dX12_back_137 3 rfl ?_
      refine J_imul C dX12_back_139 h (fun v57 hv58 h => ?_)
      refine J_iadd C dX12_back_140 h (fun v59 hv60 h => ?_)
      refine J_iconst C dX12_back_141 ?_
      refine J_iadd C dX12_back_142 h (fun v61 hv62 h => ?_)
      refine J_iald C aR_30 hσ dX12_back_143 h (fun v63 hv64 h => ?_)
      refine J_iald C aR_2 hσ dX12_back_144 h (fun v65 hv66 h => ?_)
      refine J_icmp_ge C hv56 hv66 (tgt := 151) dX12_back_145 (by decide) h (fun h c69 => ?_) (fun h c69 => ?_)
      · have e9 := sE h
        exact J_sub [] rfl (k0 () e9.symm)
      · refine J_iinc C 4 3 dX12_back_151 rfl (by decide) h (fun v67 hv68 h => ?_)
        refine J_goto C (tgt := 105) dX12_back_154 (by decide) ?_
        exact J_sub [1, 2, 3, 0] rfl (ih x1 h1 x3 h3 v67 hv68 σ hσ q h k0 k1)
    · have e9 := sE h
      exact J_sub [0, 1, 2] rfl (k1 () e9.symm)
set_option maxRecDepth 100000 in
set_option maxHeartbeats 4000000 in
theorem wX12_back_L170 {x : Ct} {g : Gm} (C : Cx x yR g 5 cX12_back RX12 3 63) : ∀ (n : Nat) (x3 : Int) (h3 : rg x3) (x4 : Int) (h4 : rg x4) (σ : Sg) (hσ : wfS yR σ) (q : Sg) (h : fX12_back_L170 n x3 x4 σ = some q) (k : wfS yR q → J x yR g 5 263 [(0, .ref (gad g 0))] [] q), J x yR g 5 170 [(0, .ref (gad g 0)), (3, vi x3), (4, vi x4)] [] σ := by
  intro n
  induction n with
  | zero =>
    intro x3 h3 x4 h4 σ hσ q h k
    exact absurd h (by intro z; cases z)
  | succ n ih =>
    intro x3 h3 x4 h4 σ hσ q h k
    rw [fX12_back_L170] at h
    refine J_iload C 4 dX12_back_170 2 rfl ?_
    refine J_aload_n C 0 dX12_back_172 rfl 0 rfl ?_
    refine J_getI C fl_RX12_159 oR_0 rfl dX12_back_173 ?_
    refine J_icmp_ge C h4 (hσ 0 32 lR_0) (tgt := 263) dX12_back_176 (by decide) h (fun h c118 => ?_) (fun h c118 => ?_)
    · refine J_aload_n C 0 dX12_back_179 rfl 0 rfl ?_
      refine J_getR C fl_RX12_46 oR_0 rfl dX12_back_180 ?_
      refine J_iload C 4 dX12_back_183 2 rfl ?_
      refine J_aload_n C 0 dX12_back_185 rfl 0 rfl ?_
      refine J_getR C fl_RX12_97 oR_0 rfl dX12_back_186 ?_
      refine J_iload_n C 3 dX12_back_189 rfl 1 rfl ?_
      refine J_iconst C dX12_back_190 ?_
      refine J_iload C 4 dX12_back_191 2 rfl ?_
      refine J_imul C dX12_back_193 h (fun v78 hv79 h => ?_)
      refine J_iadd C dX12_back_194 h (fun v80 hv81 h => ?_)
      refine J_iald C aR_30 hσ dX12_back_195 h (fun v82 hv83 h => ?_)
      refine J_iast C aR_13 hσ hv83 dX12_back_196 h (fun σ84 hσ85 h => ?_)
      refine J_aload_n C 0 dX12_back_197 rfl 0 rfl ?_
      refine J_getR C fl_RX12_49 oR_0 rfl dX12_back_198 ?_
      refine J_iload C 4 dX12_back_201 2 rfl ?_
      refine J_aload_n C 0 dX12_back_203 rfl 0 rfl ?_
      refine J_getR C fl_RX12_97 oR_0 rfl dX12_back_204 ?_
      refine J_iload_n C 3 dX12_back_207 rfl 1 rfl ?_
      refine J_iconst C dX12_back_208 ?_
      refine J_iload C 4 dX12_back_209 2 rfl ?_
      refine J_imul C dX12_back_211 h (fun v86 hv87 h => ?_)
      refine J_iadd C dX12_back_212 h (fun v88 hv89 h => ?_)
      refine J_iconst C dX12_back_213 ?_
      refine J_iadd C dX12_back_214 h (fun v90 hv91 h => ?_)
      refine J_iald C aR_30 hσ85 dX12_back_215 h (fun v92 hv93 h => ?_)
      refine J_iast C aR_14 hσ85 hv93 dX12_back_216 h (fun σ94 hσ95 h => ?_)
      refine J_aload_n C 0 dX12_back_217 rfl 0 rfl ?_
      refine J_getR C fl_RX12_52 oR_0 rfl dX12_back_218 ?_
      refine J_iload C 4 dX12_back_221 2 rfl ?_
      refine J_aload_n C 0 dX12_back_223 rfl 0 rfl ?_
      refine J_getR C fl_RX12_97 oR_0 rfl dX12_back_224 ?_
      refine J_iload_n C 3 dX12_back_227 rfl 1 rfl ?_
      refine J_iconst C dX12_back_228 ?_
      refine J_iload C 4 dX12_back_229 2 rfl ?_
      refine J_imul C dX12_back_231 h (fun v96 hv97 h => ?_)
      refine J_iadd C dX12_back_232 h (fun v98 hv99 h => ?_)
      refine J_iconst C dX12_back_233 ?_
      refine J_iadd C dX12_back_234 h (fun v100 hv101 h => ?_)
      refine J_iald C aR_30 hσ95 dX12_back_235 h (fun v102 hv103 h => ?_)
      refine J_iast C aR_15 hσ95 hv103 dX12_back_236 h (fun σ104 hσ105 h => ?_)
      refine J_aload_n C 0 dX12_back_237 rfl 0 rfl ?_
      refine J_getR C fl_RX12_55 oR_0 rfl dX12_back_238 ?_
      refine J_iload C 4 dX12_back_241 2 rfl ?_
      refine J_aload_n C 0 dX12_back_243 rfl 0 rfl ?_
      refine J_getR C fl_RX12_97 oR_0 rfl dX12_back_244 ?_
      refine J_iload_n C 3 dX12_back_247 rfl 1 rfl ?_
      refine J_iconst C dX12_back_248 ?_
      refine J_iload C 4 dX12_back_249 2 rfl ?_
      refine J_imul C dX12_back_251 h (fun v106 hv107 h => ?_)
      refine J_iadd C dX12_back_252 h (fun v108 hv109 h => ?_)
      refine J_iconst C dX12_back_253 ?_
      refine J_iadd C dX12_back_254 h (fun v110 hv111 h => ?_)
      refine J_iald C aR_30 hσ105 dX12_back_255 h (fun v112 hv113 h => ?_)
      refine J_iast C aR_16 hσ105 hv113 dX12_back_256 h (fun σ114 hσ115 h => ?_)
      refine J_iinc C 4 2 dX12_back_257 rfl (by decide) h (fun v116 hv117 h => ?_)
      refine J_goto C (tgt := 170) dX12_back_260 (by decide) ?_
      exact J_sub [1, 2, 0] rfl (ih x3 h3 v116 hv117 σ114 hσ115 q h k)
    · have e9 := sE h
      subst e9
      exact J_sub [0] rfl (k hσ)
set_option maxRecDepth 100000 in
set_option maxHeartbeats 4000000 in
theorem m_X12_back (l : Launch) (g : Gm) (hg : gInj yR g) (x1 : Int) (h1 : rg x1) (σ : Sg) (hσ : wfS yR σ) (q : Int × Sg) (h : fX12_back x1 σ = some q) : CJ l yR g yX12_back cX12_back 5 (some .int) 3 63 [.ref (gad g 0), vi x1] σ (some (vi q.1)) q.2 ((rg q.1) ∧ wfS yR q.2) := by
  refine CJ_of hg (by decide) rfl (Nat.le_of_ble_eq_true rfl) (lo := [(0, .ref (gad g 0)), (1, vi x1)]) rfl (fun x C E => ?_)
  unfold fX12_back at h
  refine J_aload_n C 0 dX12_back_0 rfl 0 rfl ?_
  refine J_iconst C dX12_back_1 ?_
  refine J_putZ C fl_RX12_155 fp_RX12_54 oR_0 rfl rfl lR_0 hσ (Or.inl rfl) dX12_back_2 h (fun σ1 hσ2 h => ?_)
  refine J_aload_n C 0 dX12_back_5 rfl 0 rfl ?_
  refine J_iload_n C 1 dX12_back_6 rfl 1 rfl ?_
  obtain ⟨q3, cq3, h⟩ := bdS h
  refine J_callV C mw_X12_wrongShow ml_RX12_308 (m_X12_wrongShow x.2.1 g (CxI C) x1 h1 σ1 hσ2 q3 cq3) oR_0 rfl (Nat.le_of_ble_eq_true rfl) (Nat.le_of_ble_eq_true rfl) rfl rfl (Nat.le_of_ble_eq_true rfl) dX12_back_7 (fun hz4 => ?_)
  refine J_istore_n (lo2 := [(2, vi q3.1), (0, .ref (gad g 0)), (1, vi x1)]) C 2 dX12_back_10 rfl (by decide) rfl ?_
  refine J_iload_n C 2 dX12_back_11 rfl 0 rfl ?_
  refine J_if_eq C hz4.1 (tgt := 17) dX12_back_12 (by decide) h (fun h c121 => ?_) (fun h c121 => ?_)
  · refine J_sipush C dX12_back_17 (bp16 (by decide) (by decide)) ?_
    refine J_iload_n C 1 dX12_back_20 rfl 2 rfl ?_
    refine J_imul C dX12_back_21 h (fun v5 hv6 h => ?_)
    refine J_istore_n (lo2 := [(3, vi v5), (2, vi q3.1), (0, .ref (gad g 0)), (1, vi x1)]) C 3 dX12_back_22 rfl (by decide) rfl ?_
    refine J_iconst C dX12_back_23 ?_
    refine J_istore (lo2 := [(4, vi 0), (3, vi v5), (2, vi q3.1), (0, .ref (gad g 0)), (1, vi x1)]) C 4 dX12_back_24 (by decide) rfl ?_
    obtain ⟨q46, cq46, h⟩ := bdS h
    refine J_sub [3, 4, 1, 0] rfl (wX12_back_L26 C fu x1 h1 v5 hv6 0 rl_0 q3.2 hz4.2 q46 cq46 (fun a47 ea47 => ?_) (fun a48 ea48 => ?_))
    · subst ea47
      have h := elL h
      refine J_bipush C dX12_back_93 (bp8 (by decide) (by decide)) ?_
      have e9 := sE h
      subst e9
      exact J_iret C E ⟨rl_m3, hz4.2⟩ dX12_back_95
    · subst ea48
      have h := elR h
      refine J_iconst C dX12_back_102 ?_
      refine J_istore (lo2 := [(4, vi 0), (0, .ref (gad g 0)), (1, vi x1), (3, vi v5)]) C 4 dX12_back_103 (by decide) rfl ?_
      obtain ⟨q71, cq71, h⟩ := bdS h
      refine J_sub [1, 2, 3, 0] rfl (wX12_back_L105 C fu x1 h1 v5 hv6 0 rl_0 q3.2 hz4.2 q71 cq71 (fun a72 ea72 => ?_) (fun a73 ea73 => ?_))
      · subst ea72
        have h := elL h
        refine J_bipush C dX12_back_148 (bp8 (by decide) (by decide)) ?_
        have e9 := sE h
        subst e9
        exact J_iret C E ⟨rl_m5, hz4.2⟩ dX12_back_150
      · subst ea73
        have h := elR h
        refine J_aload_n C 0 dX12_back_157 rfl 0 rfl ?_
        refine J_aload_n C 0 dX12_back_158 rfl 0 rfl ?_
        refine J_getR C fl_RX12_94 oR_0 rfl dX12_back_159 ?_
        refine J_iload_n C 1 dX12_back_162 rfl 1 rfl ?_
        refine J_iald C aR_29 hz4.2 dX12_back_163 h (fun v74 hv75 h => ?_)
        obtain ⟨q76, cq76, h⟩ := bdS h
        refine J_callV C mw_X12_comes ml_RX12_240 (m_X12_comes x.2.1 g (CxI C) v74 hv75 q3.2 hz4.2 q76 cq76) oR_0 rfl (Nat.le_of_ble_eq_true rfl) (Nat.le_of_ble_eq_true rfl) rfl rfl (Nat.le_of_ble_eq_true rfl) dX12_back_164 (fun hz77 => ?_)
        refine J_iconst C dX12_back_167 ?_
        refine J_istore (lo2 := [(4, vi 0), (0, .ref (gad g 0)), (1, vi x1), (3, vi v5)]) C 4 dX12_back_168 (by decide) rfl ?_
        obtain ⟨q119, cq119, h⟩ := bdS h
        refine J_sub [1, 3, 0] rfl (wX12_back_L170 C fu v5 hv6 0 rl_0 q76 hz77 q119 cq119 (fun hσ120 => ?_))
        refine J_aload_n C 0 dX12_back_263 rfl 0 rfl ?_
        refine J_getI C fl_RX12_159 oR_0 rfl dX12_back_264 ?_
        have e9 := sE h
        subst e9
        exact J_iret C E ⟨(hσ120 0 32 lR_0), hσ120⟩ dX12_back_267
  · refine J_iload_n C 2 dX12_back_15 rfl 0 rfl ?_
    have e9 := sE h
    subst e9
    exact J_iret C E ⟨hz4.1, hz4.2⟩ dX12_back_16
set_option maxRecDepth 100000 in
set_option maxHeartbeats 4000000 in
theorem wX12_toss_L17 {x : Ct} {g : Gm} (C : Cx x yR g 5 cX12_toss RX12 3 63) : ∀ (n : Nat) (x1 : Int) (h1 : rg x1) (x3 : Int) (h3 : rg x3) (x4 : Int) (h4 : rg x4) (σ : Sg) (hσ : wfS yR σ) (q : Int) (h : fX12_toss_L17 n x1 x3 x4 σ = some q) (k : rg q → J x yR g 5 61 [(0, .ref (gad g 0)), (3, vi q)] [] σ), J x yR g 5 17 [(0, .ref (gad g 0)), (1, vi x1), (3, vi x3), (4, vi x4)] [] σ := by
  intro n
  induction n with
  | zero =>
    intro x1 h1 x3 h3 x4 h4 σ hσ q h k
    exact absurd h (by intro z; cases z)
  | succ n ih =>
    intro x1 h1 x3 h3 x4 h4 σ hσ q h k
    rw [fX12_toss_L17] at h
    have pc15 : ∀ (x4 : Int) (h4 : rg x4) (y0 : Int) (g0 : rg y0) (y1 : Int) (g1 : rg y1), fX12_toss_L17P53 (fX12_toss_L17 n) x1 x4 y0 y1 σ = some q → J x yR g 5 53 [(0, .ref (gad g 0)), (1, vi x1), (4, vi x4)] [vi y0, vi y1] σ := by
      intro x4 h4 y0 g0 y1 g1 h
      unfold fX12_toss_L17P53 at h
      refine J_iadd C dX12_toss_53 h (fun v16 hv17 h => ?_)
      refine J_istore_n (lo2 := [(3, vi v16), (0, .ref (gad g 0)), (1, vi x1), (4, vi x4)]) C 3 dX12_toss_54 rfl (by decide) rfl ?_
      refine J_iinc C 4 3 dX12_toss_55 rfl (by decide) h (fun v18 hv19 h => ?_)
      refine J_goto C (tgt := 17) dX12_toss_58 (by decide) ?_
      exact J_sub [2, 3, 1, 0] rfl (ih x1 h1 v16 hv17 v18 hv19 σ hσ q h k)
    refine J_iload C 4 dX12_toss_17 3 rfl ?_
    refine J_aload_n C 0 dX12_toss_19 rfl 0 rfl ?_
    refine J_getR C fl_RX12_94 oR_0 rfl dX12_toss_20 ?_
    refine J_iload_n C 1 dX12_toss_23 rfl 1 rfl ?_
    refine J_iald C aR_29 hσ dX12_toss_24 h (fun v3 hv4 h => ?_)
    refine J_icmp_ge C h4 hv4 (tgt := 61) dX12_toss_25 (by decide) h (fun h c25 => ?_) (fun h c25 => ?_)
    · refine J_iload_n C 3 dX12_toss_28 rfl 2 rfl ?_
      refine J_aload_n C 0 dX12_toss_29 rfl 0 rfl ?_
      refine J_getR C fl_RX12_97 oR_0 rfl dX12_toss_30 ?_
      refine J_iconst C dX12_toss_33 ?_
      refine J_bipush C dX12_toss_34 (bp8 (by decide) (by decide)) ?_
      refine J_iload_n C 1 dX12_toss_36 rfl 1 rfl ?_
      refine J_imul C dX12_toss_37 h (fun v5 hv6 h => ?_)
      refine J_iload C 4 dX12_toss_38 3 rfl ?_
      refine J_iadd C dX12_toss_40 h (fun v7 hv8 h => ?_)
      refine J_imul C dX12_toss_41 h (fun v9 hv10 h => ?_)
      refine J_iconst C dX12_toss_42 ?_
      refine J_iadd C dX12_toss_43 h (fun v11 hv12 h => ?_)
      refine J_iald C aR_30 hσ dX12_toss_44 h (fun v13 hv14 h => ?_)
      refine J_if_ge C hv14 (tgt := 52) dX12_toss_45 (by decide) h (fun h c24 => ?_) (fun h c24 => ?_)
      · refine J_iconst C dX12_toss_48 ?_
        refine J_goto C (tgt := 53) dX12_toss_49 (by decide) ?_
        exact J_sub [0, 1, 3] rfl (pc15 x4 h4 1 rl_1 x3 h3 h)
      · refine J_iconst C dX12_toss_52 ?_
        exact J_sub [0, 1, 3] rfl (pc15 x4 h4 0 rl_0 x3 h3 h)
    · have e9 := sE h
      subst e9
      exact J_sub [0, 2] rfl (k h3)
set_option maxRecDepth 100000 in
set_option maxHeartbeats 4000000 in
theorem m_X12_toss (l : Launch) (g : Gm) (hg : gInj yR g) (x1 : Int) (h1 : rg x1) (σ : Sg) (hσ : wfS yR σ) (q : Int × Sg) (h : fX12_toss x1 σ = some q) : CJ l yR g yX12_toss cX12_toss 5 (some .int) 3 63 [.ref (gad g 0), vi x1] σ (some (vi q.1)) q.2 ((rg q.1) ∧ wfS yR q.2) := by
  refine CJ_of hg (by decide) rfl (Nat.le_of_ble_eq_true rfl) (lo := [(0, .ref (gad g 0)), (1, vi x1)]) rfl (fun x C E => ?_)
  unfold fX12_toss at h
  refine J_aload_n C 0 dX12_toss_0 rfl 0 rfl ?_
  refine J_iload_n C 1 dX12_toss_1 rfl 1 rfl ?_
  obtain ⟨q1, cq1, h⟩ := bdS h
  refine J_callV C mw_X12_wrongShow ml_RX12_308 (m_X12_wrongShow x.2.1 g (CxI C) x1 h1 σ hσ q1 cq1) oR_0 rfl (Nat.le_of_ble_eq_true rfl) (Nat.le_of_ble_eq_true rfl) rfl rfl (Nat.le_of_ble_eq_true rfl) dX12_toss_2 (fun hz2 => ?_)
  refine J_istore_n (lo2 := [(2, vi q1.1), (0, .ref (gad g 0)), (1, vi x1)]) C 2 dX12_toss_5 rfl (by decide) rfl ?_
  refine J_iload_n C 2 dX12_toss_6 rfl 0 rfl ?_
  refine J_if_eq C hz2.1 (tgt := 12) dX12_toss_7 (by decide) h (fun h c31 => ?_) (fun h c31 => ?_)
  · refine J_iconst C dX12_toss_12 ?_
    refine J_istore_n (lo2 := [(3, vi 0), (2, vi q1.1), (0, .ref (gad g 0)), (1, vi x1)]) C 3 dX12_toss_13 rfl (by decide) rfl ?_
    refine J_iconst C dX12_toss_14 ?_
    refine J_istore (lo2 := [(4, vi 0), (3, vi 0), (2, vi q1.1), (0, .ref (gad g 0)), (1, vi x1)]) C 4 dX12_toss_15 (by decide) rfl ?_
    obtain ⟨q26, cq26, h⟩ := bdS h
    refine J_sub [3, 4, 1, 0] rfl (wX12_toss_L17 C fu x1 h1 0 rl_0 0 rl_0 q1.2 hz2.2 q26 cq26 (fun hr27 => ?_))
    refine J_iload_n C 3 dX12_toss_61 rfl 1 rfl ?_
    refine J_if_ne C hr27 (tgt := 74) dX12_toss_62 (by decide) h (fun h c30 => ?_) (fun h c30 => ?_)
    · refine J_aload_n C 0 dX12_toss_65 rfl 0 rfl ?_
      refine J_bipush C dX12_toss_66 (bp8 (by decide) (by decide)) ?_
      obtain ⟨q28, cq28, h⟩ := bdS h
      refine J_callV C mw_X12_host ml_RX12_228 (m_X12_host x.2.1 g (CxI C) (-15) rl_m15 q1.2 hz2.2 q28 cq28) oR_0 rfl (Nat.le_of_ble_eq_true rfl) (Nat.le_of_ble_eq_true rfl) rfl rfl (Nat.le_of_ble_eq_true rfl) dX12_toss_68 (fun hz29 => ?_)
      refine J_goto C (tgt := 75) dX12_toss_71 (by decide) ?_
      have e9 := sE h
      subst e9
      exact J_iret C E ⟨hz29.1, hz29.2⟩ dX12_toss_75
    · refine J_iload_n C 3 dX12_toss_74 rfl 1 rfl ?_
      have e9 := sE h
      subst e9
      exact J_iret C E ⟨hr27, hz2.2⟩ dX12_toss_75
  · refine J_iload_n C 2 dX12_toss_10 rfl 0 rfl ?_
    have e9 := sE h
    subst e9
    exact J_iret C E ⟨hz2.1, hz2.2⟩ dX12_toss_11
set_option maxRecDepth 100000 in
set_option maxHeartbeats 4000000 in
theorem m_X12_clear (l : Launch) (g : Gm) (hg : gInj yR g) (x1 : Int) (h1 : rg x1) (σ : Sg) (hσ : wfS yR σ) (q : Int × Sg) (h : fX12_clear x1 σ = some q) : CJ l yR g yX12_clear cX12_clear 3 (some .int) 2 42 [.ref (gad g 0), vi x1] σ (some (vi q.1)) q.2 ((rg q.1) ∧ wfS yR q.2) := by
  refine CJ_of hg (by decide) rfl (Nat.le_of_ble_eq_true rfl) (lo := [(0, .ref (gad g 0)), (1, vi x1)]) rfl (fun x C E => ?_)
  unfold fX12_clear at h
  refine J_iload_n C 1 dX12_clear_0 rfl 1 rfl ?_
  obtain ⟨q1, cq1, h⟩ := bdS h
  refine J_callS C mw_X12_isTape ml_RX12_231 (m_X12_isTape x.2.1 g (CxI C) x1 h1 σ hσ q1 cq1) (Nat.le_of_ble_eq_true rfl) (Nat.le_of_ble_eq_true rfl) rfl rfl (Nat.le_of_ble_eq_true rfl) dX12_clear_1 (fun hz2 => ?_)
  refine J_if_ne C (rg01 hz2) (tgt := 9) dX12_clear_4 (by decide) h (fun h c9 => ?_) (fun h c9 => ?_)
  · refine J_iconst C dX12_clear_7 ?_
    have e9 := sE h
    subst e9
    exact J_iret C E ⟨rl_m1, hσ⟩ dX12_clear_8
  · refine J_aload_n C 0 dX12_clear_9 rfl 0 rfl ?_
    refine J_getR C fl_RX12_91 oR_0 rfl dX12_clear_10 ?_
    refine J_iload_n C 1 dX12_clear_13 rfl 1 rfl ?_
    refine J_iald C aR_28 hσ dX12_clear_14 h (fun v3 hv4 h => ?_)
    refine J_istore_n (lo2 := [(2, vi v3), (0, .ref (gad g 0)), (1, vi x1)]) C 2 dX12_clear_15 rfl (by decide) rfl ?_
    refine J_aload_n C 0 dX12_clear_16 rfl 1 rfl ?_
    refine J_getR C fl_RX12_91 oR_0 rfl dX12_clear_17 ?_
    refine J_iload_n C 1 dX12_clear_20 rfl 2 rfl ?_
    refine J_iconst C dX12_clear_21 ?_
    refine J_iast C aR_28 hσ rl_0 dX12_clear_22 h (fun σ5 hσ6 h => ?_)
    refine J_aload_n C 0 dX12_clear_23 rfl 1 rfl ?_
    refine J_getR C fl_RX12_94 oR_0 rfl dX12_clear_24 ?_
    refine J_iload_n C 1 dX12_clear_27 rfl 2 rfl ?_
    refine J_iconst C dX12_clear_28 ?_
    refine J_iast C aR_29 hσ6 rl_0 dX12_clear_29 h (fun σ7 hσ8 h => ?_)
    refine J_iload_n C 2 dX12_clear_30 rfl 0 rfl ?_
    have e9 := sE h
    subst e9
    exact J_iret C E ⟨hv4, hσ8⟩ dX12_clear_31
set_option maxRecDepth 100000 in
set_option maxHeartbeats 4000000 in
theorem m_X12_narrow (l : Launch) (g : Gm) (hg : gInj yR g) (x0 : Int) (h0 : rg x0) (x1 : Int) (σ : Sg) (hσ : wfS yR σ) (q : Int) (h : fX12_narrow x0 x1 σ = some q) : CJ l yR g yX12_narrow cX12_narrow 3 (some .long) 0 0 [vi x0, vl x1] σ (some (vl q)) σ (True) := by
  refine CJ_of hg (by decide) rfl (Nat.le_of_ble_eq_true rfl) (lo := [(0, vi x0), (1, vl x1)]) rfl (fun x C E => ?_)
  unfold fX12_narrow at h
  refine J_iload_n C 0 dX12_narrow_0 rfl 0 rfl ?_
  refine J_iconst C dX12_narrow_1 ?_
  refine J_icmp_ne C h0 rl_1 (tgt := 12) dX12_narrow_2 (by decide) h (fun h c3 => ?_) (fun h c3 => ?_)
  · refine J_lload_n C 1 dX12_narrow_5 rfl 1 rfl ?_
    refine J_l2i C dX12_narrow_6 ?_
    refine J_i2b C dX12_narrow_7 ?_
    refine J_i2l C (rg_toInt _) dX12_narrow_8 ?_
    refine J_goto C (tgt := 36) dX12_narrow_9 (by decide) ?_
    have e9 := sE h
    subst e9
    exact J_lret C E trivial dX12_narrow_36
  · refine J_iload_n C 0 dX12_narrow_12 rfl 0 rfl ?_
    refine J_iconst C dX12_narrow_13 ?_
    refine J_icmp_ne C h0 rl_2 (tgt := 24) dX12_narrow_14 (by decide) h (fun h c2 => ?_) (fun h c2 => ?_)
    · refine J_lload_n C 1 dX12_narrow_17 rfl 1 rfl ?_
      refine J_l2i C dX12_narrow_18 ?_
      refine J_i2s C dX12_narrow_19 ?_
      refine J_i2l C (rg_toInt _) dX12_narrow_20 ?_
      refine J_goto C (tgt := 36) dX12_narrow_21 (by decide) ?_
      have e9 := sE h
      subst e9
      exact J_lret C E trivial dX12_narrow_36
    · refine J_iload_n C 0 dX12_narrow_24 rfl 0 rfl ?_
      refine J_iconst C dX12_narrow_25 ?_
      refine J_icmp_ne C h0 rl_3 (tgt := 35) dX12_narrow_26 (by decide) h (fun h c1 => ?_) (fun h c1 => ?_)
      · refine J_lload_n C 1 dX12_narrow_29 rfl 1 rfl ?_
        refine J_l2i C dX12_narrow_30 ?_
        refine J_i2l C (rg_toInt _) dX12_narrow_31 ?_
        refine J_goto C (tgt := 36) dX12_narrow_32 (by decide) ?_
        have e9 := sE h
        subst e9
        exact J_lret C E trivial dX12_narrow_36
      · refine J_lload_n C 1 dX12_narrow_35 rfl 1 rfl ?_
        have e9 := sE h
        subst e9
        exact J_lret C E trivial dX12_narrow_36
set_option maxRecDepth 100000 in
set_option maxHeartbeats 4000000 in
theorem m_X12_put (l : Launch) (g : Gm) (hg : gInj yR g) (x1 : Int) (h1 : rg x1) (x2 : Int) (h2 : rg x2) (x3 : Int) (σ : Sg) (hσ : wfS yR σ) (q : Int × Sg) (h : fX12_put x1 x2 x3 σ = some q) : CJ l yR g yX12_put cX12_put 5 (some .int) 2 42 [.ref (gad g 0), vi x1, vi x2, vl x3] σ (some (vi q.1)) q.2 ((rg q.1) ∧ wfS yR q.2) := by
  refine CJ_of hg (by decide) rfl (Nat.le_of_ble_eq_true rfl) (lo := [(0, .ref (gad g 0)), (1, vi x1), (2, vi x2), (3, vl x3)]) rfl (fun x C E => ?_)
  unfold fX12_put at h
  refine J_iload_n C 1 dX12_put_0 rfl 1 rfl ?_
  obtain ⟨q1, cq1, h⟩ := bdS h
  refine J_callS C mw_X12_isTape ml_RX12_231 (m_X12_isTape x.2.1 g (CxI C) x1 h1 σ hσ q1 cq1) (Nat.le_of_ble_eq_true rfl) (Nat.le_of_ble_eq_true rfl) rfl rfl (Nat.le_of_ble_eq_true rfl) dX12_put_1 (fun hz2 => ?_)
  refine J_if_ne C (rg01 hz2) (tgt := 9) dX12_put_4 (by decide) h (fun h c32 => ?_) (fun h c32 => ?_)
  · refine J_iconst C dX12_put_7 ?_
    have e9 := sE h
    subst e9
    exact J_iret C E ⟨rl_m1, hσ⟩ dX12_put_8
  · refine J_aload_n C 0 dX12_put_9 rfl 0 rfl ?_
    refine J_getR C fl_RX12_91 oR_0 rfl dX12_put_10 ?_
    refine J_iload_n C 1 dX12_put_13 rfl 1 rfl ?_
    refine J_iald C aR_28 hσ dX12_put_14 h (fun v3 hv4 h => ?_)
    refine J_if_ne C hv4 (tgt := 25) dX12_put_15 (by decide) h (fun h c31 => ?_) (fun h c31 => ?_)
    · refine J_aload_n C 0 dX12_put_18 rfl 0 rfl ?_
      refine J_bipush C dX12_put_19 (bp8 (by decide) (by decide)) ?_
      obtain ⟨q29, cq29, h⟩ := bdS h
      refine J_callV C mw_X12_host ml_RX12_228 (m_X12_host x.2.1 g (CxI C) (-11) rl_m11 σ hσ q29 cq29) oR_0 rfl (Nat.le_of_ble_eq_true rfl) (Nat.le_of_ble_eq_true rfl) rfl rfl (Nat.le_of_ble_eq_true rfl) dX12_put_21 (fun hz30 => ?_)
      have e9 := sE h
      subst e9
      exact J_iret C E ⟨hz30.1, hz30.2⟩ dX12_put_24
    · refine J_aload_n C 0 dX12_put_25 rfl 0 rfl ?_
      refine J_getR C fl_RX12_91 oR_0 rfl dX12_put_26 ?_
      refine J_iload_n C 1 dX12_put_29 rfl 1 rfl ?_
      refine J_iald C aR_28 hσ dX12_put_30 h (fun v5 hv6 h => ?_)
      refine J_iconst C dX12_put_31 ?_
      refine J_icmp_ne C hv6 rl_5 (tgt := 42) dX12_put_32 (by decide) h (fun h c28 => ?_) (fun h c28 => ?_)
      · refine J_aload_n C 0 dX12_put_35 rfl 0 rfl ?_
        refine J_bipush C dX12_put_36 (bp8 (by decide) (by decide)) ?_
        obtain ⟨q26, cq26, h⟩ := bdS h
        refine J_callV C mw_X12_host ml_RX12_228 (m_X12_host x.2.1 g (CxI C) (-12) rl_m12 σ hσ q26 cq26) oR_0 rfl (Nat.le_of_ble_eq_true rfl) (Nat.le_of_ble_eq_true rfl) rfl rfl (Nat.le_of_ble_eq_true rfl) dX12_put_38 (fun hz27 => ?_)
        have e9 := sE h
        subst e9
        exact J_iret C E ⟨hz27.1, hz27.2⟩ dX12_put_41
      · refine J_iload_n C 2 dX12_put_42 rfl 2 rfl ?_
        refine J_iconst C dX12_put_43 ?_
        refine J_aload_n C 0 dX12_put_44 rfl 0 rfl ?_
        refine J_getR C fl_RX12_94 oR_0 rfl dX12_put_45 ?_
        refine J_iload_n C 1 dX12_put_48 rfl 1 rfl ?_
        refine J_iald C aR_29 hσ dX12_put_49 h (fun v7 hv8 h => ?_)
        refine J_iconst C dX12_put_50 ?_
        refine J_isub C dX12_put_51 h (fun v9 hv10 h => ?_)
        obtain ⟨q11, cq11, h⟩ := bdS h
        refine J_callS C mw_X12_isIn ml_RX12_177 (m_X12_isIn x.2.1 g (CxI C) x2 h2 0 rl_0 v9 hv10 σ hσ q11 cq11) (Nat.le_of_ble_eq_true rfl) (Nat.le_of_ble_eq_true rfl) rfl rfl (Nat.le_of_ble_eq_true rfl) dX12_put_52 (fun hz12 => ?_)
        refine J_if_ne C (rg01 hz12) (tgt := 65) dX12_put_55 (by decide) h (fun h c25 => ?_) (fun h c25 => ?_)
        · refine J_aload_n C 0 dX12_put_58 rfl 0 rfl ?_
          refine J_bipush C dX12_put_59 (bp8 (by decide) (by decide)) ?_
          obtain ⟨q23, cq23, h⟩ := bdS h
          refine J_callV C mw_X12_host ml_RX12_228 (m_X12_host x.2.1 g (CxI C) (-13) rl_m13 σ hσ q23 cq23) oR_0 rfl (Nat.le_of_ble_eq_true rfl) (Nat.le_of_ble_eq_true rfl) rfl rfl (Nat.le_of_ble_eq_true rfl) dX12_put_61 (fun hz24 => ?_)
          have e9 := sE h
          subst e9
          exact J_iret C E ⟨hz24.1, hz24.2⟩ dX12_put_64
        · refine J_aload_n C 0 dX12_put_65 rfl 0 rfl ?_
          refine J_getR C fl_RX12_100 oR_0 rfl dX12_put_66 ?_
          refine J_bipush C dX12_put_69 (bp8 (by decide) (by decide)) ?_
          refine J_iload_n C 1 dX12_put_71 rfl 1 rfl ?_
          refine J_imul C dX12_put_72 h (fun v13 hv14 h => ?_)
          refine J_iload_n C 2 dX12_put_73 rfl 2 rfl ?_
          refine J_iadd C dX12_put_74 h (fun v15 hv16 h => ?_)
          refine J_aload_n C 0 dX12_put_75 rfl 0 rfl ?_
          refine J_getR C fl_RX12_91 oR_0 rfl dX12_put_76 ?_
          refine J_iload_n C 1 dX12_put_79 rfl 1 rfl ?_
          refine J_iald C aR_28 hσ dX12_put_80 h (fun v17 hv18 h => ?_)
          refine J_lload_n C 3 dX12_put_81 rfl 3 rfl ?_
          obtain ⟨q19, cq19, h⟩ := bdS h
          refine J_callS C mw_X12_narrow ml_RX12_311 (m_X12_narrow x.2.1 g (CxI C) v17 hv18 x3 σ hσ q19 cq19) (Nat.le_of_ble_eq_true rfl) (Nat.le_of_ble_eq_true rfl) rfl rfl (Nat.le_of_ble_eq_true rfl) dX12_put_82 (fun hz20 => ?_)
          refine J_last C aR_31 hσ dX12_put_85 h (fun σ21 hσ22 h => ?_)
          refine J_iconst C dX12_put_86 ?_
          have e9 := sE h
          subst e9
          exact J_iret C E ⟨rl_1, hσ22⟩ dX12_put_87
set_option maxRecDepth 100000 in
set_option maxHeartbeats 4000000 in
theorem m_X12_at (l : Launch) (g : Gm) (hg : gInj yR g) (x1 : Int) (h1 : rg x1) (x2 : Int) (h2 : rg x2) (σ : Sg) (hσ : wfS yR σ) (q : Int × Sg) (h : fX12_at x1 x2 σ = some q) : CJ l yR g yX12_at cX12_at 3 (some .long) 2 42 [.ref (gad g 0), vi x1, vi x2] σ (some (vl q.1)) q.2 ((True) ∧ wfS yR q.2) := by
  refine CJ_of hg (by decide) rfl (Nat.le_of_ble_eq_true rfl) (lo := [(0, .ref (gad g 0)), (1, vi x1), (2, vi x2)]) rfl (fun x C E => ?_)
  unfold fX12_at at h
  have pc10 : ∀  (σ : Sg) (hσ : wfS yR σ), fX12_at_P60 x1 x2 σ = some q → J x yR g 3 60 [(0, .ref (gad g 0)), (1, vi x1), (2, vi x2)] [] σ := by
    intro  σ hσ h
    unfold fX12_at_P60 at h
    refine J_aload_n C 0 dX12_at_60 rfl 0 rfl ?_
    refine J_getI C fl_RX12_148 oR_0 rfl dX12_at_61 ?_
    refine J_if_ne C (hσ 0 38 lR_0) (tgt := 81) dX12_at_64 (by decide) h (fun h c17 => ?_) (fun h c17 => ?_)
    · refine J_aload_n C 0 dX12_at_67 rfl 0 rfl ?_
      refine J_getR C fl_RX12_100 oR_0 rfl dX12_at_68 ?_
      refine J_bipush C dX12_at_71 (bp8 (by decide) (by decide)) ?_
      refine J_iload_n C 1 dX12_at_73 rfl 1 rfl ?_
      refine J_imul C dX12_at_74 h (fun v11 hv12 h => ?_)
      refine J_iload_n C 2 dX12_at_75 rfl 2 rfl ?_
      refine J_iadd C dX12_at_76 h (fun v13 hv14 h => ?_)
      refine J_lald C aR_31 dX12_at_77 h (fun v15 h => ?_)
      refine J_goto C (tgt := 82) dX12_at_78 (by decide) ?_
      have e9 := sE h
      subst e9
      exact J_lret C E ⟨trivial, hσ⟩ dX12_at_82
    · refine J_lconst0 C dX12_at_81 ?_
      have e9 := sE h
      subst e9
      exact J_lret C E ⟨trivial, hσ⟩ dX12_at_82
  have pc7 : ∀  (σ : Sg) (hσ : wfS yR σ), fX12_at_P55 x1 x2 σ = some q → J x yR g 3 55 [(0, .ref (gad g 0)), (1, vi x1), (2, vi x2)] [] σ := by
    intro  σ hσ h
    unfold fX12_at_P55 at h
    refine J_aload_n C 0 dX12_at_55 rfl 0 rfl ?_
    refine J_iconst C dX12_at_56 ?_
    refine J_putI C fl_RX12_148 fp_RX12_38 oR_0 rfl rfl lR_0 hσ rl_2 dX12_at_57 h (fun σ8 hσ9 h => ?_)
    exact J_sub [0, 1, 2] rfl (pc10 σ8 hσ9 h)
  refine J_aload_n C 0 dX12_at_0 rfl 0 rfl ?_
  refine J_iconst C dX12_at_1 ?_
  refine J_putI C fl_RX12_148 fp_RX12_38 oR_0 rfl rfl lR_0 hσ rl_0 dX12_at_2 h (fun σ1 hσ2 h => ?_)
  refine J_iload_n C 1 dX12_at_5 rfl 1 rfl ?_
  obtain ⟨q3, cq3, h⟩ := bdS h
  refine J_callS C mw_X12_isTape ml_RX12_231 (m_X12_isTape x.2.1 g (CxI C) x1 h1 σ1 hσ2 q3 cq3) (Nat.le_of_ble_eq_true rfl) (Nat.le_of_ble_eq_true rfl) rfl rfl (Nat.le_of_ble_eq_true rfl) dX12_at_6 (fun hz4 => ?_)
  refine J_if_ne C (rg01 hz4) (tgt := 20) dX12_at_9 (by decide) h (fun h c40 => ?_) (fun h c40 => ?_)
  · refine J_aload_n C 0 dX12_at_12 rfl 0 rfl ?_
    refine J_iconst C dX12_at_13 ?_
    refine J_putI C fl_RX12_148 fp_RX12_38 oR_0 rfl rfl lR_0 hσ2 rl_1 dX12_at_14 h (fun σ38 hσ39 h => ?_)
    refine J_goto C (tgt := 60) dX12_at_17 (by decide) ?_
    exact J_sub [0, 1, 2] rfl (pc10 σ38 hσ39 h)
  · refine J_aload_n C 0 dX12_at_20 rfl 0 rfl ?_
    refine J_getR C fl_RX12_91 oR_0 rfl dX12_at_21 ?_
    refine J_iload_n C 1 dX12_at_24 rfl 1 rfl ?_
    refine J_iald C aR_28 hσ2 dX12_at_25 h (fun v5 hv6 h => ?_)
    refine J_if_eq C hv6 (tgt := 55) dX12_at_26 (by decide) h (fun h c37 => ?_) (fun h c37 => ?_)
    · exact J_sub [0, 1, 2] rfl (pc7 σ1 hσ2 h)
    · refine J_aload_n C 0 dX12_at_29 rfl 0 rfl ?_
      refine J_getR C fl_RX12_91 oR_0 rfl dX12_at_30 ?_
      refine J_iload_n C 1 dX12_at_33 rfl 1 rfl ?_
      refine J_iald C aR_28 hσ2 dX12_at_34 h (fun v27 hv28 h => ?_)
      refine J_iconst C dX12_at_35 ?_
      refine J_icmp_eq C hv28 rl_5 (tgt := 55) dX12_at_36 (by decide) h (fun h c36 => ?_) (fun h c36 => ?_)
      · exact J_sub [0, 1, 2] rfl (pc7 σ1 hσ2 h)
      · refine J_iload_n C 2 dX12_at_39 rfl 2 rfl ?_
        refine J_iconst C dX12_at_40 ?_
        refine J_aload_n C 0 dX12_at_41 rfl 0 rfl ?_
        refine J_getR C fl_RX12_94 oR_0 rfl dX12_at_42 ?_
        refine J_iload_n C 1 dX12_at_45 rfl 1 rfl ?_
        refine J_iald C aR_29 hσ2 dX12_at_46 h (fun v29 hv30 h => ?_)
        refine J_iconst C dX12_at_47 ?_
        refine J_isub C dX12_at_48 h (fun v31 hv32 h => ?_)
        obtain ⟨q33, cq33, h⟩ := bdS h
        refine J_callS C mw_X12_isIn ml_RX12_177 (m_X12_isIn x.2.1 g (CxI C) x2 h2 0 rl_0 v31 hv32 σ1 hσ2 q33 cq33) (Nat.le_of_ble_eq_true rfl) (Nat.le_of_ble_eq_true rfl) rfl rfl (Nat.le_of_ble_eq_true rfl) dX12_at_49 (fun hz34 => ?_)
        refine J_if_ne C (rg01 hz34) (tgt := 60) dX12_at_52 (by decide) h (fun h c35 => ?_) (fun h c35 => ?_)
        · exact J_sub [0, 1, 2] rfl (pc7 σ1 hσ2 h)
        · exact J_sub [0, 1, 2] rfl (pc10 σ1 hσ2 h)
set_option maxRecDepth 100000 in
set_option maxHeartbeats 4000000 in
theorem wX12_copy_L124 {x : Ct} {g : Gm} (C : Cx x yR g 8 cX12_copy RX12 2 42) : ∀ (n : Nat) (x1 : Int) (h1 : rg x1) (x2 : Int) (h2 : rg x2) (x3 : Int) (h3 : rg x3) (x4 : Int) (h4 : rg x4) (x5 : Int) (h5 : rg x5) (x6 : Int) (h6 : rg x6) (σ : Sg) (hσ : wfS yR σ) (q : Sg) (h : fX12_copy_L124 n x1 x2 x3 x4 x5 x6 σ = some q) (k : wfS yR q → J x yR g 8 186 [(5, vi x5)] [] q), J x yR g 8 124 [(0, .ref (gad g 0)), (1, vi x1), (2, vi x2), (3, vi x3), (4, vi x4), (5, vi x5), (6, vi x6)] [] σ := by
  intro n
  induction n with
  | zero =>
    intro x1 h1 x2 h2 x3 h3 x4 h4 x5 h5 x6 h6 σ hσ q h k
    exact absurd h (by intro z; cases z)
  | succ n ih =>
    intro x1 h1 x2 h2 x3 h3 x4 h4 x5 h5 x6 h6 σ hσ q h k
    rw [fX12_copy_L124] at h
    have pc42 : ∀ (x6 : Int) (h6 : rg x6) (y0 : Int) (g0 : rg y0) (σ : Sg) (hσ : wfS yR σ), fX12_copy_L124P149 (fX12_copy_L124 n) x1 x2 x3 x4 x5 x6 y0 σ = some q → J x yR g 8 149 [(0, .ref (gad g 0)), (1, vi x1), (2, vi x2), (3, vi x3), (4, vi x4), (5, vi x5), (6, vi x6)] [vi y0] σ := by
      intro x6 h6 y0 g0 σ hσ h
      unfold fX12_copy_L124P149 at h
      refine J_istore (lo2 := [(7, vi y0), (0, .ref (gad g 0)), (1, vi x1), (2, vi x2), (3, vi x3), (4, vi x4), (5, vi x5), (6, vi x6)]) C 7 dX12_copy_149 (by decide) rfl ?_
      refine J_aload_n C 0 dX12_copy_151 rfl 1 rfl ?_
      refine J_getR C fl_RX12_100 oR_0 rfl dX12_copy_152 ?_
      refine J_bipush C dX12_copy_155 (bp8 (by decide) (by decide)) ?_
      refine J_iload_n C 3 dX12_copy_157 rfl 4 rfl ?_
      refine J_imul C dX12_copy_158 h (fun v43 hv44 h => ?_)
      refine J_iload C 4 dX12_copy_159 5 rfl ?_
      refine J_iadd C dX12_copy_161 h (fun v45 hv46 h => ?_)
      refine J_iload C 7 dX12_copy_162 0 rfl ?_
      refine J_iadd C dX12_copy_164 h (fun v47 hv48 h => ?_)
      refine J_aload_n C 0 dX12_copy_165 rfl 1 rfl ?_
      refine J_getR C fl_RX12_100 oR_0 rfl dX12_copy_166 ?_
      refine J_bipush C dX12_copy_169 (bp8 (by decide) (by decide)) ?_
      refine J_iload_n C 1 dX12_copy_171 rfl 2 rfl ?_
      refine J_imul C dX12_copy_172 h (fun v49 hv50 h => ?_)
      refine J_iload_n C 2 dX12_copy_173 rfl 3 rfl ?_
      refine J_iadd C dX12_copy_174 h (fun v51 hv52 h => ?_)
      refine J_iload C 7 dX12_copy_175 0 rfl ?_
      refine J_iadd C dX12_copy_177 h (fun v53 hv54 h => ?_)
      refine J_lald C aR_31 dX12_copy_178 h (fun v55 h => ?_)
      refine J_last C aR_31 hσ dX12_copy_179 h (fun σ57 hσ58 h => ?_)
      refine J_iinc C 6 7 dX12_copy_180 rfl (by decide) h (fun v59 hv60 h => ?_)
      refine J_goto C (tgt := 124) dX12_copy_183 (by decide) ?_
      exact J_sub [2, 3, 4, 5, 6, 7, 0] rfl (ih x1 h1 x2 h2 x3 h3 x4 h4 x5 h5 v59 hv60 σ57 hσ58 q h k)
    refine J_iload C 6 dX12_copy_124 6 rfl ?_
    refine J_iload C 5 dX12_copy_126 5 rfl ?_
    refine J_icmp_ge C h6 h5 (tgt := 186) dX12_copy_128 (by decide) h (fun h c80 => ?_) (fun h c80 => ?_)
    · refine J_iload_n C 2 dX12_copy_131 rfl 2 rfl ?_
      refine J_iload C 4 dX12_copy_132 4 rfl ?_
      refine J_icmp_le C h2 h4 (tgt := 142) dX12_copy_134 (by decide) h (fun h c79 => ?_) (fun h c79 => ?_)
      · refine J_iload C 5 dX12_copy_142 5 rfl ?_
        refine J_iconst C dX12_copy_144 ?_
        refine J_isub C dX12_copy_145 h (fun v38 hv39 h => ?_)
        refine J_iload C 6 dX12_copy_146 6 rfl ?_
        refine J_isub C dX12_copy_148 h (fun v40 hv41 h => ?_)
        exact J_sub [0, 1, 2, 3, 4, 5, 6] rfl (pc42 x6 h6 v40 hv41 σ hσ h)
      · refine J_iload C 6 dX12_copy_137 6 rfl ?_
        refine J_goto C (tgt := 149) dX12_copy_139 (by decide) ?_
        exact J_sub [0, 1, 2, 3, 4, 5, 6] rfl (pc42 x6 h6 x6 h6 σ hσ h)
    · have e9 := sE h
      subst e9
      exact J_sub [5] rfl (k hσ)
set_option maxRecDepth 100000 in
set_option maxHeartbeats 4000000 in
theorem m_X12_copy (l : Launch) (g : Gm) (hg : gInj yR g) (x1 : Int) (h1 : rg x1) (x2 : Int) (h2 : rg x2) (x3 : Int) (h3 : rg x3) (x4 : Int) (h4 : rg x4) (x5 : Int) (h5 : rg x5) (σ : Sg) (hσ : wfS yR σ) (q : Int × Sg) (h : fX12_copy x1 x2 x3 x4 x5 σ = some q) : CJ l yR g yX12_copy cX12_copy 8 (some .int) 2 42 [.ref (gad g 0), vi x1, vi x2, vi x3, vi x4, vi x5] σ (some (vi q.1)) q.2 ((rg q.1) ∧ wfS yR q.2) := by
  refine CJ_of hg (by decide) rfl (Nat.le_of_ble_eq_true rfl) (lo := [(0, .ref (gad g 0)), (1, vi x1), (2, vi x2), (3, vi x3), (4, vi x4), (5, vi x5)]) rfl (fun x C E => ?_)
  unfold fX12_copy at h
  have pc7 : ∀  (σ : Sg) (hσ : wfS yR σ), fX12_copy_P34  σ = some q → J x yR g 8 34 [(0, .ref (gad g 0))] [] σ := by
    intro  σ hσ h
    unfold fX12_copy_P34 at h
    refine J_aload_n C 0 dX12_copy_34 rfl 0 rfl ?_
    refine J_bipush C dX12_copy_35 (bp8 (by decide) (by decide)) ?_
    obtain ⟨q8, cq8, h⟩ := bdS h
    refine J_callV C mw_X12_host ml_RX12_228 (m_X12_host x.2.1 g (CxI C) (-11) rl_m11 σ hσ q8 cq8) oR_0 rfl (Nat.le_of_ble_eq_true rfl) (Nat.le_of_ble_eq_true rfl) rfl rfl (Nat.le_of_ble_eq_true rfl) dX12_copy_37 (fun hz9 => ?_)
    have e9 := sE h
    subst e9
    exact J_iret C E ⟨hz9.1, hz9.2⟩ dX12_copy_40
  have pc16 : ∀  (σ : Sg) (hσ : wfS yR σ), fX12_copy_P66  σ = some q → J x yR g 8 66 [(0, .ref (gad g 0))] [] σ := by
    intro  σ hσ h
    unfold fX12_copy_P66 at h
    refine J_aload_n C 0 dX12_copy_66 rfl 0 rfl ?_
    refine J_bipush C dX12_copy_67 (bp8 (by decide) (by decide)) ?_
    obtain ⟨q17, cq17, h⟩ := bdS h
    refine J_callV C mw_X12_host ml_RX12_228 (m_X12_host x.2.1 g (CxI C) (-12) rl_m12 σ hσ q17 cq17) oR_0 rfl (Nat.le_of_ble_eq_true rfl) (Nat.le_of_ble_eq_true rfl) rfl rfl (Nat.le_of_ble_eq_true rfl) dX12_copy_69 (fun hz18 => ?_)
    have e9 := sE h
    subst e9
    exact J_iret C E ⟨hz18.1, hz18.2⟩ dX12_copy_72
  have pc25 : ∀  (σ : Sg) (hσ : wfS yR σ), fX12_copy_P114  σ = some q → J x yR g 8 114 [(0, .ref (gad g 0))] [] σ := by
    intro  σ hσ h
    unfold fX12_copy_P114 at h
    refine J_aload_n C 0 dX12_copy_114 rfl 0 rfl ?_
    refine J_bipush C dX12_copy_115 (bp8 (by decide) (by decide)) ?_
    obtain ⟨q26, cq26, h⟩ := bdS h
    refine J_callV C mw_X12_host ml_RX12_228 (m_X12_host x.2.1 g (CxI C) (-13) rl_m13 σ hσ q26 cq26) oR_0 rfl (Nat.le_of_ble_eq_true rfl) (Nat.le_of_ble_eq_true rfl) rfl rfl (Nat.le_of_ble_eq_true rfl) dX12_copy_117 (fun hz27 => ?_)
    have e9 := sE h
    subst e9
    exact J_iret C E ⟨hz27.1, hz27.2⟩ dX12_copy_120
  refine J_iload_n C 1 dX12_copy_0 rfl 1 rfl ?_
  obtain ⟨q1, cq1, h⟩ := bdS h
  refine J_callS C mw_X12_isTape ml_RX12_231 (m_X12_isTape x.2.1 g (CxI C) x1 h1 σ hσ q1 cq1) (Nat.le_of_ble_eq_true rfl) (Nat.le_of_ble_eq_true rfl) rfl rfl (Nat.le_of_ble_eq_true rfl) dX12_copy_1 (fun hz2 => ?_)
  refine J_if_eq C (rg01 hz2) (tgt := 14) dX12_copy_4 (by decide) h (fun h c93 => ?_) (fun h c93 => ?_)
  · refine J_iconst C dX12_copy_14 ?_
    have e9 := sE h
    subst e9
    exact J_iret C E ⟨rl_m1, hσ⟩ dX12_copy_15
  · refine J_iload_n C 3 dX12_copy_7 rfl 3 rfl ?_
    obtain ⟨q3, cq3, h⟩ := bdS h
    refine J_callS C mw_X12_isTape ml_RX12_231 (m_X12_isTape x.2.1 g (CxI C) x3 h3 σ hσ q3 cq3) (Nat.le_of_ble_eq_true rfl) (Nat.le_of_ble_eq_true rfl) rfl rfl (Nat.le_of_ble_eq_true rfl) dX12_copy_8 (fun hz4 => ?_)
    refine J_if_ne C (rg01 hz4) (tgt := 16) dX12_copy_11 (by decide) h (fun h c92 => ?_) (fun h c92 => ?_)
    · refine J_iconst C dX12_copy_14 ?_
      have e9 := sE h
      subst e9
      exact J_iret C E ⟨rl_m1, hσ⟩ dX12_copy_15
    · refine J_aload_n C 0 dX12_copy_16 rfl 0 rfl ?_
      refine J_getR C fl_RX12_91 oR_0 rfl dX12_copy_17 ?_
      refine J_iload_n C 1 dX12_copy_20 rfl 1 rfl ?_
      refine J_iald C aR_28 hσ dX12_copy_21 h (fun v5 hv6 h => ?_)
      refine J_if_eq C hv6 (tgt := 34) dX12_copy_22 (by decide) h (fun h c91 => ?_) (fun h c91 => ?_)
      · exact J_sub [0] rfl (pc7 σ hσ h)
      · refine J_aload_n C 0 dX12_copy_25 rfl 0 rfl ?_
        refine J_getR C fl_RX12_91 oR_0 rfl dX12_copy_26 ?_
        refine J_iload_n C 3 dX12_copy_29 rfl 3 rfl ?_
        refine J_iald C aR_28 hσ dX12_copy_30 h (fun v12 hv13 h => ?_)
        refine J_if_ne C hv13 (tgt := 41) dX12_copy_31 (by decide) h (fun h c90 => ?_) (fun h c90 => ?_)
        · exact J_sub [0] rfl (pc7 σ hσ h)
        · refine J_aload_n C 0 dX12_copy_41 rfl 0 rfl ?_
          refine J_getR C fl_RX12_91 oR_0 rfl dX12_copy_42 ?_
          refine J_iload_n C 1 dX12_copy_45 rfl 1 rfl ?_
          refine J_iald C aR_28 hσ dX12_copy_46 h (fun v14 hv15 h => ?_)
          refine J_iconst C dX12_copy_47 ?_
          refine J_icmp_eq C hv15 rl_5 (tgt := 66) dX12_copy_48 (by decide) h (fun h c89 => ?_) (fun h c89 => ?_)
          · exact J_sub [0] rfl (pc16 σ hσ h)
          · refine J_aload_n C 0 dX12_copy_51 rfl 0 rfl ?_
            refine J_getR C fl_RX12_91 oR_0 rfl dX12_copy_52 ?_
            refine J_iload_n C 1 dX12_copy_55 rfl 1 rfl ?_
            refine J_iald C aR_28 hσ dX12_copy_56 h (fun v21 hv22 h => ?_)
            refine J_aload_n C 0 dX12_copy_57 rfl 0 rfl ?_
            refine J_getR C fl_RX12_91 oR_0 rfl dX12_copy_58 ?_
            refine J_iload_n C 3 dX12_copy_61 rfl 3 rfl ?_
            refine J_iald C aR_28 hσ dX12_copy_62 h (fun v23 hv24 h => ?_)
            refine J_icmp_eq C hv22 hv24 (tgt := 73) dX12_copy_63 (by decide) h (fun h c88 => ?_) (fun h c88 => ?_)
            · refine J_iload C 5 dX12_copy_73 5 rfl ?_
              refine J_if_lt C h5 (tgt := 114) dX12_copy_75 (by decide) h (fun h c87 => ?_) (fun h c87 => ?_)
              · exact J_sub [0] rfl (pc25 σ hσ h)
              · refine J_iload_n C 2 dX12_copy_78 rfl 2 rfl ?_
                refine J_if_lt C h2 (tgt := 114) dX12_copy_79 (by decide) h (fun h c86 => ?_) (fun h c86 => ?_)
                · exact J_sub [0] rfl (pc25 σ hσ h)
                · refine J_iload C 4 dX12_copy_82 4 rfl ?_
                  refine J_if_lt C h4 (tgt := 114) dX12_copy_84 (by decide) h (fun h c85 => ?_) (fun h c85 => ?_)
                  · exact J_sub [0] rfl (pc25 σ hσ h)
                  · refine J_iload C 5 dX12_copy_87 5 rfl ?_
                    refine J_aload_n C 0 dX12_copy_89 rfl 0 rfl ?_
                    refine J_getR C fl_RX12_94 oR_0 rfl dX12_copy_90 ?_
                    refine J_iload_n C 1 dX12_copy_93 rfl 1 rfl ?_
                    refine J_iald C aR_29 hσ dX12_copy_94 h (fun v30 hv31 h => ?_)
                    refine J_iload_n C 2 dX12_copy_95 rfl 2 rfl ?_
                    refine J_isub C dX12_copy_96 h (fun v32 hv33 h => ?_)
                    refine J_icmp_gt C h5 hv33 (tgt := 114) dX12_copy_97 (by decide) h (fun h c84 => ?_) (fun h c84 => ?_)
                    · refine J_iload C 5 dX12_copy_100 5 rfl ?_
                      refine J_aload_n C 0 dX12_copy_102 rfl 0 rfl ?_
                      refine J_getR C fl_RX12_94 oR_0 rfl dX12_copy_103 ?_
                      refine J_iload_n C 3 dX12_copy_106 rfl 3 rfl ?_
                      refine J_iald C aR_29 hσ dX12_copy_107 h (fun v34 hv35 h => ?_)
                      refine J_iload C 4 dX12_copy_108 4 rfl ?_
                      refine J_isub C dX12_copy_110 h (fun v36 hv37 h => ?_)
                      refine J_icmp_le C h5 hv37 (tgt := 121) dX12_copy_111 (by decide) h (fun h c83 => ?_) (fun h c83 => ?_)
                      · refine J_iconst C dX12_copy_121 ?_
                        refine J_istore (lo2 := [(6, vi 0), (0, .ref (gad g 0)), (1, vi x1), (2, vi x2), (3, vi x3), (4, vi x4), (5, vi x5)]) C 6 dX12_copy_122 (by decide) rfl ?_
                        obtain ⟨q81, cq81, h⟩ := bdS h
                        refine J_sub [1, 2, 3, 4, 5, 6, 0] rfl (wX12_copy_L124 C fu x1 h1 x2 h2 x3 h3 x4 h4 x5 h5 0 rl_0 σ hσ q81 cq81 (fun hσ82 => ?_))
                        refine J_iload C 5 dX12_copy_186 0 rfl ?_
                        have e9 := sE h
                        subst e9
                        exact J_iret C E ⟨h5, hσ82⟩ dX12_copy_188
                      · exact J_sub [0] rfl (pc25 σ hσ h)
                    · exact J_sub [0] rfl (pc25 σ hσ h)
            · exact J_sub [0] rfl (pc16 σ hσ h)
set_option maxRecDepth 100000 in
set_option maxHeartbeats 4000000 in
theorem wX12_count_L119 {x : Ct} {g : Gm} (C : Cx x yR g 4 cX12_count RX12 2 43) : ∀ (n : Nat) (x2 : Int) (h2 : rg x2) (x3 : Int) (h3 : rg x3) (σ : Sg) (hσ : wfS yR σ) (q : Int) (h : fX12_count_L119 n x2 x3 σ = some q) (k : rg q → J x yR g 4 150 [(2, vi q)] [] σ), J x yR g 4 119 [(0, .ref (gad g 0)), (2, vi x2), (3, vi x3)] [] σ := by
  intro n
  induction n with
  | zero =>
    intro x2 h2 x3 h3 σ hσ q h k
    exact absurd h (by intro z; cases z)
  | succ n ih =>
    intro x2 h2 x3 h3 σ hσ q h k
    rw [fX12_count_L119] at h
    have pc11 : ∀ (x3 : Int) (h3 : rg x3) (y0 : Int) (g0 : rg y0) (y1 : Int) (g1 : rg y1), fX12_count_L119P142 (fX12_count_L119 n) x3 y0 y1 σ = some q → J x yR g 4 142 [(0, .ref (gad g 0)), (3, vi x3)] [vi y0, vi y1] σ := by
      intro x3 h3 y0 g0 y1 g1 h
      unfold fX12_count_L119P142 at h
      refine J_iadd C dX12_count_142 h (fun v12 hv13 h => ?_)
      refine J_istore_n (lo2 := [(2, vi v12), (0, .ref (gad g 0)), (3, vi x3)]) C 2 dX12_count_143 rfl (by decide) rfl ?_
      refine J_iinc C 3 2 dX12_count_144 rfl (by decide) h (fun v14 hv15 h => ?_)
      refine J_goto C (tgt := 119) dX12_count_147 (by decide) ?_
      exact J_sub [2, 1, 0] rfl (ih v12 hv13 v14 hv15 σ hσ q h k)
    refine J_iload_n C 3 dX12_count_119 rfl 2 rfl ?_
    refine J_aload_n C 0 dX12_count_120 rfl 0 rfl ?_
    refine J_getI C fl_RX12_159 oR_0 rfl dX12_count_121 ?_
    refine J_icmp_ge C h3 (hσ 0 32 lR_0) (tgt := 150) dX12_count_124 (by decide) h (fun h c21 => ?_) (fun h c21 => ?_)
    · refine J_iload_n C 2 dX12_count_127 rfl 1 rfl ?_
      refine J_aload_n C 0 dX12_count_128 rfl 0 rfl ?_
      refine J_getR C fl_RX12_52 oR_0 rfl dX12_count_129 ?_
      refine J_iload_n C 3 dX12_count_132 rfl 2 rfl ?_
      refine J_iald C aR_15 hσ dX12_count_133 h (fun v9 hv10 h => ?_)
      refine J_if_ge C hv10 (tgt := 141) dX12_count_134 (by decide) h (fun h c20 => ?_) (fun h c20 => ?_)
      · refine J_iconst C dX12_count_137 ?_
        refine J_goto C (tgt := 142) dX12_count_138 (by decide) ?_
        exact J_sub [0, 2] rfl (pc11 x3 h3 1 rl_1 x2 h2 h)
      · refine J_iconst C dX12_count_141 ?_
        exact J_sub [0, 2] rfl (pc11 x3 h3 0 rl_0 x2 h2 h)
    · have e9 := sE h
      subst e9
      exact J_sub [1] rfl (k h2)
set_option maxRecDepth 100000 in
set_option maxHeartbeats 4000000 in
theorem wX12_count_L82 {x : Ct} {g : Gm} (C : Cx x yR g 4 cX12_count RX12 2 43) : ∀ (n : Nat) (x2 : Int) (h2 : rg x2) (x3 : Int) (h3 : rg x3) (σ : Sg) (hσ : wfS yR σ) (q : Int) (h : fX12_count_L82 n x2 x3 σ = some q) (k : rg q → J x yR g 4 110 [(2, vi q)] [] σ), J x yR g 4 82 [(0, .ref (gad g 0)), (2, vi x2), (3, vi x3)] [] σ := by
  intro n
  induction n with
  | zero =>
    intro x2 h2 x3 h3 σ hσ q h k
    exact absurd h (by intro z; cases z)
  | succ n ih =>
    intro x2 h2 x3 h3 σ hσ q h k
    rw [fX12_count_L82] at h
    have pc26 : ∀ (x3 : Int) (h3 : rg x3) (y0 : Int) (g0 : rg y0) (y1 : Int) (g1 : rg y1), fX12_count_L82P102 (fX12_count_L82 n) x3 y0 y1 σ = some q → J x yR g 4 102 [(0, .ref (gad g 0)), (3, vi x3)] [vi y0, vi y1] σ := by
      intro x3 h3 y0 g0 y1 g1 h
      unfold fX12_count_L82P102 at h
      refine J_iadd C dX12_count_102 h (fun v27 hv28 h => ?_)
      refine J_istore_n (lo2 := [(2, vi v27), (0, .ref (gad g 0)), (3, vi x3)]) C 2 dX12_count_103 rfl (by decide) rfl ?_
      refine J_iinc C 3 2 dX12_count_104 rfl (by decide) h (fun v29 hv30 h => ?_)
      refine J_goto C (tgt := 82) dX12_count_107 (by decide) ?_
      exact J_sub [2, 1, 0] rfl (ih v27 hv28 v29 hv30 σ hσ q h k)
    refine J_iload_n C 3 dX12_count_82 rfl 2 rfl ?_
    refine J_bipush C dX12_count_83 (bp8 (by decide) (by decide)) ?_
    refine J_icmp_ge C h3 rl_6 (tgt := 110) dX12_count_85 (by decide) h (fun h c36 => ?_) (fun h c36 => ?_)
    · refine J_iload_n C 2 dX12_count_88 rfl 1 rfl ?_
      refine J_aload_n C 0 dX12_count_89 rfl 0 rfl ?_
      refine J_iload_n C 3 dX12_count_90 rfl 2 rfl ?_
      obtain ⟨q24, cq24, h⟩ := bdS h
      refine J_callV C mw_X12_isBarge ml_RX12_186 (m_X12_isBarge x.2.1 g (CxI C) x3 h3 σ hσ q24 cq24) oR_0 rfl (Nat.le_of_ble_eq_true rfl) (Nat.le_of_ble_eq_true rfl) rfl rfl (Nat.le_of_ble_eq_true rfl) dX12_count_91 (fun hz25 => ?_)
      refine J_if_eq C (rg01 hz25) (tgt := 101) dX12_count_94 (by decide) h (fun h c35 => ?_) (fun h c35 => ?_)
      · refine J_iconst C dX12_count_101 ?_
        exact J_sub [0, 2] rfl (pc26 x3 h3 0 rl_0 x2 h2 h)
      · refine J_iconst C dX12_count_97 ?_
        refine J_goto C (tgt := 102) dX12_count_98 (by decide) ?_
        exact J_sub [0, 2] rfl (pc26 x3 h3 1 rl_1 x2 h2 h)
    · have e9 := sE h
      subst e9
      exact J_sub [1] rfl (k h2)
set_option maxRecDepth 100000 in
set_option maxHeartbeats 4000000 in
theorem wX12_count_L50 {x : Ct} {g : Gm} (C : Cx x yR g 4 cX12_count RX12 2 43) : ∀ (n : Nat) (x2 : Int) (h2 : rg x2) (x3 : Int) (h3 : rg x3) (σ : Sg) (hσ : wfS yR σ) (q : Int) (h : fX12_count_L50 n x2 x3 σ = some q) (k : rg q → J x yR g 4 78 [(2, vi q)] [] σ), J x yR g 4 50 [(0, .ref (gad g 0)), (2, vi x2), (3, vi x3)] [] σ := by
  intro n
  induction n with
  | zero =>
    intro x2 h2 x3 h3 σ hσ q h k
    exact absurd h (by intro z; cases z)
  | succ n ih =>
    intro x2 h2 x3 h3 σ hσ q h k
    rw [fX12_count_L50] at h
    have pc41 : ∀ (x3 : Int) (h3 : rg x3) (y0 : Int) (g0 : rg y0) (y1 : Int) (g1 : rg y1), fX12_count_L50P70 (fX12_count_L50 n) x3 y0 y1 σ = some q → J x yR g 4 70 [(0, .ref (gad g 0)), (3, vi x3)] [vi y0, vi y1] σ := by
      intro x3 h3 y0 g0 y1 g1 h
      unfold fX12_count_L50P70 at h
      refine J_iadd C dX12_count_70 h (fun v42 hv43 h => ?_)
      refine J_istore_n (lo2 := [(2, vi v42), (0, .ref (gad g 0)), (3, vi x3)]) C 2 dX12_count_71 rfl (by decide) rfl ?_
      refine J_iinc C 3 2 dX12_count_72 rfl (by decide) h (fun v44 hv45 h => ?_)
      refine J_goto C (tgt := 50) dX12_count_75 (by decide) ?_
      exact J_sub [2, 1, 0] rfl (ih v42 hv43 v44 hv45 σ hσ q h k)
    refine J_iload_n C 3 dX12_count_50 rfl 2 rfl ?_
    refine J_bipush C dX12_count_51 (bp8 (by decide) (by decide)) ?_
    refine J_icmp_ge C h3 rl_12 (tgt := 78) dX12_count_53 (by decide) h (fun h c51 => ?_) (fun h c51 => ?_)
    · refine J_iload_n C 2 dX12_count_56 rfl 1 rfl ?_
      refine J_aload_n C 0 dX12_count_57 rfl 0 rfl ?_
      refine J_iload_n C 3 dX12_count_58 rfl 2 rfl ?_
      obtain ⟨q39, cq39, h⟩ := bdS h
      refine J_callV C mw_X12_isKind ml_RX12_190 (m_X12_isKind x.2.1 g (CxI C) x3 h3 σ hσ q39 cq39) oR_0 rfl (Nat.le_of_ble_eq_true rfl) (Nat.le_of_ble_eq_true rfl) rfl rfl (Nat.le_of_ble_eq_true rfl) dX12_count_59 (fun hz40 => ?_)
      refine J_if_eq C (rg01 hz40) (tgt := 69) dX12_count_62 (by decide) h (fun h c50 => ?_) (fun h c50 => ?_)
      · refine J_iconst C dX12_count_69 ?_
        exact J_sub [0, 2] rfl (pc41 x3 h3 0 rl_0 x2 h2 h)
      · refine J_iconst C dX12_count_65 ?_
        refine J_goto C (tgt := 70) dX12_count_66 (by decide) ?_
        exact J_sub [0, 2] rfl (pc41 x3 h3 1 rl_1 x2 h2 h)
    · have e9 := sE h
      subst e9
      exact J_sub [1] rfl (k h2)
set_option maxRecDepth 100000 in
set_option maxHeartbeats 4000000 in
theorem m_X12_count (l : Launch) (g : Gm) (hg : gInj yR g) (x1 : Int) (h1 : rg x1) (σ : Sg) (hσ : wfS yR σ) (q : Int) (h : fX12_count x1 σ = some q) : CJ l yR g yX12_count cX12_count 4 (some .int) 2 43 [.ref (gad g 0), vi x1] σ (some (vi q)) σ (rg q) := by
  refine CJ_of hg (by decide) rfl (Nat.le_of_ble_eq_true rfl) (lo := [(0, .ref (gad g 0)), (1, vi x1)]) rfl (fun x C E => ?_)
  unfold fX12_count at h
  refine J_iconst C dX12_count_0 ?_
  refine J_istore_n (lo2 := [(2, vi 0), (0, .ref (gad g 0)), (1, vi x1)]) C 2 dX12_count_1 rfl (by decide) rfl ?_
  refine J_iload_n C 1 dX12_count_2 rfl 2 rfl ?_
  rcases lt_or h with ⟨c1, h⟩ | ⟨c1, h⟩
  · refine J_switch C (tgt := 48) h1 dX12_count_3 (45) (fun z => absurd z (by omega)) (fun _ _ => by rw [c1]; rfl) (by decide) ?_
    refine J_iconst C dX12_count_48 ?_
    refine J_istore_n (lo2 := [(3, vi 0), (2, vi 0), (0, .ref (gad g 0)), (1, vi x1)]) C 3 dX12_count_49 rfl (by decide) rfl ?_
    obtain ⟨q52, cq52, h⟩ := bdS h
    refine J_sub [2, 1, 0] rfl (wX12_count_L50 C fu 0 rl_0 0 rl_0 σ hσ q52 cq52 (fun hr53 => ?_))
    refine J_iload_n C 2 dX12_count_78 rfl 0 rfl ?_
    have e9 := sE h
    subst e9
    exact J_iret C E hr53 dX12_count_79
  · rcases lt_or h with ⟨c2, h⟩ | ⟨c2, h⟩
    · refine J_switch C (tgt := 80) h1 dX12_count_3 (77) (fun z => absurd z (by omega)) (fun _ _ => by rw [c2]; rfl) (by decide) ?_
      refine J_iconst C dX12_count_80 ?_
      refine J_istore_n (lo2 := [(3, vi 0), (2, vi 0), (0, .ref (gad g 0)), (1, vi x1)]) C 3 dX12_count_81 rfl (by decide) rfl ?_
      obtain ⟨q37, cq37, h⟩ := bdS h
      refine J_sub [2, 1, 0] rfl (wX12_count_L82 C fu 0 rl_0 0 rl_0 σ hσ q37 cq37 (fun hr38 => ?_))
      refine J_iload_n C 2 dX12_count_110 rfl 0 rfl ?_
      have e9 := sE h
      subst e9
      exact J_iret C E hr38 dX12_count_111
    · rcases lt_or h with ⟨c3, h⟩ | ⟨c3, h⟩
      · refine J_switch C (tgt := 112) h1 dX12_count_3 (109) (fun z => absurd z (by omega)) (fun _ _ => by rw [c3]; rfl) (by decide) ?_
        refine J_aload_n C 0 dX12_count_112 rfl 1 rfl ?_
        refine J_getI C fl_RX12_159 oR_0 rfl dX12_count_113 ?_
        have e9 := sE h
        subst e9
        exact J_iret C E (hσ 0 32 lR_0) dX12_count_116
      · rcases lt_or h with ⟨c4, h⟩ | ⟨c4, h⟩
        · refine J_switch C (tgt := 117) h1 dX12_count_3 (114) (fun z => absurd z (by omega)) (fun _ _ => by rw [c4]; rfl) (by decide) ?_
          refine J_iconst C dX12_count_117 ?_
          refine J_istore_n (lo2 := [(3, vi 0), (2, vi 0), (0, .ref (gad g 0)), (1, vi x1)]) C 3 dX12_count_118 rfl (by decide) rfl ?_
          obtain ⟨q22, cq22, h⟩ := bdS h
          refine J_sub [2, 1, 0] rfl (wX12_count_L119 C fu 0 rl_0 0 rl_0 σ hσ q22 cq22 (fun hr23 => ?_))
          refine J_iload_n C 2 dX12_count_150 rfl 0 rfl ?_
          have e9 := sE h
          subst e9
          exact J_iret C E hr23 dX12_count_151
        · rcases lt_or h with ⟨c5, h⟩ | ⟨c5, h⟩
          · refine J_switch C (tgt := 152) h1 dX12_count_3 (149) (fun z => absurd z (by omega)) (fun _ _ => by rw [c5]; rfl) (by decide) ?_
            refine J_aload_n C 0 dX12_count_152 rfl 1 rfl ?_
            refine J_getI C fl_RX12_162 oR_0 rfl dX12_count_153 ?_
            have e9 := sE h
            subst e9
            exact J_iret C E (hσ 0 33 lR_0) dX12_count_156
          · rcases lt_or h with ⟨c6, h⟩ | ⟨c6, h⟩
            · refine J_switch C (tgt := 157) h1 dX12_count_3 (154) (fun z => absurd z (by omega)) (fun _ _ => by rw [c6]; rfl) (by decide) ?_
              refine J_aload_n C 0 dX12_count_157 rfl 1 rfl ?_
              refine J_getI C fl_RX12_165 oR_0 rfl dX12_count_158 ?_
              have e9 := sE h
              subst e9
              exact J_iret C E (hσ 0 34 lR_0) dX12_count_161
            · rcases lt_or h with ⟨c7, h⟩ | ⟨c7, h⟩
              · refine J_switch C (tgt := 162) h1 dX12_count_3 (159) (fun z => absurd z (by omega)) (fun _ _ => by rw [c7]; rfl) (by decide) ?_
                refine J_aload_n C 0 dX12_count_162 rfl 1 rfl ?_
                refine J_getI C fl_RX12_171 oR_0 rfl dX12_count_163 ?_
                have e9 := sE h
                subst e9
                exact J_iret C E (hσ 0 36 lR_0) dX12_count_166
              · rcases lt_or h with ⟨c8, h⟩ | ⟨c8, h⟩
                · refine J_switch C (tgt := 167) h1 dX12_count_3 (164) (fun z => absurd z (by omega)) (fun _ _ => by rw [c8]; rfl) (by decide) ?_
                  refine J_aload_n C 0 dX12_count_167 rfl 1 rfl ?_
                  refine J_getI C fl_RX12_152 oR_0 rfl dX12_count_168 ?_
                  have e9 := sE h
                  subst e9
                  exact J_iret C E (hσ 0 37 lR_0) dX12_count_171
                · refine J_switch C (tgt := 172) h1 dX12_count_3 (169) (fun _ => rfl) (fun z1 z2 => absurd z1 (by omega)) (by decide) ?_
                  refine J_iconst C dX12_count_172 ?_
                  have e9 := sE h
                  subst e9
                  exact J_iret C E rl_m1 dX12_count_173
