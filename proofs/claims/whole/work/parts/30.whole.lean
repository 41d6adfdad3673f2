set_option maxRecDepth 100000 in
set_option maxHeartbeats 8000000 in
theorem st_walk {x : Ct} {g : Gm} {A : Nat → Prop} {b : Nat} (C : Kx x g 8 A cL_law RL 67 1475 601024 7293034) (k : ∀ (a1 a2 q : Nat) (ad1 ad2 : Nat → Nat), KW x g 8 A 147 14800 ((q, .inl (gca g 1, (1, .inr (.inl (fun _ => 0))))) :: (wd yR (gAt g (ad0 a2 ad2)) τR0 ++ wd yC (gAt g (ad0 a1 ad1)) σC0)) 20 [(3, .ref q), (2, .ref a2), (1, .ref a1), (0, .ref b)] []) : KW x g 8 A 0 0 [] 0 [(0, .ref b)] [] := by
  refine K_new C (ci := 11) (fs := [.null, .null, .null, .null, .null, .null, .null, .null, .null, .int 0, .int 0]) (pre := []) (tl := []) inW_RX11 tyX11 tyX11_ok cl_RL_8 is_RX11 in_RX11 rfl nf_RX11 (Nat.le_of_ble_eq_true rfl) (Nat.le_of_ble_eq_true rfl) rfl dL_law_0 (fun a1 => ?_)
  refine K_dup C rfl dL_law_3 ?_
  refine K_init C mwi_X11_init rfl ml_RL_24 (k_X11_init x.2.1 g a1) (pre := []) (tl := []) rfl (Nat.le_of_ble_eq_true rfl) (Nat.le_of_ble_eq_true rfl) rfl rfl (Nat.le_of_ble_eq_true rfl) (Nat.le_of_ble_eq_true rfl) (Nat.le_of_ble_eq_true rfl) dL_law_4 (fun ad1 => ?_)
  show KW x g 8 A 101 7351 ([] ++ (wd yC (gAt g (ad0 a1 ad1)) σC0 ++ [])) 7 [(0, .ref b)] [.ref a1]
  obtain ⟨T1, eT1⟩ : ∃ z, z = wd yC (gAt g (ad0 a1 ad1)) σC0 := ⟨_, rfl⟩
  rw [← eT1, List.append_nil, List.nil_append]
  refine K_astore_n (lo2 := [(1, .ref a1), (0, .ref b)]) C 1 dL_law_7 rfl (by decide) rfl ?_
  refine K_new C (ci := 12) (fs := [.null, .null, .null, .null, .null, .null, .null, .null, .null, .null, .null, .null, .null, .null, .null, .null, .null, .null, .null, .null, .null, .null, .null, .null, .null, .null, .null, .null, .null, .null, .null, .int 0, .int 0, .int 0, .int 0, .int 0, .int 0, .int 0, .int 0, .int 0, .int 0, .null, .null, .null, .null, .null, .null, .int 0, .int 0, .null, .null, .null, .null, .null, .int 0, .null, .null]) (pre := []) (tl := T1) inW_RX12 tyX12 tyX12_ok cl_RL_25 is_RX12 in_RX12 rfl nf_RX12 (Nat.le_of_ble_eq_true rfl) (Nat.le_of_ble_eq_true rfl) rfl dL_law_8 (fun a2 => ?_)
  refine K_dup C rfl dL_law_11 ?_
  refine K_init C mwi_X12_init rfl ml_RL_27 (k_X12_init x.2.1 g a2) (pre := []) (tl := T1) rfl (Nat.le_of_ble_eq_true rfl) (Nat.le_of_ble_eq_true rfl) rfl rfl (Nat.le_of_ble_eq_true rfl) (Nat.le_of_ble_eq_true rfl) (Nat.le_of_ble_eq_true rfl) dL_law_12 (fun ad2 => ?_)
  show KW x g 8 A 146 14799 ([] ++ (wd yR (gAt g (ad0 a2 ad2)) τR0 ++ T1)) 15 [(1, .ref a1), (0, .ref b)] [.ref a2]
  obtain ⟨T2, eT2⟩ : ∃ z, z = wd yR (gAt g (ad0 a2 ad2)) τR0 ++ T1 := ⟨_, rfl⟩
  rw [← eT2, List.nil_append]
  refine K_astore_n (lo2 := [(2, .ref a2), (1, .ref a1), (0, .ref b)]) C 2 dL_law_15 rfl (by decide) rfl ?_
  refine K_iconst C dL_law_16 ?_
  refine K_newarr C (atype := .long) (ty := .long) (n := 1) (t := 1) (a0 := (1, .inr (.inl (fun _ => 0)))) (pre := []) (tl := T2) ac_long rfl (fun _ h => by cases h) rfl (fun _ => rfl) (by decide) (by decide) (Nat.le_of_ble_eq_true rfl) (Nat.le_of_ble_eq_true rfl) rfl dL_law_17 (fun q => ?_)
  refine K_astore_n (lo2 := [(3, .ref q), (2, .ref a2), (1, .ref a1), (0, .ref b)]) C 3 dL_law_19 rfl (by decide) rfl ?_
  subst eT2 eT1
  exact k a1 a2 q ad1 ad2
set_option maxRecDepth 100000 in
set_option maxHeartbeats 8000000 in
theorem whole_start {p : Program} {e : Env} {s : State} {m : MethodId} {below : List Frame} {meth : Method} {c : Code} (l : Launch) (hflags : l.flags = flags0) {b L : Nat} {xs : Nat → Int32} (hL : L ≤ 3072) (C0 : lw_At p s m meth c b L xs) : W p l e room_1 s m #[Value.ref b] below meth c s.heap [] 0 0 (lw_Z below #[Value.ref b] s) (entryFrame m ([Value.ref b] : List Value).toArray 8) := by
  obtain ⟨hx, hb, hr, hml, hown, hts, hX, hbl, hlocks, hgv⟩ := id C0
  have hlt := st_noTraces hflags
  have hfl := flat_of_before _ hgv
  have hok : ∀ w ∈ okw, w.before #[Value.ref b] s = true := fun w hw => hts w (okw_tbl w hw)
  have hov := hts (.arrayOver (.object "LightScript$Tape")) (List.mem_of_getElem? (i := 392) (by decide +kernel))
  have hst := st_stF hts hfl
  obtain ⟨dC, dI, hKc⟩ := st_known hok
  obtain ⟨dA, hKt⟩ := st_tys hok hov
  obtain ⟨g, hg⟩ : ∃ g : Gm, g = (dC, dI, dA, fun _ => 0) := ⟨_, rfl⟩
  have hK : va_K (gD g) vwCl (tysOf g) s := by
    subst hg
    exact ⟨hKc, hKt dC dI _⟩
  have C : Kx (p, l, e, room_1, s, m, #[Value.ref b], below, meth, c, lw_Z below #[Value.ref b] s, 0, 0) g 8 (fun q : Nat => s.heap.size ≤ q) cL_law RL 67 1475 601024 7293034 := ⟨hx, hb, hml, hown, hok, hK, fun _ h => h, Nat.le_of_ble_eq_true rfl, Nat.le_of_ble_eq_true rfl, Nat.le_of_ble_eq_true rfl, Nat.le_of_ble_eq_true rfl, hlocks, hst, va_AO.of hov⟩
  have hl := lv_entry ([Value.ref b]) (n := 8) (Nat.le_of_ble_eq_true rfl)
  rw [lg_entry_eq]
  refine st_walk C (fun a1 a2 q ad1 ad2 => ?_) s.heap [] _ (fun k q h => by simp at h) ⟨fun i j p q h => by simp at h, fun k q h => by simp at h⟩ va_S.rf hl
  intro H locs ls hP hD hS hlv
  refine va_forget (fun q hq => hS.2.2 q hq) ?_
  obtain ⟨g1, eD, eT, hi, hA1, hP1, h1, h2, h3⟩ := st_world hP hD
  have h1 : a1 = gad g1 0 := h1
  have h2 : a2 = gad g1 101 := h2
  subst h1 h2 h3
  have hS1 : va_S (aw yL g1) s.heap H [] := ⟨hS.1, fun z y1 y2 => hS.2.1 z y1 (Nat.not_le.mpr y1), fun _ h => absurd h List.not_mem_nil⟩
  have CL : CxL (p, l, e, room_1, s, m, #[Value.ref b], below, meth, c, lw_Z below #[Value.ref b] s, 147, 14800) g1 67 1475 512 := fun u hu => ⟨hx, hb, hml, hown, hok, by rw [eD, eT]; exact hK, hi, Nat.le_of_ble_eq_true rfl, Nat.le_of_ble_eq_true rfl, hlocks, hst.narrow hA1, by show 147 + u ≤ 601024; omega, by show 14800 + 6 * u ≤ 7293034; omega⟩
  have hJ := lw_run hL C0 hlt (g := g1) (nf := 67) (nlc := 1475) (Nat.le_refl _) (Nat.le_refl _) hA1 (f := fun _ => 0) CL
  have hJ2 : J (p, l, e, room_1, s, m, #[Value.ref b], below, meth, c, lw_Z below #[Value.ref b] s, 147, 14800) yL g1 8 20 [(3, .ref (gad g1 146)), (2, .ref (gad g1 101)), (1, .ref (gad g1 0)), (0, .ref b)] [] (zL σC0 τR0 (fun _ => 0)) := J_iconst CL.c dL_law_20 (J_istore (lo2 := [(4, vi 0), (3, .ref (gad g1 146)), (2, .ref (gad g1 101)), (1, .ref (gad g1 0)), (0, .ref b)]) CL.c 4 dL_law_21 (by decide) rfl (J_sub [0, 4, 3, 2, 1] rfl hJ))
  exact hJ2 H [] ls hP1 hS1 hlv
