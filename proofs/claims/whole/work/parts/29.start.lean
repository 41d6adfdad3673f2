theorem is_RX11 : Cond.instantiable RX11 11 ∈ okw := okw_in (List.mem_of_getElem? (i := 89) (by decide +kernel)) (by decide +kernel)
theorem is_RX12 : Cond.instantiable RX12 57 ∈ okw := okw_in (List.mem_of_getElem? (i := 1262) (by decide +kernel)) (by decide +kernel)
theorem in_RX11 : Cond.initialized RX11 ∈ okw := okw_in (List.mem_of_getElem? (i := 67) (by decide +kernel)) (by decide +kernel)
theorem in_RX12 : Cond.initialized RX12 ∈ okw := okw_in (List.mem_of_getElem? (i := 79) (by decide +kernel)) (by decide +kernel)
theorem cl_RL_8 : Cond.classLink RL 8 RX11 ∈ okw := okw_in (List.mem_of_getElem? (i := 88) (by decide +kernel)) (by decide +kernel)
theorem cl_RL_25 : Cond.classLink RL 25 RX12 ∈ okw := okw_in (List.mem_of_getElem? (i := 1261) (by decide +kernel)) (by decide +kernel)
theorem ml_RL_24 : Cond.methodLink RL 24 yX11_init ∈ okw := okw_in (List.mem_of_getElem? (i := 90) (by decide +kernel)) (by decide +kernel)
theorem ml_RL_27 : Cond.methodLink RL 27 yX12_init ∈ okw := okw_in (List.mem_of_getElem? (i := 1263) (by decide +kernel)) (by decide +kernel)
theorem mwi_X11_init : MW yX11_init cX11_init 2 none 0 ∧ Cond.instanceMethod yX11_init ∈ okw := ⟨⟨okw_in (List.mem_of_getElem? (i := 92) (by decide +kernel)) (by decide +kernel), okw_in (List.mem_of_getElem? (i := 67) (by decide +kernel)) (by decide +kernel), by decide, by decide, by decide +kernel⟩, okw_in (List.mem_of_getElem? (i := 91) (by decide +kernel)) (by decide +kernel)⟩
theorem mwi_X12_init : MW yX12_init cX12_init 2 none 0 ∧ Cond.instanceMethod yX12_init ∈ okw := ⟨⟨okw_in (List.mem_of_getElem? (i := 1265) (by decide +kernel)) (by decide +kernel), okw_in (List.mem_of_getElem? (i := 79) (by decide +kernel)) (by decide +kernel), by decide, by decide, by decide +kernel⟩, okw_in (List.mem_of_getElem? (i := 1264) (by decide +kernel)) (by decide +kernel)⟩
theorem nf_RX11 : ∀ j, j < 11 → defaultValue (tyX11 j) = vp_V [.null, .null, .null, .null, .null, .null, .null, .null, .null, .int 0, .int 0] j := by decide +kernel
theorem nf_RX12 : ∀ j, j < 57 → defaultValue (tyX12 j) = vp_V [.null, .null, .null, .null, .null, .null, .null, .null, .null, .null, .null, .null, .null, .null, .null, .null, .null, .null, .null, .null, .null, .null, .null, .null, .null, .null, .null, .null, .null, .null, .null, .int 0, .int 0, .int 0, .int 0, .int 0, .int 0, .int 0, .int 0, .int 0, .int 0, .null, .null, .null, .null, .null, .null, .int 0, .int 0, .null, .null, .null, .null, .null, .int 0, .null, .null] j := by decide +kernel
theorem st_noTraces {l : Launch} (h : l.flags = flags0) : l.stackTraces = false := by
  unfold Launch.stackTraces
  rw [h]
  decide +kernel
theorem st_cl : ∀ q ∈ vwCl, (∀ w ∈ u_ws q.1 q.2.1 q.2.2, w ∈ okw) ∧ ∃ n, Cond.instantiable q.1 n ∈ okw := List.forall_mem_cons.mpr ⟨⟨inW_RX0, 5, is_RX0⟩, List.forall_mem_cons.mpr ⟨⟨inW_RX1, 5, is_RX1⟩, List.forall_mem_cons.mpr ⟨⟨inW_RX2, 6, is_RX2⟩, List.forall_mem_cons.mpr ⟨⟨inW_RX3, 12, is_RX3⟩, List.forall_mem_cons.mpr ⟨⟨inW_RX4, 4, is_RX4⟩, List.forall_mem_cons.mpr ⟨⟨inW_RX5, 5, is_RX5⟩, List.forall_mem_cons.mpr ⟨⟨inW_RX6, 7, is_RX6⟩, List.forall_mem_cons.mpr ⟨⟨inW_RX7, 10, is_RX7⟩, List.forall_mem_cons.mpr ⟨⟨inW_RX8, 6, is_RX8⟩, List.forall_mem_cons.mpr ⟨⟨inW_RX9, 4, is_RX9⟩, List.forall_mem_cons.mpr ⟨⟨inW_RX10, 7, is_RX10⟩, List.forall_mem_cons.mpr ⟨⟨inW_RX11, 11, is_RX11⟩, List.forall_mem_cons.mpr ⟨⟨inW_RX12, 57, is_RX12⟩, fun _ h => absurd h List.not_mem_nil⟩⟩⟩⟩⟩⟩⟩⟩⟩⟩⟩⟩⟩
theorem st_known {s : State} {args : Array Value} (hok : ∀ w ∈ okw, w.before args s = true) : ∃ (dC : Nat → ClassId) (dI : Nat → Nat → Nat), ∀ (k : Nat) (q : vw_C), vwCl[k]? = some q → u_Kn s q.1 q.2.1 q.2.2 (dC k) (dI k) := by
  have h : ∀ k : Nat, ∃ (c : ClassId) (i : Nat → Nat), ∀ q : vw_C, vwCl[k]? = some q → u_Kn s q.1 q.2.1 q.2.2 c i := by
    intro k
    cases hq : vwCl[k]? with
    | none =>
      obtain ⟨c, i, -⟩ := u_known (C := RX11) (T := TX11) (N := 11) hok inW_RX11 (hok _ is_RX11)
      exact ⟨c, i, fun q h => by cases h⟩
    | some r =>
      obtain ⟨hin, n, hi⟩ := st_cl r (List.mem_of_getElem? hq)
      obtain ⟨c, i, hk⟩ := u_known (C := r.1) (T := r.2.1) (N := r.2.2) hok hin (hok _ hi)
      exact ⟨c, i, fun q h => by cases h; exact hk⟩
  exact ⟨fun k => Classical.choose (h k), fun k => Classical.choose (Classical.choose_spec (h k)), fun k => Classical.choose_spec (Classical.choose_spec (h k))⟩
theorem st_arr {s : State} {args : Array Value} {ty : FieldType} (hnr : ∀ C, ty ≠ .object C) (h : (Cond.arrayClass ty).before args s = true) : ∃ cA : ClassId, ArrOfT s cA ty ∧ va_RA s cA ty := by
  obtain ⟨c, k, comp, h1, h2, h3⟩ := Cond.arrayClass_spec h
  refine ⟨c, fun n z => ⟨fun k h => (by cases h), k, h2, comp, h3⟩, ?_⟩
  cases ty with
  | object C => exact absurd rfl (hnr C)
  | _ => exact h1
theorem st_arrq {s : State} {args : Array Value} {C : String} (h : (Cond.arrayOver (.object C)).before args s = true) : ∃ cA : ClassId, ArrOfT s cA (.object C) ∧ va_RA s cA (.object C) := by
  obtain ⟨comp, c, k, h1, h2, h3, h4, h5⟩ := Cond.arrayOver_spec h
  exact ⟨c, fun n z => ⟨fun k h => (by cases h), k, h3, comp, h4⟩, k, comp, h3, h4, h1, h5⟩
def st5 (a0 a1 a2 a3 a4 : ClassId) : Nat → ClassId := fun k => match k with
  | 0 => a0
  | 1 => a1
  | 2 => a2
  | 3 => a3
  | _ => a4
theorem st_tys {s : State} {args : Array Value} (hok : ∀ w ∈ okw, w.before args s = true) (hov : (Cond.arrayOver (.object "LightScript$Tape")).before args s = true) : ∃ dA : Nat → ClassId, ∀ (dC : Nat → ClassId) (dI : Nat → Nat → Nat) (ad : Nat → Nat) (k : Nat) (q : ClassId × FieldType), (tysOf (dC, dI, dA, ad))[k]? = some q → ArrOfT s q.1 q.2 ∧ va_RA s q.1 q.2 := by
  obtain ⟨a0, b0⟩ := st_arr (ty := .int) (fun _ h => by cases h) (hok _ ac_int)
  obtain ⟨a1, b1⟩ := st_arr (ty := .long) (fun _ h => by cases h) (hok _ ac_long)
  obtain ⟨a2, b2⟩ := st_arr (ty := .byte) (fun _ h => by cases h) (hok _ ac_byte)
  obtain ⟨a3, b3⟩ := st_arr (ty := .boolean) (fun _ h => by cases h) (hok _ ac_boolean)
  obtain ⟨a4, b4⟩ := st_arrq hov
  refine ⟨st5 a0 a1 a2 a3 a4, fun dC dI ad k q hq => ?_⟩
  match k, hq with
  | 0, hq =>
    have hq : some (a0, FieldType.int) = some q := hq
    cases hq; exact b0
  | 1, hq =>
    have hq : some (a1, FieldType.long) = some q := hq
    cases hq; exact b1
  | 2, hq =>
    have hq : some (a2, FieldType.byte) = some q := hq
    cases hq; exact b2
  | 3, hq =>
    have hq : some (a3, FieldType.boolean) = some q := hq
    cases hq; exact b3
  | 4, hq =>
    have hq : some (a4, FieldType.object "LightScript$Tape") = some q := hq
    cases hq; exact b4
  | n + 5, hq =>
    have hq : (none : Option (ClassId × FieldType)) = some q := hq
    cases hq
theorem st_str {s : State} {args : Array Value} {own tx : String} {k : Nat} (h1 : (Cond.stringRef own k tx).before args s = true) (h2 : (Cond.exactly (.string own k) "java/lang/String").before args s = true) : ∃ sa, vk_R own k tx sa s := by
  obtain ⟨a, c, cell, kk, h, -⟩ := Cond.exactly_spec h2
  exact ⟨a, vk_R.of h1 h⟩
theorem st_strs {s : State} {b : Addr} (hts : ∀ w ∈ lw_tbl, w.before #[Value.ref b] s = true) (hfl : ∀ w ∈ flatC (Jvm.Cond.and given_1 narrow_1), w.before #[Value.ref b] s = true) : ∀ q ∈ strL, ∃ sa, vk_R q.1 q.2.1 q.2.2 sa s := by
  intro q hq
  simp only [strL, List.mem_cons, List.not_mem_nil, or_false] at hq
  rcases hq with rfl | rfl | rfl | rfl | rfl | rfl | rfl
  · exact st_str (hts (.stringRef "LightScript$Tape" 57 "CUES are OPEN") (List.mem_of_getElem? (i := 1145) (by decide +kernel))) (hfl (.exactly (.string "LightScript$Tape" 57) "java/lang/String") (by decide +kernel))
  · exact st_str (hts (.stringRef "LightScript" 194 "no such what") (List.mem_of_getElem? (i := 1231) (by decide +kernel))) (hfl (.exactly (.string "LightScript" 194) "java/lang/String") (by decide +kernel))
  · exact st_str (hts (.stringRef "LightScript" 204 "no such CUE") (List.mem_of_getElem? (i := 1238) (by decide +kernel))) (hfl (.exactly (.string "LightScript" 204) "java/lang/String") (by decide +kernel))
  · exact st_str (hts (.stringRef "LightScript" 297 "no such CUE or what") (List.mem_of_getElem? (i := 1248) (by decide +kernel))) (hfl (.exactly (.string "LightScript" 297) "java/lang/String") (by decide +kernel))
  · exact st_str (hts (.stringRef "LightScript" 299 "the CUE doesn't fire") (List.mem_of_getElem? (i := 1249) (by decide +kernel))) (hfl (.exactly (.string "LightScript" 299) "java/lang/String") (by decide +kernel))
  · exact st_str (hts (.stringRef "LightScript" 350 "no such TAPE") (List.mem_of_getElem? (i := 1258) (by decide +kernel))) (hfl (.exactly (.string "LightScript" 350) "java/lang/String") (by decide +kernel))
  · exact st_str (hts (.stringRef "LightScript" 352 "no row, or no such place in it") (List.mem_of_getElem? (i := 1259) (by decide +kernel))) (hfl (.exactly (.string "LightScript" 352) "java/lang/String") (by decide +kernel))
theorem st_nest {s : State} {b : Addr} (hts : ∀ w ∈ lw_tbl, w.before #[Value.ref b] s = true) : ∀ q ∈ nestL, va_Nw (.methodLinkNest q.1 q.2.1 q.2.2.1 q.2.2.2) s := by
  intro q hq
  simp only [nestL, List.mem_cons, List.not_mem_nil, or_false] at hq
  rcases hq with rfl | rfl | rfl | rfl | rfl | rfl | rfl | rfl | rfl | rfl
  · exact va_Nw.of rfl (hts (.methodLinkNest "LightScript" 9 ({ cls := "LightScript$Site", name := "<init>", desc := "()V" } : Jvm.MethodName) "LightScript") (List.mem_of_getElem? (i := 98) (by decide +kernel)))
  · exact va_Nw.of rfl (hts (.methodLinkNest "LightScript$Site" 27 ({ cls := "LightScript$Kinds", name := "<init>", desc := "()V" } : Jvm.MethodName) "LightScript") (List.mem_of_getElem? (i := 104) (by decide +kernel)))
  · exact va_Nw.of rfl (hts (.methodLinkNest "LightScript$Site" 34 ({ cls := "LightScript$Air", name := "<init>", desc := "()V" } : Jvm.MethodName) "LightScript") (List.mem_of_getElem? (i := 131) (by decide +kernel)))
  · exact va_Nw.of rfl (hts (.methodLinkNest "LightScript" 18 ({ cls := "LightScript$Cues", name := "<init>", desc := "()V" } : Jvm.MethodName) "LightScript") (List.mem_of_getElem? (i := 178) (by decide +kernel)))
  · exact va_Nw.of rfl (hts (.methodLinkNest "LightScript$Scribe" 11 ({ cls := "LightScript$Cues", name := "<init>", desc := "()V" } : Jvm.MethodName) "LightScript") (List.mem_of_getElem? (i := 211) (by decide +kernel)))
  · exact va_Nw.of rfl (hts (.methodLinkNest "LightScript" 43 ({ cls := "LightScript$Meters", name := "<init>", desc := "()V" } : Jvm.MethodName) "LightScript") (List.mem_of_getElem? (i := 282) (by decide +kernel)))
  · exact va_Nw.of rfl (hts (.methodLinkNest "LightScript" 50 ({ cls := "LightScript$Rules", name := "<init>", desc := "()V" } : Jvm.MethodName) "LightScript") (List.mem_of_getElem? (i := 302) (by decide +kernel)))
  · exact va_Nw.of rfl (hts (.methodLinkNest "LightScript" 79 ({ cls := "LightScript$Tape", name := "<init>", desc := "()V" } : Jvm.MethodName) "LightScript") (List.mem_of_getElem? (i := 394) (by decide +kernel)))
  · exact va_Nw.of rfl (hts (.methodLinkNest "LightScript$Tape" 17 ({ cls := "LightScript$Cues", name := "<init>", desc := "()V" } : Jvm.MethodName) "LightScript") (List.mem_of_getElem? (i := 399) (by decide +kernel)))
  · exact va_Nw.of rfl (hts (.methodLinkNest "LightScript$Scribe" 80 ({ cls := "LightScript", name := "isAngle", desc := "(I)Z" } : Jvm.MethodName) "LightScript") (List.mem_of_getElem? (i := 717) (by decide +kernel)))
theorem st_nw {s : State} {b : Addr} (hts : ∀ w ∈ lw_tbl, w.before #[Value.ref b] s = true) : ∀ w ∈ nwL, va_Nw w s := by
  intro w hw
  simp only [nwL, List.mem_cons, List.not_mem_nil, or_false] at hw
  rcases hw with rfl | rfl | rfl | rfl | rfl
  · exact va_Nw.of rfl (hts (.declares ⟨"java/lang/RuntimeException", "<init>", "(Ljava/lang/String;)V"⟩) (List.mem_of_getElem? (i := 1109) (by decide +kernel)))
  · exact va_Nw.of rfl (hts (.declares ⟨"java/lang/Exception", "<init>", "(Ljava/lang/String;)V"⟩) (List.mem_of_getElem? (i := 1111) (by decide +kernel)))
  · exact va_Nw.of rfl (hts (.declares ⟨"java/lang/Throwable", "<init>", "(Ljava/lang/String;)V"⟩) (List.mem_of_getElem? (i := 1113) (by decide +kernel)))
  · exact va_Nw.of rfl (hts (.castable "java/lang/IllegalArgumentException" "java/lang/IllegalArgumentException") (List.mem_of_getElem? (i := 1224) (by decide +kernel)))
  · exact va_Nw.of rfl (hts (.castable "java/lang/IllegalStateException" "java/lang/IllegalStateException") (List.mem_of_getElem? (i := 1107) (by decide +kernel)))
theorem st_ord {s : State} {b : Addr} (hfl : ∀ w ∈ flatC (Jvm.Cond.and given_1 narrow_1), w.before #[Value.ref b] s = true) : ∀ j : Nat, j < 9 → (Term.elem (.static "LightScript$Scribe" "ORDER_LENGTHS" "[I") (.int (Int32.ofNat j))).eval #[Value.ref b] s none [] s = some (vi (ordLen j)) := by
  intro j hj
  match j, hj with
  | 0, _ => exact va_eqt (z := Int32.ofInt (ordLen 0)) (hfl (.eq (.elem (.static "LightScript$Scribe" "ORDER_LENGTHS" "[I") (.int (Int32.ofNat 0))) (.int (Int32.ofInt (ordLen 0)))) (by decide +kernel))
  | 1, _ => exact va_eqt (z := Int32.ofInt (ordLen 1)) (hfl (.eq (.elem (.static "LightScript$Scribe" "ORDER_LENGTHS" "[I") (.int (Int32.ofNat 1))) (.int (Int32.ofInt (ordLen 1)))) (by decide +kernel))
  | 2, _ => exact va_eqt (z := Int32.ofInt (ordLen 2)) (hfl (.eq (.elem (.static "LightScript$Scribe" "ORDER_LENGTHS" "[I") (.int (Int32.ofNat 2))) (.int (Int32.ofInt (ordLen 2)))) (by decide +kernel))
  | 3, _ => exact va_eqt (z := Int32.ofInt (ordLen 3)) (hfl (.eq (.elem (.static "LightScript$Scribe" "ORDER_LENGTHS" "[I") (.int (Int32.ofNat 3))) (.int (Int32.ofInt (ordLen 3)))) (by decide +kernel))
  | 4, _ => exact va_eqt (z := Int32.ofInt (ordLen 4)) (hfl (.eq (.elem (.static "LightScript$Scribe" "ORDER_LENGTHS" "[I") (.int (Int32.ofNat 4))) (.int (Int32.ofInt (ordLen 4)))) (by decide +kernel))
  | 5, _ => exact va_eqt (z := Int32.ofInt (ordLen 5)) (hfl (.eq (.elem (.static "LightScript$Scribe" "ORDER_LENGTHS" "[I") (.int (Int32.ofNat 5))) (.int (Int32.ofInt (ordLen 5)))) (by decide +kernel))
  | 6, _ => exact va_eqt (z := Int32.ofInt (ordLen 6)) (hfl (.eq (.elem (.static "LightScript$Scribe" "ORDER_LENGTHS" "[I") (.int (Int32.ofNat 6))) (.int (Int32.ofInt (ordLen 6)))) (by decide +kernel))
  | 7, _ => exact va_eqt (z := Int32.ofInt (ordLen 7)) (hfl (.eq (.elem (.static "LightScript$Scribe" "ORDER_LENGTHS" "[I") (.int (Int32.ofNat 7))) (.int (Int32.ofInt (ordLen 7)))) (by decide +kernel))
  | 8, _ => exact va_eqt (z := Int32.ofInt (ordLen 8)) (hfl (.eq (.elem (.static "LightScript$Scribe" "ORDER_LENGTHS" "[I") (.int (Int32.ofNat 8))) (.int (Int32.ofInt (ordLen 8)))) (by decide +kernel))
  | n + 9, h => exact absurd h (by omega)
theorem st_stF {s : State} {b : Addr} (hts : ∀ w ∈ lw_tbl, w.before #[Value.ref b] s = true) (hfl : ∀ w ∈ flatC (Jvm.Cond.and given_1 narrow_1), w.before #[Value.ref b] s = true) : stF (fun q : Nat => s.heap.size ≤ q) s s.heap := by
  have hA : ∀ a : Nat, a < s.heap.size → ¬ (fun q : Nat => s.heap.size ≤ q) a := fun a h => Nat.not_le.mpr h
  refine ⟨?_, vx_Zqof (hts (.laysStatic Bundle.tN "UNASSIGNED_STACK" Bundle.steD) (List.mem_of_getElem? (i := 1132) (by decide +kernel))) (hts (.initialized Bundle.tN) (List.mem_of_getElem? (i := 83) (by decide +kernel))) (hfl (.isRef (.static Bundle.tN "UNASSIGNED_STACK" Bundle.steD)) (by decide +kernel)) hA, vx_Zqof (hts (.laysStatic Bundle.tN "SUPPRESSED_SENTINEL" Bundle.listD) (List.mem_of_getElem? (i := 1134) (by decide +kernel))) (hts (.initialized Bundle.tN) (List.mem_of_getElem? (i := 83) (by decide +kernel))) (hfl (.isRef (.static Bundle.tN "SUPPRESSED_SENTINEL" Bundle.listD)) (by decide +kernel)) hA, st_strs hts hfl, st_nest hts, st_nw hts, va_Nc.of (hfl (.not (.castable "java/lang/IllegalStateException" "java/lang/IllegalArgumentException")) (by decide +kernel))⟩
  obtain ⟨t, ht, hT⟩ := va_Tof (args := #[Value.ref b]) (s := s) (tm := (.static "LightScript$Scribe" "ORDER_LENGTHS" "[I")) (ty := .int) (N := 9) (f := fun j => vi (ordLen j)) (A := fun q : Nat => s.heap.size ≤ q) (by decide) (hfl (.arrayOf (.static "LightScript$Scribe" "ORDER_LENGTHS" "[I") .int) (by decide +kernel)) (va_eqt (z := Int32.ofNat 9) (hfl (.eq (.length (.static "LightScript$Scribe" "ORDER_LENGTHS" "[I")) (.int (Int32.ofNat 9))) (by decide +kernel))) (st_ord hfl) hA
  exact ⟨t, va_Zof (hts (.laysStatic "LightScript$Scribe" "ORDER_LENGTHS" "[I") (List.mem_of_getElem? (i := 696) (by decide +kernel))) (hts (.initialized "LightScript$Scribe") (List.mem_of_getElem? (i := 72) (by decide +kernel))) ht hA, hT⟩
/-- a cell's words depend on the first n addresses alone -/
def stb (n : Nat) (d : Cd) : Prop := ∀ (g : Gm) (ad : Nat → Nat) (f : Int → Int) (q : Nat) (H : Heap), (∀ i, i < n → gad g i = ad i) → va_at (gD g) vwCl (q, d g f) H → va_at (gD g) vwCl (q, d (gAt g ad) f) H
theorem stb_I {n m : Nat} : stb n (cI m) := fun g ad f q H _ h => h
theorem stb_L {n m : Nat} : stb n (cL m) := fun g ad f q H _ h => h
theorem stb_B {n m : Nat} : stb n (cB m) := fun g ad f q H _ h => h
theorem stb_Z {n m : Nat} : stb n (cZ m) := fun g ad f q H _ h => h
def fdOk (n : Nat) : Fd0 → Bool := fun x => match x with
  | .inl i => Nat.blt i n
  | .inr _ => true
theorem stb_O {n ci : Nat} {fs : List Fd0} (h : fs.all (fdOk n) = true) : stb n (cO ci fs) := by
  intro g ad f q H ha h1
  have e : fs.map (fv (gAt g ad) f) = fs.map (fv g f) := by
    apply List.map_congr_left
    intro x hx
    have hx2 := List.all_eq_true.mp h x hx
    cases x with
    | inl i =>
      have hi : i < n := Nat.le_of_ble_eq_true hx2
      show Value.ref (ad i) = Value.ref (gad g i)
      rw [ha i hi]
    | inr k => rfl
  show va_at (gD g) vwCl (q, .inr (ci, fs.map (fv (gAt g ad) f))) H
  rw [e]
  exact h1
theorem stb_T {n m : Nat} {h : Nat → Nat} (hh : ∀ k, k < m → h k < n) : stb n (cT m h) := by
  intro g ad f q H ha h1
  show H[q]? = some (vp_cell (gca g 4) (m, .inr (.inr (.inr (.inr (fun k => some (ad (h k))))))))
  rw [vp_cell_q, ← arrV_ext (gca g 4) m (f := fun j => va_rf (some (gad g (h j)))) (fun j hj => by rw [ha _ (hh j hj)])]
  exact h1
theorem st_cons {p : Cd → Prop} {a : Cd} {l : List Cd} (h1 : p a) (h2 : ∀ x ∈ l, p x) : ∀ x ∈ a :: l, p x := List.forall_mem_cons.mpr ⟨h1, h2⟩
theorem st_nil {p : Cd → Prop} : ∀ x ∈ ([] : List Cd), p x := fun _ h => absurd h List.not_mem_nil
set_option maxRecDepth 100000 in
theorem stb_yC : ∀ d ∈ yC.1, stb 101 d := st_cons (stb_O rfl) (st_cons (stb_O rfl) (st_cons stb_B (st_cons stb_I (st_cons stb_I (st_cons stb_I (st_cons (stb_O rfl) (st_cons stb_I (st_cons stb_I (st_cons stb_I (st_cons stb_I (st_cons stb_I (st_cons stb_I (st_cons (stb_O rfl) (st_cons stb_I (st_cons stb_I (st_cons stb_Z (st_cons stb_I (st_cons stb_I (st_cons (stb_O rfl) (st_cons stb_I (st_cons stb_I (st_cons stb_I (st_cons stb_I (st_cons (stb_O rfl) (st_cons (stb_O rfl) (st_cons stb_I (st_cons stb_I (st_cons stb_I (st_cons stb_I (st_cons stb_I (st_cons stb_I (st_cons (stb_O rfl) (st_cons stb_I (st_cons stb_Z (st_cons stb_I (st_cons stb_I (st_cons stb_I (st_cons stb_I (st_cons stb_I (st_cons (stb_O rfl) (st_cons stb_I (st_cons stb_I (st_cons stb_I (st_cons (stb_O rfl) (st_cons stb_I (st_cons stb_I (st_cons stb_I (st_cons (stb_O rfl) (st_cons stb_I (st_cons stb_I (st_cons stb_I (st_cons stb_I (st_cons stb_I (st_cons (stb_O rfl) (st_cons stb_I (st_cons stb_I (st_cons stb_Z (st_cons (stb_T (fun k h => by show 59 + 7 * k < 101; omega)) (st_cons (stb_O rfl) (st_cons stb_L (st_cons (stb_O rfl) (st_cons stb_I (st_cons stb_I (st_cons stb_I (st_cons stb_I (st_cons (stb_O rfl) (st_cons stb_L (st_cons (stb_O rfl) (st_cons stb_I (st_cons stb_I (st_cons stb_I (st_cons stb_I (st_cons (stb_O rfl) (st_cons stb_L (st_cons (stb_O rfl) (st_cons stb_I (st_cons stb_I (st_cons stb_I (st_cons stb_I (st_cons (stb_O rfl) (st_cons stb_L (st_cons (stb_O rfl) (st_cons stb_I (st_cons stb_I (st_cons stb_I (st_cons stb_I (st_cons (stb_O rfl) (st_cons stb_L (st_cons (stb_O rfl) (st_cons stb_I (st_cons stb_I (st_cons stb_I (st_cons stb_I (st_cons (stb_O rfl) (st_cons stb_L (st_cons (stb_O rfl) (st_cons stb_I (st_cons stb_I (st_cons stb_I (st_cons stb_I (st_nil)))))))))))))))))))))))))))))))))))))))))))))))))))))))))))))))))))))))))))))))))))))))))))))))))))))
set_option maxRecDepth 100000 in
theorem stb_yR : ∀ d ∈ yR.1, stb 45 d := st_cons (stb_O rfl) (st_cons stb_I (st_cons stb_I (st_cons stb_I (st_cons stb_I (st_cons stb_I (st_cons stb_I (st_cons stb_I (st_cons stb_I (st_cons stb_I (st_cons stb_I (st_cons stb_I (st_cons stb_I (st_cons stb_I (st_cons stb_I (st_cons stb_I (st_cons stb_I (st_cons stb_I (st_cons stb_I (st_cons stb_I (st_cons stb_I (st_cons stb_I (st_cons stb_I (st_cons stb_I (st_cons stb_I (st_cons stb_I (st_cons stb_I (st_cons stb_I (st_cons stb_I (st_cons stb_I (st_cons stb_I (st_cons stb_L (st_cons stb_I (st_cons stb_I (st_cons stb_I (st_cons stb_I (st_cons stb_I (st_cons stb_I (st_cons stb_Z (st_cons stb_Z (st_cons stb_I (st_cons stb_I (st_cons stb_I (st_cons stb_I (st_cons stb_Z (st_nil)))))))))))))))))))))))))))))))))))))))))))))
theorem vP_stb {n : Nat} {y : Sy} {g : Gm} {ad : Nat → Nat} {σ : Sg} {H : Heap} (hn : y.1.length = n) (hs : ∀ d ∈ y.1, stb n d) (ha : ∀ i, i < n → gad g i = ad i) (h : va_P (gD g) vwCl (wd y g σ) H) : va_P (gD g) vwCl (wd y (gAt g ad) σ) H := by
  intro k q hk
  have hl := (wd_in hk).1
  obtain ⟨d, hd⟩ : ∃ d, y.1[k]? = some d := ⟨_, List.getElem?_eq_getElem hl⟩
  rw [wd_at hd] at hk
  cases hk
  have h1 := h k _ (wd_at hd)
  rw [ha k (by omega)] at h1
  exact hs d (List.mem_of_getElem? hd) g ad (σ k) _ H ha h1
theorem lenC : yC.1.length = 101 := rfl
theorem lenR : yR.1.length = 45 := rfl
set_option maxRecDepth 100000 in
theorem lenL : yL.1.length = 147 := rfl
set_option maxRecDepth 100000 in
theorem wd_in_yL {g : Gm} {σ τ : Sg} {f : Int → Int} {e : Nat × va_E} (h : e ∈ wd yL g (zL σ τ f)) : e ∈ wd yC g σ ∨ e ∈ wd yR (sh 101 g) τ ∨ e = (gad g 146, cL 1 g f) := by
  obtain ⟨i, hi⟩ := List.getElem?_of_mem h
  have hn := (wd_in hi).1
  rw [lenL] at hn
  by_cases c : i < 101
  · left
    obtain ⟨d, hd⟩ : ∃ d, yC.1[i]? = some d := ⟨_, List.getElem?_eq_getElem (by rw [lenC]; exact c)⟩
    obtain ⟨d2, h1, h2⟩ := EmC.2 i d hd
    rw [Nat.zero_add] at h1
    rw [wd_at h1, h2, sh_0, show zL σ τ f i = σ i from by unfold zL; rw [if_pos c]] at hi
    cases hi
    exact List.mem_of_getElem? (wd_at hd)
  · by_cases c2 : i < 146
    · right; left
      obtain ⟨d, hd⟩ : ∃ d, yR.1[i - 101]? = some d := ⟨_, List.getElem?_eq_getElem (by rw [lenR]; omega)⟩
      obtain ⟨d2, h1, h2⟩ := EmR.2 (i - 101) d hd
      rw [show 101 + (i - 101) = i from by omega] at h1
      rw [wd_at h1, h2, show zL σ τ f i = τ (i - 101) from by unfold zL; rw [if_neg c, if_pos c2]] at hi
      cases hi
      have h9 := wd_at (g := sh 101 g) (σ := τ) hd
      rw [show gad (sh 101 g) (i - 101) = gad g i from by show gad g (101 + (i - 101)) = gad g i; rw [show 101 + (i - 101) = i from by omega]] at h9
      exact List.mem_of_getElem? h9
    · right; right
      have e9 : i = 146 := by omega
      subst e9
      rw [wd_at (y := yL) (i := 146) (d := cL 1) aL_146.1, show zL σ τ f 146 = f from rfl] at hi
      cases hi
      rfl
theorem st_world {g : Gm} {A : Nat → Prop} {q : Nat} {e1 e2 : Nat → Nat} {H : Heap} (hP : va_P (gD g) vwCl ((q, .inl (gca g 1, (1, .inr (.inl (fun _ => 0))))) :: (wd yR (gAt g e2) τR0 ++ wd yC (gAt g e1) σC0)) H) (hD : va_D A ((q, .inl (gca g 1, (1, .inr (.inl (fun _ => 0))))) :: (wd yR (gAt g e2) τR0 ++ wd yC (gAt g e1) σC0))) : ∃ g1 : Gm, gD g1 = gD g ∧ tysOf g1 = tysOf g ∧ gInj yL g1 ∧ (∀ z, aw yL g1 z → A z) ∧ va_P (gD g1) vwCl (wd yL g1 (zL σC0 τR0 (fun _ => 0))) H ∧ e1 0 = gad g1 0 ∧ e2 0 = gad g1 101 ∧ q = gad g1 146 := by
  obtain ⟨ad, had⟩ : ∃ ad : Nat → Nat, ad = fun i => if i < 101 then e1 i else if i < 146 then e2 (i - 101) else q := ⟨_, rfl⟩
  obtain ⟨ws, hws⟩ : ∃ z : va_W, z = ((q, .inl (gca g 1, (1, .inr (.inl (fun _ => 0))))) :: (wd yR (gAt g e2) τR0 ++ wd yC (gAt g e1) σC0)) := ⟨_, rfl⟩
  rw [← hws] at hP hD
  have a1 : ∀ i, i < 101 → e1 i = ad i := fun i h => by
    rw [had]
    show _ = if i < 101 then _ else _
    rw [if_pos h]
  have a2 : ∀ i, i < 45 → e2 i = ad (101 + i) := fun i h => by
    rw [had]
    show _ = if 101 + i < 101 then _ else if 101 + i < 146 then _ else _
    rw [if_neg (by omega), if_pos (by omega), Nat.add_sub_cancel_left]
  have a3 : q = ad 146 := by
    rw [had]
    show _ = if 146 < 101 then _ else if 146 < 146 then _ else _
    rw [if_neg (by decide), if_neg (by decide)]
  have key : ∀ i, i < 147 → ∃ v, ws[if i < 101 then 46 + i else if i < 146 then i - 100 else 0]? = some (ad i, v) := by
    intro i hi
    by_cases c : i < 101
    · obtain ⟨d, hd⟩ : ∃ d, yC.1[i]? = some d := ⟨_, List.getElem?_eq_getElem (by rw [lenC]; exact c)⟩
      refine ⟨d (gAt g e1) (σC0 i), ?_⟩
      rw [if_pos c, hws, show 46 + i = (45 + i) + 1 from by omega, List.getElem?_cons_succ, List.getElem?_append_right (by rw [wd_len, lenR]; omega), wd_len, lenR, Nat.add_sub_cancel_left, ← a1 i c]
      exact wd_at hd
    · by_cases c2 : i < 146
      · obtain ⟨d, hd⟩ : ∃ d, yR.1[i - 101]? = some d := ⟨_, List.getElem?_eq_getElem (by rw [lenR]; omega)⟩
        refine ⟨d (gAt g e2) (τR0 (i - 101)), ?_⟩
        have h9 := a2 (i - 101) (by omega)
        rw [show 101 + (i - 101) = i from by omega] at h9
        rw [if_neg c, if_pos c2, hws, show i - 100 = (i - 101) + 1 from by omega, List.getElem?_cons_succ, List.getElem?_append_left (by rw [wd_len, lenR]; omega), ← h9]
        exact wd_at hd
      · have e9 : i = 146 := by omega
        subst e9
        refine ⟨.inl (gca g 1, (1, .inr (.inl (fun _ => 0)))), ?_⟩
        rw [if_neg c, if_neg c2, hws, ← a3]
        rfl
  refine ⟨gAt g ad, rfl, rfl, ?_, ?_, ?_, a1 0 (by decide), a2 0 (by decide), a3⟩
  · intro i j hi hj e
    rw [lenL] at hi hj
    obtain ⟨v, hv⟩ := key i hi
    obtain ⟨w, hw⟩ := key j hj
    have h9 := hD.1 _ _ _ _ hv hw e
    by_cases c1 : i < 101 <;> by_cases c2 : i < 146 <;> by_cases c3 : j < 101 <;> by_cases c4 : j < 146 <;> simp only [c1, c2, c3, c4, if_true, if_false] at h9 <;> omega
  · rintro z ⟨i, hi, rfl⟩
    rw [lenL] at hi
    obtain ⟨v, hv⟩ := key i hi
    exact hD.2 _ _ hv
  · have hC0 : va_P (gD g) vwCl (wd yC (gAt g e1) σC0) H := vP_mem hP (fun r hr => by rw [hws]; exact List.mem_cons_of_mem _ (List.mem_append.mpr (Or.inr hr)))
    have hR0 : va_P (gD g) vwCl (wd yR (gAt g e2) τR0) H := vP_mem hP (fun r hr => by rw [hws]; exact List.mem_cons_of_mem _ (List.mem_append.mpr (Or.inl hr)))
    have hC : va_P (gD g) vwCl (wd yC (gAt g ad) σC0) H := vP_stb (g := gAt g e1) (ad := ad) lenC stb_yC (fun i h => a1 i h) hC0
    have hR : va_P (gD g) vwCl (wd yR (sh 101 (gAt g ad)) τR0) H := vP_stb (g := gAt g e2) (ad := fun i => ad (101 + i)) lenR stb_yR (fun i h => a2 i h) hR0
    intro k r hk
    rcases wd_in_yL (List.mem_of_getElem? hk) with h | h | h
    · obtain ⟨i, hi⟩ := List.getElem?_of_mem h
      exact hC i r hi
    · obtain ⟨i, hi⟩ := List.getElem?_of_mem h
      exact hR i r hi
    · rw [h]
      have h9 := hP 0 (q, .inl (gca g 1, (1, .inr (.inl (fun _ => 0))))) (by rw [hws]; rfl)
      rw [a3] at h9
      exact h9
