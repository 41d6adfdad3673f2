
/-- the state of a system: what stands at place k of cell i -/
abbrev Sg : Type := Nat → Int → Int
abbrev Gm : Type := (Nat → ClassId) × (Nat → Nat → Nat) × (Nat → ClassId) × (Nat → Nat)
def gad (g : Gm) (i : Nat) : Nat := g.2.2.2 i
def gca (g : Gm) (i : Nat) : ClassId := g.2.2.1 i
abbrev gD (g : Gm) : va_G := (g.1, g.2.1)
def vi (x : Int) : Value := .int (Int32.ofInt x)
def vl (x : Int) : Value := .long (Int64.ofInt x)
abbrev Cd : Type := Gm → (Int → Int) → va_E
def cI (n : Nat) : Cd := fun g f => .inl (gca g 0, (n, .inl (fun k => Int32.ofInt (f k))))
def cL (n : Nat) : Cd := fun g f => .inl (gca g 1, (n, .inr (.inl (fun k => Int64.ofInt (f k)))))
def cB (n : Nat) : Cd := fun g f => .inl (gca g 2, (n, .inl (fun k => Int32.ofInt (f k))))
def cZ (n : Nat) : Cd := fun g f => .inl (gca g 3, (n, .inl (fun k => Int32.ofInt (f k))))
def cT (n : Nat) (h : Nat → Nat) : Cd := fun g _ => .inl (gca g 4, (n, .inr (.inr (.inr (.inr (fun k => some (gad g (h k))))))))
/-- an object: each field is a cell of the system, or a number at a place of its own -/
abbrev Fd0 : Type := Nat ⊕ Int
def fv (g : Gm) (f : Int → Int) (x : Fd0) : Value := match x with
  | .inl i => .ref (gad g i)
  | .inr k => vi (f k)
def cO (ci : Nat) (fs : List Fd0) : Cd := fun g f => .inr (ci, fs.map (fv g f))
abbrev Sy : Type := List Cd × (Nat → Bool)
def wd (y : Sy) (g : Gm) (σ : Sg) : va_W := (List.range y.1.length).map (fun i => (gad g i, (y.1.getD i (cI 0)) g (σ i)))
def tysOf (g : Gm) : List (ClassId × FieldType) := [(gca g 0, .int), (gca g 1, .long), (gca g 2, .byte), (gca g 3, .boolean), (gca g 4, .object "LightScript$Tape")]
def gInj (y : Sy) (g : Gm) : Prop := ∀ i j, i < y.1.length → j < y.1.length → gad g i = gad g j → i = j
def aw (y : Sy) (g : Gm) : Nat → Prop := fun q => ∃ i, i < y.1.length ∧ q = gad g i
def setA (σ : Sg) (i : Nat) (f : Int → Int) : Sg := fun j => if j = i then f else σ j
def put (σ : Sg) (i : Nat) (k v : Int) : Sg := setA σ i (fun n => if n = k then v else σ i n)
def wfS (y : Sy) (σ : Sg) : Prop := ∀ i k, y.2 i = false → rg (σ i k)
theorem wfS_set {y : Sy} {σ : Sg} {i : Nat} {f : Int → Int} (h : wfS y σ) (hf : y.2 i = true ∨ ∀ k, rg (f k)) : wfS y (setA σ i f) := by
  intro j k hj
  unfold setA
  by_cases e : j = i
  · subst e
    rw [if_pos rfl]
    rcases hf with q | q
    · rw [q] at hj; cases hj
    · exact q k
  · rw [if_neg e]; exact h j k hj
theorem wfS_put {y : Sy} {σ : Sg} {i : Nat} {k v : Int} (h : wfS y σ) (hi : y.2 i = false) (hv : rg v) : wfS y (put σ i k v) := by
  refine wfS_set h (Or.inr fun n => ?_)
  by_cases e : n = k
  · simp only [e, if_true]; exact hv
  · simp only [e, if_false]; exact h i n hi
theorem wfS_putL {y : Sy} {σ : Sg} {i : Nat} {k v : Int} (h : wfS y σ) (hi : y.2 i = true) : wfS y (put σ i k v) := wfS_set h (Or.inl hi)
/-! numbers -/
theorem ofI_toInt {x : Int} (h : rg x) : (Int32.ofInt x).toInt = x := Int32.toInt_ofInt_of_le h.1 (by have := h.2; omega)
theorem ofI_lt {x y : Int} (hx : rg x) (hy : rg y) : Int32.ofInt x < Int32.ofInt y ↔ x < y := by rw [Int32.lt_iff_toInt_lt, ofI_toInt hx, ofI_toInt hy]
theorem ofI_le {x y : Int} (hx : rg x) (hy : rg y) : Int32.ofInt x ≤ Int32.ofInt y ↔ x ≤ y := by rw [Int32.le_iff_toInt_le, ofI_toInt hx, ofI_toInt hy]
theorem ofI_eq {x y : Int} (hx : rg x) (hy : rg y) : Int32.ofInt x = Int32.ofInt y ↔ x = y := by rw [← Int32.toInt_inj, ofI_toInt hx, ofI_toInt hy]
theorem rg_of {x : Int} {n : Nat} (hn : n ≤ 2147483648) (h0 : 0 ≤ x) (h1 : x < n) : rg x := ⟨by omega, by omega⟩
theorem ofI_in {x : Int} {n : Nat} (hn : n ≤ 2147483648) (h0 : 0 ≤ x) (h1 : x < n) : vp_in (Int32.ofInt x) n := by
  rw [vp_in_iff, ofI_toInt (rg_of hn h0 h1)]; exact ⟨h0, h1⟩
theorem ofI_cl {x : Int} {n : Nat} (hn : n ≤ 2147483648) (h0 : 0 ≤ x) (h1 : x < n) : (Int32.ofInt x).toNatClampNeg = x.toNat := by
  show (Int32.ofInt x).toInt.toNat = _
  rw [ofI_toInt (rg_of hn h0 h1)]
theorem rg_toInt (z : Int32) : rg z.toInt := ⟨by have := Int32.le_toInt z; omega, by have := Int32.toInt_lt z; omega⟩
/-! the world -/
theorem wd_at {y : Sy} {g : Gm} {σ : Sg} {i : Nat} {d : Cd} (h : y.1[i]? = some d) : (wd y g σ)[i]? = some (gad g i, d g (σ i)) := by
  have hi : i < y.1.length := (List.getElem?_eq_some_iff.mp h).1
  have h2 : y.1[i] = d := (List.getElem?_eq_some_iff.mp h).2
  simp [wd, hi, h2]
theorem wd_len {y : Sy} {g : Gm} {σ : Sg} : (wd y g σ).length = y.1.length := by simp [wd]
theorem wd_in {y : Sy} {g : Gm} {σ : Sg} {k : Nat} {q : Nat × va_E} (h : (wd y g σ)[k]? = some q) : k < y.1.length ∧ q.1 = gad g k := by
  have hk : k < y.1.length := by have := (List.getElem?_eq_some_iff.mp h).1; rwa [wd_len] at this
  have h2 : (wd y g σ)[k]? = some (gad g k, y.1[k] g (σ k)) := wd_at (by simp [hk])
  rw [h2] at h
  exact ⟨hk, by rw [← Option.some.inj h]⟩
theorem wd_D {y : Sy} {g : Gm} (hg : gInj y g) (σ : Sg) : va_D (aw y g) (wd y g σ) := by
  refine ⟨fun i j p q hi hj e => ?_, fun k q hk => ?_⟩
  · obtain ⟨a1, a2⟩ := wd_in hi
    obtain ⟨b1, b2⟩ := wd_in hj
    exact hg i j a1 b1 (by rw [← a2, ← b2, e])
  · obtain ⟨a1, a2⟩ := wd_in hk
    exact ⟨k, a1, a2⟩
theorem wd_set {y : Sy} {g : Gm} {σ : Sg} {i : Nat} {d : Cd} {f : Int → Int} (h : y.1[i]? = some d) : (wd y g σ).set i (gad g i, d g f) = wd y g (setA σ i f) := by
  have hi : i < y.1.length := (List.getElem?_eq_some_iff.mp h).1
  apply List.ext_getElem?
  intro k
  by_cases hk : k = i
  · subst hk
    rw [List.getElem?_set_self (by rw [wd_len]; exact hi), wd_at h]
    simp [setA]
  · rw [List.getElem?_set_ne (Ne.symm hk)]
    simp [wd, List.getElem?_map, setA]
    by_cases hl : k < y.1.length
    · simp [hl, hk]
    · simp [hl]
theorem wd_put {y : Sy} {g : Gm} {σ : Sg} {i : Nat} {d : Cd} {k v : Int} (h : y.1[i]? = some d) {c : va_E} (hc : c = d g (fun n => if n = k then v else σ i n)) : (wd y g σ).set i (gad g i, c) = wd y g (put σ i k v) := by
  rw [hc, wd_set h]; rfl
theorem updI {f : Int → Int} {x v : Int} (h0 : 0 ≤ x) : upd (fun k : Nat => Int32.ofInt (f k)) x.toNat (Int32.ofInt v) = fun k : Nat => Int32.ofInt (if (k : Int) = x then v else f k) := by
  funext k
  unfold upd
  by_cases e : k = x.toNat
  · have e2 : (k : Int) = x := by omega
    rw [if_pos e, if_pos e2]
  · have e2 : ¬ (k : Int) = x := by omega
    rw [if_neg e, if_neg e2]
theorem updL {f : Int → Int} {x v : Int} (h0 : 0 ≤ x) : vp_updL (fun k : Nat => Int64.ofInt (f k)) x.toNat (Int64.ofInt v) = fun k : Nat => Int64.ofInt (if (k : Int) = x then v else f k) := by
  funext k
  unfold vp_updL
  by_cases e : k = x.toNat
  · have e2 : (k : Int) = x := by omega
    rw [if_pos e, if_pos e2]
  · have e2 : ¬ (k : Int) = x := by omega
    rw [if_neg e, if_neg e2]
/-! the static fields that the systems read -/
def ordLen (k : Nat) : Int := match k with
  | 0 => 1 | 1 => 4 | 2 => 2 | 3 => 4 | 4 => 5 | 5 => 5 | 6 => 2 | 7 => 1 | _ => 2
def strL : List (String × Nat × String) := [("LightScript$Tape", 57, "CUES are OPEN"), ("LightScript", 194, "no such what"), ("LightScript", 204, "no such CUE"), ("LightScript", 297, "no such CUE or what"), ("LightScript", 299, "the CUE doesn't fire"), ("LightScript", 350, "no such TAPE"), ("LightScript", 352, "no row, or no such place in it")]
def nestL : List (String × Nat × MethodName × String) := [("LightScript", 9, ({ cls := "LightScript$Site", name := "<init>", desc := "()V" } : Jvm.MethodName), "LightScript"), ("LightScript$Site", 27, ({ cls := "LightScript$Kinds", name := "<init>", desc := "()V" } : Jvm.MethodName), "LightScript"), ("LightScript$Site", 34, ({ cls := "LightScript$Air", name := "<init>", desc := "()V" } : Jvm.MethodName), "LightScript"), ("LightScript", 18, ({ cls := "LightScript$Cues", name := "<init>", desc := "()V" } : Jvm.MethodName), "LightScript"), ("LightScript$Scribe", 11, ({ cls := "LightScript$Cues", name := "<init>", desc := "()V" } : Jvm.MethodName), "LightScript"), ("LightScript", 43, ({ cls := "LightScript$Meters", name := "<init>", desc := "()V" } : Jvm.MethodName), "LightScript"), ("LightScript", 50, ({ cls := "LightScript$Rules", name := "<init>", desc := "()V" } : Jvm.MethodName), "LightScript"), ("LightScript", 79, ({ cls := "LightScript$Tape", name := "<init>", desc := "()V" } : Jvm.MethodName), "LightScript"), ("LightScript$Tape", 17, ({ cls := "LightScript$Cues", name := "<init>", desc := "()V" } : Jvm.MethodName), "LightScript"), ("LightScript$Scribe", 80, ({ cls := "LightScript", name := "isAngle", desc := "(I)Z" } : Jvm.MethodName), "LightScript")]
def nwL : List Cond := [.declares ⟨"java/lang/RuntimeException", "<init>", "(Ljava/lang/String;)V"⟩, .declares ⟨"java/lang/Exception", "<init>", "(Ljava/lang/String;)V"⟩, .declares ⟨"java/lang/Throwable", "<init>", "(Ljava/lang/String;)V"⟩, .castable "java/lang/IllegalArgumentException" "java/lang/IllegalArgumentException", .castable "java/lang/IllegalStateException" "java/lang/IllegalStateException"]
theorem nwL_warm {s U : State} (hW : s.WarmedH U.vm) : ∀ w ∈ nwL, va_Nw w s → va_Nw w U := by
  intro w hw h
  simp only [nwL, List.mem_cons, List.not_mem_nil, or_false] at hw
  rcases hw with rfl | rfl | rfl | rfl | rfl
  · exact va_Nw.warmD hW h
  · exact va_Nw.warmD hW h
  · exact va_Nw.warmD hW h
  · exact va_Nw.warmC hW h
  · exact va_Nw.warmC hW h
theorem nwL_tabs : ∀ w ∈ nwL, w.onTables = true := by decide +kernel
def stF (A : Nat → Prop) (U : State) (H : Heap) : Prop := (∃ t, va_Z "LightScript$Scribe" "ORDER_LENGTHS" "[I" (.ref t) A U H ∧ va_T .int t 9 (fun j => vi (ordLen j)) A U H) ∧
  vx_Zq Bundle.tN "UNASSIGNED_STACK" Bundle.steD A U H ∧ vx_Zq Bundle.tN "SUPPRESSED_SENTINEL" Bundle.listD A U H ∧ (∀ q ∈ strL, ∃ sa, vk_R q.1 q.2.1 q.2.2 sa U) ∧ (∀ q ∈ nestL, va_Nw (.methodLinkNest q.1 q.2.1 q.2.2.1 q.2.2.2) U) ∧ (∀ w ∈ nwL, va_Nw w U) ∧ va_Nc "java/lang/IllegalStateException" "java/lang/IllegalArgumentException" U
theorem stF.go {A : Nat → Prop} {s U : State} {H : Heap} {locs : List Loc} (h : stF A s s.heap) (hS : va_S A s.heap H locs) (hW : s.WarmedH U.vm) : stF A U H := by
  obtain ⟨⟨t, h1, h2⟩, h3, h4, h5, h7, h8, h10⟩ := h
  refine ⟨⟨t, va_Z.moved hW.alike (h1.kept hS.2.1), va_T.moved hW.alike (h2.kept hS.2.1)⟩, vx_Zq.moved hW.alike (h3.kept hS.2.1), vx_Zq.moved hW.alike (h4.kept hS.2.1), fun q hq => ?_, fun q hq => (h7 q hq).warmM hW, fun w hw => nwL_warm hW w hw (h8 w hw), va_Nc.moved hW.alike h10⟩
  obtain ⟨sa, h6⟩ := h5 q hq
  exact ⟨sa, h6.warm hW⟩
theorem stF.narrow {A B : Nat → Prop} {s : State} {H : Heap} (h : stF A s H) (hAB : ∀ q, B q → A q) : stF B s H := by
  obtain ⟨⟨t, h1, h2⟩, h3, h4, h5⟩ := h
  exact ⟨⟨t, h1.narrow hAB, h2.narrow hAB⟩, h3.narrow hAB, h4.narrow hAB, h5⟩
/-! the judgement -/
abbrev Ct : Type := Program × Launch × Env × Room × State × MethodId × Array Value × List Frame × Method × Code × (State → Prop) × Nat × Nat
def J (x : Ct) (y : Sy) (g : Gm) (nL : Nat) (pc : Nat) (lo : List (Nat × Value)) (st : List Value) (σ : Sg) : Prop := match x with
  | (p, l, e, R, s, m, args, below, meth, c, Q, kc, ks) => ∀ (H : Heap) (locs : List Loc) (ls : Array Slot), va_P (gD g) vwCl (wd y g σ) H → va_S (aw y g) s.heap H locs → lv_has ls nL lo → W p l e R s m args below meth c H locs kc ks Q (F0 m pc ls st)
def Cx (x : Ct) (y : Sy) (g : Gm) (nL : Nat) (cc : ByteArray) (own : String) (nf nlc : Nat) : Prop := match x with
  | (p, l, e, R, s, m, args, below, meth, c, Q, kc, ks) => p.tables.exec = Jvm.exec ∧ c.code = cc ∧ c.maxLocals = nL ∧ s.vm.findClass own = some m.cls ∧ (∀ w ∈ okw, w.before args s = true) ∧ va_K (gD g) vwCl (tysOf g) s ∧ gInj y g ∧ nf ≤ R.frames ∧ nlc ≤ R.locals ∧ meth.locks = false ∧ stF (aw y g) s s.heap ∧ kc ≤ R.cells ∧ ks ≤ R.slots
/-- how the world stands behind a method -/
def QJ (y : Sy) (g : Gm) (rv : Option Value) (σ : Sg) (zz : Prop) : Array Value → State → Outcome → State → Prop := fun _ st o t => (o = .returned rv ∧ va_P (gD g) vwCl (wd y g σ) t.heap ∧ zz) ∧ va_F (aw y g) st t
def PJ (y : Sy) (g : Gm) (avs : List Value) (σ : Sg) : Array Value → State → Prop := va_Pc avs (fun U => va_P (gD g) vwCl (wd y g σ) U.heap ∧ va_K (gD g) vwCl (tysOf g) U ∧ stF (aw y g) U U.heap)
def CJ (l : Launch) (y : Sy) (g : Gm) (n : MethodName) (cc : ByteArray) (maxL : Nat) (ret : Option FieldType) (fr lc : Nat) (avs : List Value) (σ : Sg) (rv : Option Value) (σ' : Sg) (zz : Prop) : Prop :=
  Met l n (.code n cc maxL ret :: okw) { frames := fr, cells := 0, slots := 0, locals := lc } (PJ y g avs σ) (QJ y g rv σ' zz) 0 0 (aw y g)
def Rx (x : Ct) (y : Sy) (g : Gm) (ret : Option FieldType) (rv : Option Value) (σ' : Sg) (zz : Prop) : Prop := match x with
  | (p, l, e, R, s, m, args, below, meth, c, Q, kc, ks) => meth.sig.returnType = ret ∧ ∃ mc ms, kc ≤ mc ∧ ks ≤ ms ∧ Q = MQ below (QJ y g rv σ' zz) args s mc ms (aw y g)
theorem PJ_blind {y : Sy} {g : Gm} {avs : List Value} {σ : Sg} : FrameBlind (PJ y g avs σ) := by
  intro a U f mk h
  obtain ⟨h1, h2, h3, ⟨t, z1, z2⟩, h5, h6, h7, h8, h9, h10⟩ := h
  have hal : U.vm.Alike (U.calling f mk a).vm := Vm.Alike.refl U.vm
  exact ⟨h1, h2, va_K.moved hal h3, ⟨t, va_Z.moved hal z1, va_T.moved hal z2⟩, vx_Zq.moved hal h5, vx_Zq.moved hal h6, fun q hq => (by obtain ⟨sa, z⟩ := h7 q hq; exact ⟨sa, z.same rfl⟩), fun q hq => (h8 q hq).same rfl rfl, fun w hw => va_Nw.same (u := U) (U := U.calling f mk a) (nwL_tabs w hw) rfl (h9 w hw), va_Nc.moved hal h10⟩
/-- a method's contract out of its body's walk -/
theorem CJ_of {l : Launch} {y : Sy} {g : Gm} {n : MethodName} {cc : ByteArray} {maxL : Nat} {ret : Option FieldType} {fr lc : Nat} {avs : List Value} {σ : Sg} {rv : Option Value} {σ' : Sg} {zz : Prop} {own : String} {lo : List (Nat × Value)}
    (hg : gInj y g) (hy : plainName n.cls = true) (hown : n.cls = own) (hlen : (lg_sl avs).length ≤ maxL) (hlo : lv_args 0 avs = lo)
    (body : ∀ x : Ct, Cx x y g maxL cc own fr lc → Rx x y g ret rv σ' zz → J x y g maxL 0 lo [] σ) : CJ l y g n cc maxL ret fr lc avs σ rv σ' zz := by
  subst hlo
  refine Met.ofW (cc := cc) (maxL := maxL) (ret := ret) hy rfl ?_
  intro p e s m args below meth c s₁ B hml hv
  obtain ⟨rfl, hP, hK, hst⟩ := hv
  have hts := atoms_spec (ws := .code n cc maxL ret :: okw) B.pre
  have hnm : s.vm.findClass own = some m.cls := by rw [← hown]; exact findClass_of_methodNamed B.named
  have hb := body (p, l, e, (headSpec (.code n cc maxL ret :: okw) { frames := fr, cells := 0, slots := 0, locals := lc }).room, s, m, avs.toArray, below, meth, c, MQ below (QJ y g rv σ' zz) avs.toArray s 0 0 (aw y g), 0, 0)
    ⟨B.exec, B.bytes, hml, hnm, fun w hw => hts w (List.mem_cons_of_mem _ hw), hK, hg, Nat.le_refl _, Nat.le_refl _, B.notSynchronized, hst, Nat.zero_le _, Nat.zero_le _⟩ ⟨B.returns, 0, 0, Nat.le_refl _, Nat.le_refl _, rfl⟩
  have hl := lv_entry avs (n := maxL) hlen
  rw [lg_entry_eq]
  exact hb s.heap [] _ hP va_S.rf hl
/-! what the generated functions are made of -/
def ck {α : Type} (v : Int) (K : Int → Option α) : Option α := if rg v then K v else none
def rd {α : Type} (σ : Sg) (i n : Nat) (x : Int) (K : Int → Option α) : Option α := if 0 ≤ x ∧ x < (n : Int) then K (σ i x) else none
def wr {α : Type} (σ : Sg) (i n : Nat) (x v : Int) (K : Sg → Option α) : Option α := if 0 ≤ x ∧ x < (n : Int) then K (put σ i x v) else none
def wrB {α : Type} (σ : Sg) (i n : Nat) (x v : Int) (K : Sg → Option α) : Option α := if (0 ≤ x ∧ x < (n : Int)) ∧ -128 ≤ v ∧ v ≤ 127 then K (put σ i x v) else none
def wrZ {α : Type} (σ : Sg) (i n : Nat) (x v : Int) (K : Sg → Option α) : Option α := if (0 ≤ x ∧ x < (n : Int)) ∧ (v = 0 ∨ v = 1) then K (put σ i x v) else none
def st1 {α : Type} (σ : Sg) (K : Sg → Option α) : Option α := K σ
def dv {α : Type} (a b : Int) (K : Int → Option α) : Option α := if 0 ≤ a ∧ 0 < b then K (a / b) else none
def md {α : Type} (a b : Int) (K : Int → Option α) : Option α := if 0 ≤ a ∧ 0 < b then K (a % b) else none
def fdv {α : Type} (a b : Int) (K : Int → Option α) : Option α := if 0 < b then K (a / b) else none
def bl {α : Type} (v : Int) (K : Option α) : Option α := if v = 0 ∨ v = 1 then K else none
def bAnd (a b : Int) : Int := (Int32.ofInt a &&& Int32.ofInt b).toInt
def bOr (a b : Int) : Int := (Int32.ofInt a ||| Int32.ofInt b).toInt
def bXor (a b : Int) : Int := (Int32.ofInt a ^^^ Int32.ofInt b).toInt
def bShl (a b : Int) : Int := (Int32.ofInt a <<< (Int32.ofInt b &&& 31)).toInt
def bShr (a b : Int) : Int := (Int32.ofInt a >>> (Int32.ofInt b &&& 31)).toInt
def toB (a : Int) : Int := (Int32.ofInt a).toInt8.toInt32.toInt
def toS (a : Int) : Int := (Int32.ofInt a).toInt16.toInt32.toInt
def toI (a : Int) : Int := (Int64.ofInt a).toInt32.toInt
def fillA (σ : Sg) (i n : Nat) (v : Int) : Sg := setA σ i (fun k => if 0 ≤ k ∧ k < (n : Int) then v else σ i k)
def copA (σ : Sg) (i j : Nat) (a b n : Int) : Sg := setA σ j (fun k => if b ≤ k ∧ k < b + n then σ i (a + (k - b)) else σ j k)
def cpy {α : Type} (σ : Sg) (i j ni nj : Nat) (a b n : Int) (K : Sg → Option α) : Option α := if 0 ≤ a ∧ 0 ≤ b ∧ 0 ≤ n ∧ a + n ≤ (ni : Int) ∧ b + n ≤ (nj : Int) then K (copA σ i j a b n) else none
theorem lt_or {p : Prop} [Decidable p] {α : Type} {a b o : Option α} (h : (if p then a else b) = o) : (p ∧ a = o) ∨ (¬ p ∧ b = o) := by
  by_cases hp : p
  · rw [if_pos hp] at h; exact Or.inl ⟨hp, h⟩
  · rw [if_neg hp] at h; exact Or.inr ⟨hp, h⟩
theorem some_if {p : Prop} [Decidable p] {α : Type} {a : Option α} {o : α} (h : (if p then a else none) = some o) : p ∧ a = some o := by
  by_cases hp : p
  · rw [if_pos hp] at h; exact ⟨hp, h⟩
  · rw [if_neg hp] at h; cases h
section JR
variable {x : Ct} {y : Sy} {g : Gm} {nL nf nlc : Nat} {cc : ByteArray} {own : String} {pc : Nat} {lo : List (Nat × Value)} {st : List Value} {σ : Sg} {α : Type} {o : α}
theorem J_sub (pl : List Nat) {lo' : List (Nat × Value)} (hl : lv_pick lo pl = lo') (k : J x y g nL pc lo' st σ) : J x y g nL pc lo st σ := by
  obtain ⟨p, l, e, R, s, m, args, below, meth, c, Q, kc, ks⟩ := x
  intro H locs ls hP hS h
  exact k H locs ls hP hS (lv_sub h pl hl)
theorem J_iconst (C : Cx x y g nL cc own nf nlc) {n : Int} (d : decode cc pc = .ok (.iconst n, 1)) (k : J x y g nL (pc + 1) lo (vi n :: st) σ) : J x y g nL pc lo st σ := by
  obtain ⟨p, l, e, R, s, m, args, below, meth, c, Q, kc, ks⟩ := x
  obtain ⟨hx, hb, hml, hown, hts, hK, hg, hNf, hNl, hLk, hSt, hKc, hKs⟩ := C
  intro H locs ls hP hS hl
  exact lv_iconst hx hb d rfl (k H locs ls hP hS hl)

theorem J_bipush (C : Cx x y g nL cc own nf nlc) {n : Int} (d : decode cc pc = .ok (.bipush n, 2)) (hn : (Int8.ofInt n).toInt32 = Int32.ofInt n) (k : J x y g nL (pc + 2) lo (vi n :: st) σ) : J x y g nL pc lo st σ := by
  obtain ⟨p, l, e, R, s, m, args, below, meth, c, Q, kc, ks⟩ := x
  obtain ⟨hx, hb, hml, hown, hts, hK, hg, hNf, hNl, hLk, hSt, hKc, hKs⟩ := C
  intro H locs ls hP hS hl
  exact lv_bipush hx hb d hn (k H locs ls hP hS hl)

theorem J_sipush (C : Cx x y g nL cc own nf nlc) {n : Int} (d : decode cc pc = .ok (.sipush n, 3)) (hn : (Int16.ofInt n).toInt32 = Int32.ofInt n) (k : J x y g nL (pc + 3) lo (vi n :: st) σ) : J x y g nL pc lo st σ := by
  obtain ⟨p, l, e, R, s, m, args, below, meth, c, Q, kc, ks⟩ := x
  obtain ⟨hx, hb, hml, hown, hts, hK, hg, hNf, hNl, hLk, hSt, hKc, hKs⟩ := C
  intro H locs ls hP hS hl
  exact lv_sipush hx hb d hn (k H locs ls hP hS hl)

theorem J_ldc (C : Cx x y g nL cc own nf nlc) {i : Nat} {n : Int} {v : Int32} (hw : Cond.constant own i v ∈ okw) (hv : v = Int32.ofInt n) (d : decode cc pc = .ok (.ldc i, 2)) (k : J x y g nL (pc + 2) lo (vi n :: st) σ) : J x y g nL pc lo st σ := by
  obtain ⟨p, l, e, R, s, m, args, below, meth, c, Q, kc, ks⟩ := x
  obtain ⟨hx, hb, hml, hown, hts, hK, hg, hNf, hNl, hLk, hSt, hKc, hKs⟩ := C
  intro H locs ls hP hS hl
  subst hv
  exact lv_ldc hx hb hown (hts _ hw) d (k H locs ls hP hS hl)

theorem J_ldcw (C : Cx x y g nL cc own nf nlc) {i : Nat} {n : Int} {v : Int32} (hw : Cond.constant own i v ∈ okw) (hv : v = Int32.ofInt n) (d : decode cc pc = .ok (.ldc_w i, 3)) (k : J x y g nL (pc + 3) lo (vi n :: st) σ) : J x y g nL pc lo st σ := by
  obtain ⟨p, l, e, R, s, m, args, below, meth, c, Q, kc, ks⟩ := x
  obtain ⟨hx, hb, hml, hown, hts, hK, hg, hNf, hNl, hLk, hSt, hKc, hKs⟩ := C
  intro H locs ls hP hS hl
  subst hv
  exact lv_ldcw hx hb hown (hts _ hw) d (k H locs ls hP hS hl)

theorem J_lconst0 (C : Cx x y g nL cc own nf nlc) (d : decode cc pc = .ok (.lconst 0, 1)) (k : J x y g nL (pc + 1) lo (vl 0 :: st) σ) : J x y g nL pc lo st σ := by
  obtain ⟨p, l, e, R, s, m, args, below, meth, c, Q, kc, ks⟩ := x
  obtain ⟨hx, hb, hml, hown, hts, hK, hg, hNf, hNl, hLk, hSt, hKc, hKs⟩ := C
  intro H locs ls hP hS hl
  exact lv_lconst hx hb d rfl (k H locs ls hP hS hl)

theorem J_iload_n (C : Cx x y g nL cc own nf nlc) {f : Fin 4} {a : Int} (i : Nat) (d : decode cc pc = .ok (.iload_n f, 1)) (hf9 : (f : Nat) = i) (j : Nat) (hj : lo[j]? = some (i, vi a)) (k : J x y g nL (pc + 1) lo (vi a :: st) σ) : J x y g nL pc lo st σ := by
  obtain ⟨p, l, e, R, s, m, args, below, meth, c, Q, kc, ks⟩ := x
  obtain ⟨hx, hb, hml, hown, hts, hK, hg, hNf, hNl, hLk, hSt, hKc, hKs⟩ := C
  intro H locs ls hP hS hl
  exact lv_iload_n hx hb d hf9 (lv_at hl j hj) (k H locs ls hP hS hl)

theorem J_iload (C : Cx x y g nL cc own nf nlc) {a : Int} (i : Nat) (d : decode cc pc = .ok (.iload i, 2)) (j : Nat) (hj : lo[j]? = some (i, vi a)) (k : J x y g nL (pc + 2) lo (vi a :: st) σ) : J x y g nL pc lo st σ := by
  obtain ⟨p, l, e, R, s, m, args, below, meth, c, Q, kc, ks⟩ := x
  obtain ⟨hx, hb, hml, hown, hts, hK, hg, hNf, hNl, hLk, hSt, hKc, hKs⟩ := C
  intro H locs ls hP hS hl
  exact lv_iload hx hb d (lv_at hl j hj) (k H locs ls hP hS hl)

theorem J_aload_n (C : Cx x y g nL cc own nf nlc) {f : Fin 4} {a : Nat} (i : Nat) (d : decode cc pc = .ok (.aload_n f, 1)) (hf9 : (f : Nat) = i) (j : Nat) (hj : lo[j]? = some (i, .ref a)) (k : J x y g nL (pc + 1) lo (.ref a :: st) σ) : J x y g nL pc lo st σ := by
  obtain ⟨p, l, e, R, s, m, args, below, meth, c, Q, kc, ks⟩ := x
  obtain ⟨hx, hb, hml, hown, hts, hK, hg, hNf, hNl, hLk, hSt, hKc, hKs⟩ := C
  intro H locs ls hP hS hl
  exact lv_aload_n hx hb d hf9 (lv_at hl j hj) (k H locs ls hP hS hl)

theorem J_aload (C : Cx x y g nL cc own nf nlc) {a : Nat} (i : Nat) (d : decode cc pc = .ok (.aload i, 2)) (j : Nat) (hj : lo[j]? = some (i, .ref a)) (k : J x y g nL (pc + 2) lo (.ref a :: st) σ) : J x y g nL pc lo st σ := by
  obtain ⟨p, l, e, R, s, m, args, below, meth, c, Q, kc, ks⟩ := x
  obtain ⟨hx, hb, hml, hown, hts, hK, hg, hNf, hNl, hLk, hSt, hKc, hKs⟩ := C
  intro H locs ls hP hS hl
  exact lv_aload hx hb d (lv_at hl j hj) (k H locs ls hP hS hl)

theorem J_lload_n (C : Cx x y g nL cc own nf nlc) {f : Fin 4} {a : Int} (i : Nat) (d : decode cc pc = .ok (.lload_n f, 1)) (hf9 : (f : Nat) = i) (j : Nat) (hj : lo[j]? = some (i, vl a)) (k : J x y g nL (pc + 1) lo (vl a :: st) σ) : J x y g nL pc lo st σ := by
  obtain ⟨p, l, e, R, s, m, args, below, meth, c, Q, kc, ks⟩ := x
  obtain ⟨hx, hb, hml, hown, hts, hK, hg, hNf, hNl, hLk, hSt, hKc, hKs⟩ := C
  intro H locs ls hP hS hl
  exact lv_lload_n hx hb d hf9 (lv_at hl j hj) (k H locs ls hP hS hl)

theorem J_istore_n (C : Cx x y g nL cc own nf nlc) {f : Fin 4} {a : Int} {lo2 : List (Nat × Value)} (i : Nat) (d : decode cc pc = .ok (.istore_n f, 1)) (hf9 : (f : Nat) = i) (hi : i < nL) (hl2 : (i, vi a) :: lo.filter (fun q => !(q.1 == i) && !(q.1 + 1 == i && q.2.category == 2)) = lo2) (k : J x y g nL (pc + 1) lo2 st σ) : J x y g nL pc lo (vi a :: st) σ := by
  obtain ⟨p, l, e, R, s, m, args, below, meth, c, Q, kc, ks⟩ := x
  obtain ⟨hx, hb, hml, hown, hts, hK, hg, hNf, hNl, hLk, hSt, hKc, hKs⟩ := C
  intro H locs ls hP hS hl
  exact lv_istore_n hx hb d hf9 hl hi hl2 (fun ls2 hl3 => k H locs ls2 hP hS hl3)

theorem J_istore (C : Cx x y g nL cc own nf nlc) {a : Int} {lo2 : List (Nat × Value)} (i : Nat) (d : decode cc pc = .ok (.istore i, 2)) (hi : i < nL) (hl2 : (i, vi a) :: lo.filter (fun q => !(q.1 == i) && !(q.1 + 1 == i && q.2.category == 2)) = lo2) (k : J x y g nL (pc + 2) lo2 st σ) : J x y g nL pc lo (vi a :: st) σ := by
  obtain ⟨p, l, e, R, s, m, args, below, meth, c, Q, kc, ks⟩ := x
  obtain ⟨hx, hb, hml, hown, hts, hK, hg, hNf, hNl, hLk, hSt, hKc, hKs⟩ := C
  intro H locs ls hP hS hl
  exact lv_istore hx hb d hl hi hl2 (fun ls2 hl3 => k H locs ls2 hP hS hl3)

theorem J_astore_n (C : Cx x y g nL cc own nf nlc) {f : Fin 4} {a : Nat} {lo2 : List (Nat × Value)} (i : Nat) (d : decode cc pc = .ok (.astore_n f, 1)) (hf9 : (f : Nat) = i) (hi : i < nL) (hl2 : (i, Value.ref a) :: lo.filter (fun q => !(q.1 == i) && !(q.1 + 1 == i && q.2.category == 2)) = lo2) (k : J x y g nL (pc + 1) lo2 st σ) : J x y g nL pc lo (.ref a :: st) σ := by
  obtain ⟨p, l, e, R, s, m, args, below, meth, c, Q, kc, ks⟩ := x
  obtain ⟨hx, hb, hml, hown, hts, hK, hg, hNf, hNl, hLk, hSt, hKc, hKs⟩ := C
  intro H locs ls hP hS hl
  exact lv_astore_n hx hb d hf9 hl hi hl2 (fun ls2 hl3 => k H locs ls2 hP hS hl3)

theorem J_astore (C : Cx x y g nL cc own nf nlc) {a : Nat} {lo2 : List (Nat × Value)} (i : Nat) (d : decode cc pc = .ok (.astore i, 2)) (hi : i < nL) (hl2 : (i, Value.ref a) :: lo.filter (fun q => !(q.1 == i) && !(q.1 + 1 == i && q.2.category == 2)) = lo2) (k : J x y g nL (pc + 2) lo2 st σ) : J x y g nL pc lo (.ref a :: st) σ := by
  obtain ⟨p, l, e, R, s, m, args, below, meth, c, Q, kc, ks⟩ := x
  obtain ⟨hx, hb, hml, hown, hts, hK, hg, hNf, hNl, hLk, hSt, hKc, hKs⟩ := C
  intro H locs ls hP hS hl
  exact lv_astore hx hb d hl hi hl2 (fun ls2 hl3 => k H locs ls2 hP hS hl3)

theorem J_iinc (C : Cx x y g nL cc own nf nlc) {n a : Int} {K : Int → Option α} (i j : Nat) (d : decode cc pc = .ok (.iinc i n, 3)) (hj : lo[j]? = some (i, vi a)) (hi : i < nL) (h : ck (a + n) K = some o) (k : ∀ v, rg v → K v = some o → J x y g nL (pc + 3) ((i, vi v) :: lo.filter (fun q => !(q.1 == i) && !(q.1 + 1 == i && q.2.category == 2))) st σ) : J x y g nL pc lo st σ := by
  obtain ⟨p, l, e, R, s, m, args, below, meth, c, Q, kc, ks⟩ := x
  obtain ⟨hx, hb, hml, hown, hts, hK, hg, hNf, hNl, hLk, hSt, hKc, hKs⟩ := C
  obtain ⟨hv, h⟩ := some_if h
  intro H locs ls hP hS hl
  exact lv_iinc (v := Int32.ofInt (a + n)) hx hb d hl hj (Int32.ofInt_add a n).symm hi rfl (fun ls2 hl3 => k _ hv h H locs ls2 hP hS hl3)

theorem J_iadd (C : Cx x y g nL cc own nf nlc) {a b : Int} {K : Int → Option α} (d : decode cc pc = .ok (.iadd, 1)) (h : ck (a + b) K = some o) (k : ∀ v, rg v → K v = some o → J x y g nL (pc + 1) lo (vi v :: st) σ) : J x y g nL pc lo (vi b :: vi a :: st) σ := by
  obtain ⟨p, l, e, R, s, m, args, below, meth, c, Q, kc, ks⟩ := x
  obtain ⟨hx, hb, hml, hown, hts, hK, hg, hNf, hNl, hLk, hSt, hKc, hKs⟩ := C
  obtain ⟨hv, h⟩ := some_if h
  intro H locs ls hP hS hl
  have hk := k _ hv h H locs ls hP hS hl
  unfold vi at hk
  rw [Int32.ofInt_add] at hk
  exact lv_iadd hx hb d hk

theorem J_isub (C : Cx x y g nL cc own nf nlc) {a b : Int} {K : Int → Option α} (d : decode cc pc = .ok (.isub, 1)) (h : ck (a - b) K = some o) (k : ∀ v, rg v → K v = some o → J x y g nL (pc + 1) lo (vi v :: st) σ) : J x y g nL pc lo (vi b :: vi a :: st) σ := by
  obtain ⟨p, l, e, R, s, m, args, below, meth, c, Q, kc, ks⟩ := x
  obtain ⟨hx, hb, hml, hown, hts, hK, hg, hNf, hNl, hLk, hSt, hKc, hKs⟩ := C
  obtain ⟨hv, h⟩ := some_if h
  intro H locs ls hP hS hl
  have hk := k _ hv h H locs ls hP hS hl
  unfold vi at hk
  rw [Int32.ofInt_sub] at hk
  exact lv_isub hx hb d hk

theorem J_imul (C : Cx x y g nL cc own nf nlc) {a b : Int} {K : Int → Option α} (d : decode cc pc = .ok (.imul, 1)) (h : ck (a * b) K = some o) (k : ∀ v, rg v → K v = some o → J x y g nL (pc + 1) lo (vi v :: st) σ) : J x y g nL pc lo (vi b :: vi a :: st) σ := by
  obtain ⟨p, l, e, R, s, m, args, below, meth, c, Q, kc, ks⟩ := x
  obtain ⟨hx, hb, hml, hown, hts, hK, hg, hNf, hNl, hLk, hSt, hKc, hKs⟩ := C
  obtain ⟨hv, h⟩ := some_if h
  intro H locs ls hP hS hl
  have hk := k _ hv h H locs ls hP hS hl
  unfold vi at hk
  rw [Int32.ofInt_mul] at hk
  exact lv_imul hx hb d hk

theorem J_ineg (C : Cx x y g nL cc own nf nlc) {a : Int} {K : Int → Option α} (d : decode cc pc = .ok (.ineg, 1)) (h : ck (-a) K = some o) (k : ∀ v, rg v → K v = some o → J x y g nL (pc + 1) lo (vi v :: st) σ) : J x y g nL pc lo (vi a :: st) σ := by
  obtain ⟨p, l, e, R, s, m, args, below, meth, c, Q, kc, ks⟩ := x
  obtain ⟨hx, hb, hml, hown, hts, hK, hg, hNf, hNl, hLk, hSt, hKc, hKs⟩ := C
  obtain ⟨hv, h⟩ := some_if h
  intro H locs ls hP hS hl
  have hk := k _ hv h H locs ls hP hS hl
  unfold vi at hk
  rw [Int32.ofInt_neg] at hk
  exact lv_ineg hx hb d hk

theorem J_iand (C : Cx x y g nL cc own nf nlc) {a b : Int} (d : decode cc pc = .ok (.iand, 1)) (k : J x y g nL (pc + 1) lo (vi (bAnd a b) :: st) σ) : J x y g nL pc lo (vi b :: vi a :: st) σ := by
  obtain ⟨p, l, e, R, s, m, args, below, meth, c, Q, kc, ks⟩ := x
  obtain ⟨hx, hb, hml, hown, hts, hK, hg, hNf, hNl, hLk, hSt, hKc, hKs⟩ := C
  intro H locs ls hP hS hl
  have hk := k H locs ls hP hS hl
  unfold vi bAnd at hk
  rw [Int32.ofInt_toInt] at hk
  exact lv_iand hx hb d hk

theorem J_ior (C : Cx x y g nL cc own nf nlc) {a b : Int} (d : decode cc pc = .ok (.ior, 1)) (k : J x y g nL (pc + 1) lo (vi (bOr a b) :: st) σ) : J x y g nL pc lo (vi b :: vi a :: st) σ := by
  obtain ⟨p, l, e, R, s, m, args, below, meth, c, Q, kc, ks⟩ := x
  obtain ⟨hx, hb, hml, hown, hts, hK, hg, hNf, hNl, hLk, hSt, hKc, hKs⟩ := C
  intro H locs ls hP hS hl
  have hk := k H locs ls hP hS hl
  unfold vi bOr at hk
  rw [Int32.ofInt_toInt] at hk
  exact lv_ior hx hb d hk

theorem J_ixor (C : Cx x y g nL cc own nf nlc) {a b : Int} (d : decode cc pc = .ok (.ixor, 1)) (k : J x y g nL (pc + 1) lo (vi (bXor a b) :: st) σ) : J x y g nL pc lo (vi b :: vi a :: st) σ := by
  obtain ⟨p, l, e, R, s, m, args, below, meth, c, Q, kc, ks⟩ := x
  obtain ⟨hx, hb, hml, hown, hts, hK, hg, hNf, hNl, hLk, hSt, hKc, hKs⟩ := C
  intro H locs ls hP hS hl
  have hk := k H locs ls hP hS hl
  unfold vi bXor at hk
  rw [Int32.ofInt_toInt] at hk
  exact lv_ixor hx hb d hk

theorem J_ishl (C : Cx x y g nL cc own nf nlc) {a b : Int} (d : decode cc pc = .ok (.ishl, 1)) (k : J x y g nL (pc + 1) lo (vi (bShl a b) :: st) σ) : J x y g nL pc lo (vi b :: vi a :: st) σ := by
  obtain ⟨p, l, e, R, s, m, args, below, meth, c, Q, kc, ks⟩ := x
  obtain ⟨hx, hb, hml, hown, hts, hK, hg, hNf, hNl, hLk, hSt, hKc, hKs⟩ := C
  intro H locs ls hP hS hl
  have hk := k H locs ls hP hS hl
  unfold vi bShl at hk
  rw [Int32.ofInt_toInt] at hk
  exact lv_ishl hx hb d hk

theorem J_ishr (C : Cx x y g nL cc own nf nlc) {a b : Int} (d : decode cc pc = .ok (.ishr, 1)) (k : J x y g nL (pc + 1) lo (vi (bShr a b) :: st) σ) : J x y g nL pc lo (vi b :: vi a :: st) σ := by
  obtain ⟨p, l, e, R, s, m, args, below, meth, c, Q, kc, ks⟩ := x
  obtain ⟨hx, hb, hml, hown, hts, hK, hg, hNf, hNl, hLk, hSt, hKc, hKs⟩ := C
  intro H locs ls hP hS hl
  have hk := k H locs ls hP hS hl
  unfold vi bShr at hk
  rw [Int32.ofInt_toInt] at hk
  exact lv_ishr hx hb d hk

theorem J_idiv (C : Cx x y g nL cc own nf nlc) {a b : Int} {K : Int → Option α} (ha : rg a) (hb9 : rg b) (d : decode cc pc = .ok (.idiv, 1)) (h : dv a b K = some o) (k : ∀ v, rg v → K v = some o → J x y g nL (pc + 1) lo (vi v :: st) σ) : J x y g nL pc lo (vi b :: vi a :: st) σ := by
  obtain ⟨p, l, e, R, s, m, args, below, meth, c, Q, kc, ks⟩ := x
  obtain ⟨hx, hb, hml, hown, hts, hK, hg, hNf, hNl, hLk, hSt, hKc, hKs⟩ := C
  obtain ⟨⟨h0, h1⟩, h⟩ := some_if h
  have hv : rg (a / b) := ⟨by have := Int.ediv_nonneg h0 (Int.le_of_lt h1); omega, Int.le_trans (Int.ediv_le_self b h0) ha.2⟩
  intro H locs ls hP hS hl
  have hk := k _ hv h H locs ls hP hS hl
  unfold vi at hk
  rw [← Int.tdiv_eq_ediv_of_nonneg h0, Int32.ofInt_tdiv ha.1 ha.2 hb9.1 hb9.2] at hk
  refine lv_idiv hx hb d (fun q => ?_) hk
  have q2 := (ofI_eq hb9 (y := 0) ⟨by decide, by decide⟩).mp q
  omega

theorem J_irem (C : Cx x y g nL cc own nf nlc) {a b : Int} {K : Int → Option α} (ha : rg a) (hb9 : rg b) (d : decode cc pc = .ok (.irem, 1)) (h : md a b K = some o) (k : ∀ v, rg v → K v = some o → J x y g nL (pc + 1) lo (vi v :: st) σ) : J x y g nL pc lo (vi b :: vi a :: st) σ := by
  obtain ⟨p, l, e, R, s, m, args, below, meth, c, Q, kc, ks⟩ := x
  obtain ⟨hx, hb, hml, hown, hts, hK, hg, hNf, hNl, hLk, hSt, hKc, hKs⟩ := C
  obtain ⟨⟨h0, h1⟩, h⟩ := some_if h
  have hv : rg (a % b) := ⟨by have := Int.emod_nonneg a (b := b) (by omega); omega, by have := Int.emod_lt_of_pos a h1; have := hb9.2; omega⟩
  intro H locs ls hP hS hl
  have hk := k _ hv h H locs ls hP hS hl
  have e : Int32.ofInt (a % b) = Int32.ofInt a - Int32.ofInt a / Int32.ofInt b * Int32.ofInt b := by
    rw [← Int32.ofInt_tdiv ha.1 ha.2 hb9.1 hb9.2, ← Int32.ofInt_mul, ← Int32.ofInt_sub, Int.tdiv_eq_ediv_of_nonneg h0, Int.mul_comm, Int.emod_def]
  unfold vi at hk
  rw [e] at hk
  refine lv_irem hx hb d (fun q => ?_) hk
  have q2 := (ofI_eq hb9 (y := 0) ⟨by decide, by decide⟩).mp q
  omega

theorem J_l2i (C : Cx x y g nL cc own nf nlc) {a : Int} (d : decode cc pc = .ok (.l2i, 1)) (k : J x y g nL (pc + 1) lo (vi (toI a) :: st) σ) : J x y g nL pc lo (vl a :: st) σ := by
  obtain ⟨p, l, e, R, s, m, args, below, meth, c, Q, kc, ks⟩ := x
  obtain ⟨hx, hb, hml, hown, hts, hK, hg, hNf, hNl, hLk, hSt, hKc, hKs⟩ := C
  intro H locs ls hP hS hl
  have hk := k H locs ls hP hS hl
  unfold vi toI at hk
  rw [Int32.ofInt_toInt] at hk
  exact lv_l2i hx hb d rfl hk

theorem J_i2b (C : Cx x y g nL cc own nf nlc) {a : Int} (d : decode cc pc = .ok (.i2b, 1)) (k : J x y g nL (pc + 1) lo (vi (toB a) :: st) σ) : J x y g nL pc lo (vi a :: st) σ := by
  obtain ⟨p, l, e, R, s, m, args, below, meth, c, Q, kc, ks⟩ := x
  obtain ⟨hx, hb, hml, hown, hts, hK, hg, hNf, hNl, hLk, hSt, hKc, hKs⟩ := C
  intro H locs ls hP hS hl
  have hk := k H locs ls hP hS hl
  unfold vi toB at hk
  rw [Int32.ofInt_toInt] at hk
  exact lv_i2b hx hb d rfl hk

theorem J_i2s (C : Cx x y g nL cc own nf nlc) {a : Int} (d : decode cc pc = .ok (.i2s, 1)) (k : J x y g nL (pc + 1) lo (vi (toS a) :: st) σ) : J x y g nL pc lo (vi a :: st) σ := by
  obtain ⟨p, l, e, R, s, m, args, below, meth, c, Q, kc, ks⟩ := x
  obtain ⟨hx, hb, hml, hown, hts, hK, hg, hNf, hNl, hLk, hSt, hKc, hKs⟩ := C
  intro H locs ls hP hS hl
  have hk := k H locs ls hP hS hl
  unfold vi toS at hk
  rw [Int32.ofInt_toInt] at hk
  exact lv_i2s hx hb d rfl hk

theorem J_i2l (C : Cx x y g nL cc own nf nlc) {a : Int} (ha : rg a) (d : decode cc pc = .ok (.i2l, 1)) (k : J x y g nL (pc + 1) lo (vl a :: st) σ) : J x y g nL pc lo (vi a :: st) σ := by
  obtain ⟨p, l, e, R, s, m, args, below, meth, c, Q, kc, ks⟩ := x
  obtain ⟨hx, hb, hml, hown, hts, hK, hg, hNf, hNl, hLk, hSt, hKc, hKs⟩ := C
  intro H locs ls hP hS hl
  have hk := k H locs ls hP hS hl
  unfold vl at hk
  rw [← Int32.toInt64_ofInt ha.1 ha.2] at hk
  exact lv_i2l hx hb d rfl hk

theorem J_dup (C : Cx x y g nL cc own nf nlc) {v : Value} (hv : v.category = 1) (d : decode cc pc = .ok (.dup, 1)) (k : J x y g nL (pc + 1) lo (v :: v :: st) σ) : J x y g nL pc lo (v :: st) σ := by
  obtain ⟨p, l, e, R, s, m, args, below, meth, c, Q, kc, ks⟩ := x
  obtain ⟨hx, hb, hml, hown, hts, hK, hg, hNf, hNl, hLk, hSt, hKc, hKs⟩ := C
  intro H locs ls hP hS hl
  exact lv_dup hx hb d hv (k H locs ls hP hS hl)

theorem J_dup2 (C : Cx x y g nL cc own nf nlc) {v w : Value} (hv : v.category = 1) (hw : w.category = 1) (d : decode cc pc = .ok (.dup2, 1)) (k : J x y g nL (pc + 1) lo (v :: w :: v :: w :: st) σ) : J x y g nL pc lo (v :: w :: st) σ := by
  obtain ⟨p, l, e, R, s, m, args, below, meth, c, Q, kc, ks⟩ := x
  obtain ⟨hx, hb, hml, hown, hts, hK, hg, hNf, hNl, hLk, hSt, hKc, hKs⟩ := C
  intro H locs ls hP hS hl
  exact lv_dup2_11 hx hb d hv hw (k H locs ls hP hS hl)

theorem J_pop (C : Cx x y g nL cc own nf nlc) {v : Value} (hv : v.category = 1) (d : decode cc pc = .ok (.pop, 1)) (k : J x y g nL (pc + 1) lo st σ) : J x y g nL pc lo (v :: st) σ := by
  obtain ⟨p, l, e, R, s, m, args, below, meth, c, Q, kc, ks⟩ := x
  obtain ⟨hx, hb, hml, hown, hts, hK, hg, hNf, hNl, hLk, hSt, hKc, hKs⟩ := C
  intro H locs ls hP hS hl
  exact lv_pop hx hb d hv (k H locs ls hP hS hl)

theorem J_goto (C : Cx x y g nL cc own nf nlc) {off : Int} {tgt : Nat} (d : decode cc pc = .ok (.goto off, 3)) (ht : (pc : Int) + off = (tgt : Int)) (k : J x y g nL tgt lo st σ) : J x y g nL pc lo st σ := by
  obtain ⟨p, l, e, R, s, m, args, below, meth, c, Q, kc, ks⟩ := x
  obtain ⟨hx, hb, hml, hown, hts, hK, hg, hNf, hNl, hLk, hSt, hKc, hKs⟩ := C
  intro H locs ls hP hS hl
  exact lv_goto hx hb d ht (k H locs ls hP hS hl)

theorem J_icmp_lt (C : Cx x y g nL cc own nf nlc) {a b : Int} (ha : rg a) (hb9 : rg b) {off : Int} {tgt : Nat} {A B : Option α} (d : decode cc pc = .ok (.if_icmp .lt off, 3)) (ht : (pc : Int) + off = (tgt : Int)) (h : (if a < b then A else B) = some o) (k1 : A = some o → a < b → J x y g nL tgt lo st σ) (k2 : B = some o → ¬ a < b → J x y g nL (pc + 3) lo st σ) : J x y g nL pc lo (vi b :: vi a :: st) σ := by
  obtain ⟨p, l, e, R, s, m, args, below, meth, c, Q, kc, ks⟩ := x
  obtain ⟨hx, hb, hml, hown, hts, hK, hg, hNf, hNl, hLk, hSt, hKc, hKs⟩ := C
  intro H locs ls hP hS hl
  refine lv_icmp_lt hx hb d ht (?_) (?_)
  · exact fun q => k1 (by rw [if_pos ((ofI_lt ha hb9).mp q)] at h; exact h) ((ofI_lt ha hb9).mp q) H locs ls hP hS hl
  · exact fun q => k2 (by rw [if_neg (fun z => q ((ofI_lt ha hb9).mpr z))] at h; exact h) (fun z => q ((ofI_lt ha hb9).mpr z)) H locs ls hP hS hl

theorem J_if_lt (C : Cx x y g nL cc own nf nlc) {a : Int} (ha : rg a) {off : Int} {tgt : Nat} {A B : Option α} (d : decode cc pc = .ok (.ifCond .lt off, 3)) (ht : (pc : Int) + off = (tgt : Int)) (h : (if a < 0 then A else B) = some o) (k1 : A = some o → a < 0 → J x y g nL tgt lo st σ) (k2 : B = some o → ¬ a < 0 → J x y g nL (pc + 3) lo st σ) : J x y g nL pc lo (vi a :: st) σ := by
  obtain ⟨p, l, e, R, s, m, args, below, meth, c, Q, kc, ks⟩ := x
  obtain ⟨hx, hb, hml, hown, hts, hK, hg, hNf, hNl, hLk, hSt, hKc, hKs⟩ := C
  have hb9 : rg 0 := ⟨by decide, by decide⟩
  intro H locs ls hP hS hl
  unfold vi
  refine lv_if_lt hx hb d ht (?_) (?_)
  · exact fun q => k1 (by rw [if_pos ((ofI_lt ha hb9).mp q)] at h; exact h) ((ofI_lt ha hb9).mp q) H locs ls hP hS hl
  · exact fun q => k2 (by rw [if_neg (fun z => q ((ofI_lt ha hb9).mpr z))] at h; exact h) (fun z => q ((ofI_lt ha hb9).mpr z)) H locs ls hP hS hl

theorem J_icmp_ge (C : Cx x y g nL cc own nf nlc) {a b : Int} (ha : rg a) (hb9 : rg b) {off : Int} {tgt : Nat} {A B : Option α} (d : decode cc pc = .ok (.if_icmp .ge off, 3)) (ht : (pc : Int) + off = (tgt : Int)) (h : (if a < b then A else B) = some o) (k1 : A = some o → a < b → J x y g nL (pc + 3) lo st σ) (k2 : B = some o → ¬ a < b → J x y g nL tgt lo st σ) : J x y g nL pc lo (vi b :: vi a :: st) σ := by
  obtain ⟨p, l, e, R, s, m, args, below, meth, c, Q, kc, ks⟩ := x
  obtain ⟨hx, hb, hml, hown, hts, hK, hg, hNf, hNl, hLk, hSt, hKc, hKs⟩ := C
  intro H locs ls hP hS hl
  refine lv_icmp_ge hx hb d ht (?_) (?_)
  · exact fun q => k2 (by rw [if_neg (Int.not_lt.mpr ((ofI_le hb9 ha).mp q))] at h; exact h) (Int.not_lt.mpr ((ofI_le hb9 ha).mp q)) H locs ls hP hS hl
  · exact fun q => k1 (by rw [if_pos (Int.not_le.mp (fun z => q ((ofI_le hb9 ha).mpr z)))] at h; exact h) (Int.not_le.mp (fun z => q ((ofI_le hb9 ha).mpr z))) H locs ls hP hS hl

theorem J_if_ge (C : Cx x y g nL cc own nf nlc) {a : Int} (ha : rg a) {off : Int} {tgt : Nat} {A B : Option α} (d : decode cc pc = .ok (.ifCond .ge off, 3)) (ht : (pc : Int) + off = (tgt : Int)) (h : (if a < 0 then A else B) = some o) (k1 : A = some o → a < 0 → J x y g nL (pc + 3) lo st σ) (k2 : B = some o → ¬ a < 0 → J x y g nL tgt lo st σ) : J x y g nL pc lo (vi a :: st) σ := by
  obtain ⟨p, l, e, R, s, m, args, below, meth, c, Q, kc, ks⟩ := x
  obtain ⟨hx, hb, hml, hown, hts, hK, hg, hNf, hNl, hLk, hSt, hKc, hKs⟩ := C
  have hb9 : rg 0 := ⟨by decide, by decide⟩
  intro H locs ls hP hS hl
  unfold vi
  refine lv_if_ge hx hb d ht (?_) (?_)
  · exact fun q => k2 (by rw [if_neg (Int.not_lt.mpr ((ofI_le hb9 ha).mp q))] at h; exact h) (Int.not_lt.mpr ((ofI_le hb9 ha).mp q)) H locs ls hP hS hl
  · exact fun q => k1 (by rw [if_pos (Int.not_le.mp (fun z => q ((ofI_le hb9 ha).mpr z)))] at h; exact h) (Int.not_le.mp (fun z => q ((ofI_le hb9 ha).mpr z))) H locs ls hP hS hl

theorem J_icmp_le (C : Cx x y g nL cc own nf nlc) {a b : Int} (ha : rg a) (hb9 : rg b) {off : Int} {tgt : Nat} {A B : Option α} (d : decode cc pc = .ok (.if_icmp .le off, 3)) (ht : (pc : Int) + off = (tgt : Int)) (h : (if a ≤ b then A else B) = some o) (k1 : A = some o → a ≤ b → J x y g nL tgt lo st σ) (k2 : B = some o → ¬ a ≤ b → J x y g nL (pc + 3) lo st σ) : J x y g nL pc lo (vi b :: vi a :: st) σ := by
  obtain ⟨p, l, e, R, s, m, args, below, meth, c, Q, kc, ks⟩ := x
  obtain ⟨hx, hb, hml, hown, hts, hK, hg, hNf, hNl, hLk, hSt, hKc, hKs⟩ := C
  intro H locs ls hP hS hl
  refine lv_icmp_le hx hb d ht (?_) (?_)
  · exact fun q => k1 (by rw [if_pos ((ofI_le ha hb9).mp q)] at h; exact h) ((ofI_le ha hb9).mp q) H locs ls hP hS hl
  · exact fun q => k2 (by rw [if_neg (fun z => q ((ofI_le ha hb9).mpr z))] at h; exact h) (fun z => q ((ofI_le ha hb9).mpr z)) H locs ls hP hS hl

theorem J_if_le (C : Cx x y g nL cc own nf nlc) {a : Int} (ha : rg a) {off : Int} {tgt : Nat} {A B : Option α} (d : decode cc pc = .ok (.ifCond .le off, 3)) (ht : (pc : Int) + off = (tgt : Int)) (h : (if a ≤ 0 then A else B) = some o) (k1 : A = some o → a ≤ 0 → J x y g nL tgt lo st σ) (k2 : B = some o → ¬ a ≤ 0 → J x y g nL (pc + 3) lo st σ) : J x y g nL pc lo (vi a :: st) σ := by
  obtain ⟨p, l, e, R, s, m, args, below, meth, c, Q, kc, ks⟩ := x
  obtain ⟨hx, hb, hml, hown, hts, hK, hg, hNf, hNl, hLk, hSt, hKc, hKs⟩ := C
  have hb9 : rg 0 := ⟨by decide, by decide⟩
  intro H locs ls hP hS hl
  unfold vi
  refine lv_if_le hx hb d ht (?_) (?_)
  · exact fun q => k1 (by rw [if_pos ((ofI_le ha hb9).mp q)] at h; exact h) ((ofI_le ha hb9).mp q) H locs ls hP hS hl
  · exact fun q => k2 (by rw [if_neg (fun z => q ((ofI_le ha hb9).mpr z))] at h; exact h) (fun z => q ((ofI_le ha hb9).mpr z)) H locs ls hP hS hl

theorem J_icmp_gt (C : Cx x y g nL cc own nf nlc) {a b : Int} (ha : rg a) (hb9 : rg b) {off : Int} {tgt : Nat} {A B : Option α} (d : decode cc pc = .ok (.if_icmp .gt off, 3)) (ht : (pc : Int) + off = (tgt : Int)) (h : (if a ≤ b then A else B) = some o) (k1 : A = some o → a ≤ b → J x y g nL (pc + 3) lo st σ) (k2 : B = some o → ¬ a ≤ b → J x y g nL tgt lo st σ) : J x y g nL pc lo (vi b :: vi a :: st) σ := by
  obtain ⟨p, l, e, R, s, m, args, below, meth, c, Q, kc, ks⟩ := x
  obtain ⟨hx, hb, hml, hown, hts, hK, hg, hNf, hNl, hLk, hSt, hKc, hKs⟩ := C
  intro H locs ls hP hS hl
  refine lv_icmp_gt hx hb d ht (?_) (?_)
  · exact fun q => k2 (by rw [if_neg (Int.not_le.mpr ((ofI_lt hb9 ha).mp q))] at h; exact h) (Int.not_le.mpr ((ofI_lt hb9 ha).mp q)) H locs ls hP hS hl
  · exact fun q => k1 (by rw [if_pos (Int.not_lt.mp (fun z => q ((ofI_lt hb9 ha).mpr z)))] at h; exact h) (Int.not_lt.mp (fun z => q ((ofI_lt hb9 ha).mpr z))) H locs ls hP hS hl

theorem J_if_gt (C : Cx x y g nL cc own nf nlc) {a : Int} (ha : rg a) {off : Int} {tgt : Nat} {A B : Option α} (d : decode cc pc = .ok (.ifCond .gt off, 3)) (ht : (pc : Int) + off = (tgt : Int)) (h : (if a ≤ 0 then A else B) = some o) (k1 : A = some o → a ≤ 0 → J x y g nL (pc + 3) lo st σ) (k2 : B = some o → ¬ a ≤ 0 → J x y g nL tgt lo st σ) : J x y g nL pc lo (vi a :: st) σ := by
  obtain ⟨p, l, e, R, s, m, args, below, meth, c, Q, kc, ks⟩ := x
  obtain ⟨hx, hb, hml, hown, hts, hK, hg, hNf, hNl, hLk, hSt, hKc, hKs⟩ := C
  have hb9 : rg 0 := ⟨by decide, by decide⟩
  intro H locs ls hP hS hl
  unfold vi
  refine lv_if_gt hx hb d ht (?_) (?_)
  · exact fun q => k2 (by rw [if_neg (Int.not_le.mpr ((ofI_lt hb9 ha).mp q))] at h; exact h) (Int.not_le.mpr ((ofI_lt hb9 ha).mp q)) H locs ls hP hS hl
  · exact fun q => k1 (by rw [if_pos (Int.not_lt.mp (fun z => q ((ofI_lt hb9 ha).mpr z)))] at h; exact h) (Int.not_lt.mp (fun z => q ((ofI_lt hb9 ha).mpr z))) H locs ls hP hS hl

theorem J_icmp_eq (C : Cx x y g nL cc own nf nlc) {a b : Int} (ha : rg a) (hb9 : rg b) {off : Int} {tgt : Nat} {A B : Option α} (d : decode cc pc = .ok (.if_icmp .eq off, 3)) (ht : (pc : Int) + off = (tgt : Int)) (h : (if a = b then A else B) = some o) (k1 : A = some o → a = b → J x y g nL tgt lo st σ) (k2 : B = some o → ¬ a = b → J x y g nL (pc + 3) lo st σ) : J x y g nL pc lo (vi b :: vi a :: st) σ := by
  obtain ⟨p, l, e, R, s, m, args, below, meth, c, Q, kc, ks⟩ := x
  obtain ⟨hx, hb, hml, hown, hts, hK, hg, hNf, hNl, hLk, hSt, hKc, hKs⟩ := C
  intro H locs ls hP hS hl
  refine lv_icmp_eq hx hb d ht (?_) (?_)
  · exact fun q => k1 (by rw [if_pos ((ofI_eq ha hb9).mp q)] at h; exact h) ((ofI_eq ha hb9).mp q) H locs ls hP hS hl
  · exact fun q => k2 (by rw [if_neg (fun z => q ((ofI_eq ha hb9).mpr z))] at h; exact h) (fun z => q ((ofI_eq ha hb9).mpr z)) H locs ls hP hS hl

theorem J_if_eq (C : Cx x y g nL cc own nf nlc) {a : Int} (ha : rg a) {off : Int} {tgt : Nat} {A B : Option α} (d : decode cc pc = .ok (.ifCond .eq off, 3)) (ht : (pc : Int) + off = (tgt : Int)) (h : (if a = 0 then A else B) = some o) (k1 : A = some o → a = 0 → J x y g nL tgt lo st σ) (k2 : B = some o → ¬ a = 0 → J x y g nL (pc + 3) lo st σ) : J x y g nL pc lo (vi a :: st) σ := by
  obtain ⟨p, l, e, R, s, m, args, below, meth, c, Q, kc, ks⟩ := x
  obtain ⟨hx, hb, hml, hown, hts, hK, hg, hNf, hNl, hLk, hSt, hKc, hKs⟩ := C
  have hb9 : rg 0 := ⟨by decide, by decide⟩
  intro H locs ls hP hS hl
  unfold vi
  refine lv_if_eq hx hb d ht (?_) (?_)
  · exact fun q => k1 (by rw [if_pos ((ofI_eq ha hb9).mp q)] at h; exact h) ((ofI_eq ha hb9).mp q) H locs ls hP hS hl
  · exact fun q => k2 (by rw [if_neg (fun z => q ((ofI_eq ha hb9).mpr z))] at h; exact h) (fun z => q ((ofI_eq ha hb9).mpr z)) H locs ls hP hS hl

theorem J_icmp_ne (C : Cx x y g nL cc own nf nlc) {a b : Int} (ha : rg a) (hb9 : rg b) {off : Int} {tgt : Nat} {A B : Option α} (d : decode cc pc = .ok (.if_icmp .ne off, 3)) (ht : (pc : Int) + off = (tgt : Int)) (h : (if a = b then A else B) = some o) (k1 : A = some o → a = b → J x y g nL (pc + 3) lo st σ) (k2 : B = some o → ¬ a = b → J x y g nL tgt lo st σ) : J x y g nL pc lo (vi b :: vi a :: st) σ := by
  obtain ⟨p, l, e, R, s, m, args, below, meth, c, Q, kc, ks⟩ := x
  obtain ⟨hx, hb, hml, hown, hts, hK, hg, hNf, hNl, hLk, hSt, hKc, hKs⟩ := C
  intro H locs ls hP hS hl
  refine lv_icmp_ne hx hb d ht (?_) (?_)
  · exact fun q => k2 (by rw [if_neg (fun z => q ((ofI_eq ha hb9).mpr z))] at h; exact h) (fun z => q ((ofI_eq ha hb9).mpr z)) H locs ls hP hS hl
  · exact fun q => k1 (by rw [if_pos ((ofI_eq ha hb9).mp q)] at h; exact h) ((ofI_eq ha hb9).mp q) H locs ls hP hS hl

theorem J_if_ne (C : Cx x y g nL cc own nf nlc) {a : Int} (ha : rg a) {off : Int} {tgt : Nat} {A B : Option α} (d : decode cc pc = .ok (.ifCond .ne off, 3)) (ht : (pc : Int) + off = (tgt : Int)) (h : (if a = 0 then A else B) = some o) (k1 : A = some o → a = 0 → J x y g nL (pc + 3) lo st σ) (k2 : B = some o → ¬ a = 0 → J x y g nL tgt lo st σ) : J x y g nL pc lo (vi a :: st) σ := by
  obtain ⟨p, l, e, R, s, m, args, below, meth, c, Q, kc, ks⟩ := x
  obtain ⟨hx, hb, hml, hown, hts, hK, hg, hNf, hNl, hLk, hSt, hKc, hKs⟩ := C
  have hb9 : rg 0 := ⟨by decide, by decide⟩
  intro H locs ls hP hS hl
  unfold vi
  refine lv_if_ne hx hb d ht (?_) (?_)
  · exact fun q => k2 (by rw [if_neg (fun z => q ((ofI_eq ha hb9).mpr z))] at h; exact h) (fun z => q ((ofI_eq ha hb9).mpr z)) H locs ls hP hS hl
  · exact fun q => k1 (by rw [if_pos ((ofI_eq ha hb9).mp q)] at h; exact h) ((ofI_eq ha hb9).mp q) H locs ls hP hS hl

theorem fsI {g : Gm} {f : Int → Int} {fs : List Fd0} {k : Nat} {n : Int} (hf : fs[k]? = some (.inr n)) : (fs.map (fv g f))[k]? = some (vi (f n)) := by rw [List.getElem?_map, hf]; rfl
theorem fsR {g : Gm} {f : Int → Int} {fs : List Fd0} {k : Nat} {n : Nat} (hf : fs[k]? = some (.inl n)) : (fs.map (fv g f))[k]? = some (.ref (gad g n)) := by rw [List.getElem?_map, hf]; rfl
/-- a field that holds a number stands at a place of its own -/
def own1 (fs : List Fd0) (k : Nat) (n : Int) : Bool := (List.range fs.length).all (fun j => j == k || match fs[j]? with | some (.inr m) => !(decide (m = n)) | _ => true)
theorem fs_set {g : Gm} {f : Int → Int} {fs : List Fd0} {k : Nat} {n v : Int} (hf : fs[k]? = some (.inr n)) (h1 : own1 fs k n = true) : (fs.map (fv g f)).set k (vi v) = fs.map (fv g (fun m => if m = n then v else f m)) := by
  have hk := (List.getElem?_eq_some_iff.mp hf).1
  apply List.ext_getElem?
  intro j
  by_cases hj : j = k
  · subst hj
    rw [List.getElem?_set_self (by simpa using hk), List.getElem?_map, hf]
    simp [fv]
  · rw [List.getElem?_set_ne (Ne.symm hj), List.getElem?_map, List.getElem?_map]
    cases hq : fs[j]? with
    | none => rfl
    | some q =>
      have hl := (List.getElem?_eq_some_iff.mp hq).1
      have h2 := List.all_eq_true.mp h1 j (List.mem_range.mpr hl)
      rw [hq] at h2
      cases q with
      | inl i => rfl
      | inr m =>
        simp [hj] at h2
        simp [fv, h2]
theorem J_getI (C : Cx x y g nL cc own nf nlc) {idx ci k i N : Nat} {Cn : String} {T : u_T} {fs : List Fd0} {n : Int} (hL : FL own idx ci k Cn T N) (hd : y.1[i]? = some (cO ci fs)) (hf : fs[k]? = some (.inr n)) (d : decode cc pc = .ok (.getfield idx, 3)) (kk : J x y g nL (pc + 3) lo (vi (σ i n) :: st) σ) : J x y g nL pc lo (.ref (gad g i) :: st) σ := by
  obtain ⟨p, l, e, R, s, m, args, below, meth, c, Q, kc, ks⟩ := x
  obtain ⟨hx, hb, hml, hown, hts, hK, hg, hNf, hNl, hLk, hSt, hKc, hKs⟩ := C
  obtain ⟨hin, hc, hk, hw⟩ := hL
  intro H locs ls hP hS hl
  exact va_get hx hb hts hin hown hK hP i (wd_at hd) hc k hk (hts _ hw) (fun _ h => h) (fsI hf) d (kk H locs ls hP hS hl)
theorem J_getR (C : Cx x y g nL cc own nf nlc) {idx ci k i N j : Nat} {Cn : String} {T : u_T} {fs : List Fd0} (hL : FL own idx ci k Cn T N) (hd : y.1[i]? = some (cO ci fs)) (hf : fs[k]? = some (.inl j)) (d : decode cc pc = .ok (.getfield idx, 3)) (kk : J x y g nL (pc + 3) lo (.ref (gad g j) :: st) σ) : J x y g nL pc lo (.ref (gad g i) :: st) σ := by
  obtain ⟨p, l, e, R, s, m, args, below, meth, c, Q, kc, ks⟩ := x
  obtain ⟨hx, hb, hml, hown, hts, hK, hg, hNf, hNl, hLk, hSt, hKc, hKs⟩ := C
  obtain ⟨hin, hc, hk, hw⟩ := hL
  intro H locs ls hP hS hl
  exact va_get hx hb hts hin hown hK hP i (wd_at hd) hc k hk (hts _ hw) (fun _ h => h) (fsR hf) d (kk H locs ls hP hS hl)
theorem J_put (C : Cx x y g nL cc own nf nlc) {idx ci k i N : Nat} {Cn : String} {T : u_T} {fs : List Fd0} {n v : Int} {ty : FieldType} {K : Sg → Option α} (hL : FL own idx ci k Cn T N) (hF : FP Cn T N k ty) (hd : y.1[i]? = some (cO ci fs)) (hf : fs[k]? = some (.inr n)) (h1 : own1 fs k n = true) (hi : y.2 i = false) (hσ : wfS y σ) (hv : rg v) (hn : narrow ty (vi v) = vi v) (hfit : fits ty (vi v) = true)
    (d : decode cc pc = .ok (.putfield idx, 3)) (h : st1 (put σ i n v) K = some o) (kk : ∀ σ', wfS y σ' → K σ' = some o → J x y g nL (pc + 3) lo st σ') : J x y g nL pc lo (vi v :: .ref (gad g i) :: st) σ := by
  obtain ⟨p, l, e, R, s, m, args, below, meth, c, Q, kc, ks⟩ := x
  obtain ⟨hx, hb, hml, hown, hts, hK, hg, hNf, hNl, hLk, hSt, hKc, hKs⟩ := C
  obtain ⟨hin, hc, hk, hw⟩ := hL
  obtain ⟨ty0, f1, f2, f3, f4⟩ := hF
  intro H locs ls hP hS hl
  refine va_put hx hb hts hin ty0 f1 f2 hown hK hP (wd_D hg σ) hS i (wd_at hd) hc k hk (hts _ hw) (fun _ h => h) f3 f4 hn hfit (by rw [List.length_map]; exact (List.getElem?_eq_some_iff.mp hf).1) d (fun H1 locs1 hP1 hD1 hS1 => ?_)
  rw [fs_set hf h1] at hP1
  rw [show (wd y g σ).set i (gad g i, Sum.inr (ci, fs.map (fv g (fun m => if m = n then v else σ i m)))) = wd y g (put σ i n v) from wd_put hd rfl] at hP1
  exact kk _ (wfS_put hσ hi hv) h H1 locs1 ls hP1 hS1 hl
theorem J_putI (C : Cx x y g nL cc own nf nlc) {idx ci k i N : Nat} {Cn : String} {T : u_T} {fs : List Fd0} {n v : Int} {K : Sg → Option α} (hL : FL own idx ci k Cn T N) (hF : FP Cn T N k .int) (hd : y.1[i]? = some (cO ci fs)) (hf : fs[k]? = some (.inr n)) (h1 : own1 fs k n = true) (hi : y.2 i = false) (hσ : wfS y σ) (hv : rg v)
    (d : decode cc pc = .ok (.putfield idx, 3)) (h : st1 (put σ i n v) K = some o) (kk : ∀ σ', wfS y σ' → K σ' = some o → J x y g nL (pc + 3) lo st σ') : J x y g nL pc lo (vi v :: .ref (gad g i) :: st) σ :=
  J_put C hL hF hd hf h1 hi hσ hv rfl rfl d h kk
theorem nar_bool {v : Int} (h : v = 0 ∨ v = 1) : narrow .boolean (vi v) = vi v ∧ fits .boolean (vi v) = true := by
  rcases h with rfl | rfl <;> exact ⟨rfl, rfl⟩
theorem J_putZ (C : Cx x y g nL cc own nf nlc) {idx ci k i N : Nat} {Cn : String} {T : u_T} {fs : List Fd0} {n v : Int} {K : Sg → Option α} (hL : FL own idx ci k Cn T N) (hF : FP Cn T N k .boolean) (hd : y.1[i]? = some (cO ci fs)) (hf : fs[k]? = some (.inr n)) (h1 : own1 fs k n = true) (hi : y.2 i = false) (hσ : wfS y σ) (hv : v = 0 ∨ v = 1)
    (d : decode cc pc = .ok (.putfield idx, 3)) (h : st1 (put σ i n v) K = some o) (kk : ∀ σ', wfS y σ' → K σ' = some o → J x y g nL (pc + 3) lo st σ') : J x y g nL pc lo (vi v :: .ref (gad g i) :: st) σ :=
  J_put C hL hF hd hf h1 hi hσ (by rcases hv with rfl | rfl <;> exact ⟨by decide, by decide⟩) (nar_bool hv).1 (nar_bool hv).2 d h kk
def aI (y : Sy) (i n : Nat) : Prop := y.1[i]? = some (cI n) ∧ n ≤ 2147483648 ∧ y.2 i = false
def aB (y : Sy) (i n : Nat) : Prop := y.1[i]? = some (cB n) ∧ n ≤ 2147483648 ∧ y.2 i = false
def aZ (y : Sy) (i n : Nat) : Prop := y.1[i]? = some (cZ n) ∧ n ≤ 2147483648 ∧ y.2 i = false
def aL (y : Sy) (i n : Nat) : Prop := y.1[i]? = some (cL n) ∧ n ≤ 2147483648 ∧ y.2 i = true
theorem narB {v : Int} (h : -128 ≤ v ∧ v ≤ 127) : vp_nar .byte (Int32.ofInt v) = Int32.ofInt v := by
  rw [vp_nar_byte, Int32.toInt8_ofInt, Int8.toInt32_ofInt (by have := h.1; exact this) (by have := h.2; exact this)]
theorem narZ {v : Int} (h : v = 0 ∨ v = 1) : vp_nar .boolean (Int32.ofInt v) = Int32.ofInt v := by rcases h with rfl | rfl <;> rfl
theorem J_iald (C : Cx x y g nL cc own nf nlc) {i n : Nat} {a : Int} {K : Int → Option α} (hA : aI y i n) (hσ : wfS y σ) (d : decode cc pc = .ok (.iaload, 1)) (h : rd σ i n a K = some o) (kk : ∀ v, rg v → K v = some o → J x y g nL (pc + 1) lo (vi v :: st) σ) : J x y g nL pc lo (vi a :: .ref (gad g i) :: st) σ := by
  obtain ⟨p, l, e, R, s, m, args, below, meth, c, Q, kc, ks⟩ := x
  obtain ⟨hx, hb, hml, hown, hts, hK, hg, hNf, hNl, hLk, hSt, hKc, hKs⟩ := C
  obtain ⟨hd, hn, hL⟩ := hA
  obtain ⟨⟨h0, h1⟩, h⟩ := some_if h
  intro H locs ls hP hS hl
  refine va_iald hx hb hK hP i 0 (wd_at hd) rfl (ofI_in hn h0 h1) d ?_
  have hk := kk _ (hσ i a hL) h H locs ls hP hS hl
  rw [ofI_cl hn h0 h1, Int.toNat_of_nonneg h0]
  exact hk
theorem J_bald (C : Cx x y g nL cc own nf nlc) {i n : Nat} {a : Int} {K : Int → Option α} (hA : aB y i n) (hσ : wfS y σ) (d : decode cc pc = .ok (.baload, 1)) (h : rd σ i n a K = some o) (kk : ∀ v, rg v → K v = some o → J x y g nL (pc + 1) lo (vi v :: st) σ) : J x y g nL pc lo (vi a :: .ref (gad g i) :: st) σ := by
  obtain ⟨p, l, e, R, s, m, args, below, meth, c, Q, kc, ks⟩ := x
  obtain ⟨hx, hb, hml, hown, hts, hK, hg, hNf, hNl, hLk, hSt, hKc, hKs⟩ := C
  obtain ⟨hd, hn, hL⟩ := hA
  obtain ⟨⟨h0, h1⟩, h⟩ := some_if h
  intro H locs ls hP hS hl
  refine va_bald hx hb hK hP i 2 (wd_at hd) rfl (ofI_in hn h0 h1) d ?_
  have hk := kk _ (hσ i a hL) h H locs ls hP hS hl
  rw [ofI_cl hn h0 h1, Int.toNat_of_nonneg h0]
  exact hk
theorem J_zald (C : Cx x y g nL cc own nf nlc) {i n : Nat} {a : Int} {K : Int → Option α} (hA : aZ y i n) (hσ : wfS y σ) (d : decode cc pc = .ok (.baload, 1)) (h : rd σ i n a K = some o) (kk : ∀ v, rg v → K v = some o → J x y g nL (pc + 1) lo (vi v :: st) σ) : J x y g nL pc lo (vi a :: .ref (gad g i) :: st) σ := by
  obtain ⟨p, l, e, R, s, m, args, below, meth, c, Q, kc, ks⟩ := x
  obtain ⟨hx, hb, hml, hown, hts, hK, hg, hNf, hNl, hLk, hSt, hKc, hKs⟩ := C
  obtain ⟨hd, hn, hL⟩ := hA
  obtain ⟨⟨h0, h1⟩, h⟩ := some_if h
  intro H locs ls hP hS hl
  refine va_zald hx hb hK hP i 3 (wd_at hd) rfl (ofI_in hn h0 h1) d ?_
  have hk := kk _ (hσ i a hL) h H locs ls hP hS hl
  rw [ofI_cl hn h0 h1, Int.toNat_of_nonneg h0]
  exact hk
theorem J_iast (C : Cx x y g nL cc own nf nlc) {i n : Nat} {a v : Int} {K : Sg → Option α} (hA : aI y i n) (hσ : wfS y σ) (hv : rg v) (d : decode cc pc = .ok (.iastore, 1)) (h : wr σ i n a v K = some o) (kk : ∀ σ', wfS y σ' → K σ' = some o → J x y g nL (pc + 1) lo st σ') : J x y g nL pc lo (vi v :: vi a :: .ref (gad g i) :: st) σ := by
  obtain ⟨p, l, e, R, s, m, args, below, meth, c, Q, kc, ks⟩ := x
  obtain ⟨hx, hb, hml, hown, hts, hK, hg, hNf, hNl, hLk, hSt, hKc, hKs⟩ := C
  obtain ⟨hd, hn, hL⟩ := hA
  obtain ⟨⟨h0, h1⟩, h⟩ := some_if h
  intro H locs ls hP hS hl
  refine va_iast hx hb hK hP (wd_D hg σ) hS i 0 (wd_at hd) rfl (ofI_in hn h0 h1) d (fun H1 locs1 hP1 hD1 hS1 => ?_)
  rw [ofI_cl hn h0 h1, updI h0] at hP1
  rw [show (wd y g σ).set i (gad g i, Sum.inl (gca g 0, n, Sum.inl (fun k : Nat => Int32.ofInt (if (k : Int) = a then v else σ i k)))) = wd y g (put σ i a v) from wd_put hd rfl] at hP1
  exact kk _ (wfS_put hσ hL hv) h H1 locs1 ls hP1 hS1 hl
theorem J_bast (C : Cx x y g nL cc own nf nlc) {i n : Nat} {a v : Int} {K : Sg → Option α} (hA : aB y i n) (hσ : wfS y σ) (d : decode cc pc = .ok (.bastore, 1)) (h : wrB σ i n a v K = some o) (kk : ∀ σ', wfS y σ' → K σ' = some o → J x y g nL (pc + 1) lo st σ') : J x y g nL pc lo (vi v :: vi a :: .ref (gad g i) :: st) σ := by
  obtain ⟨p, l, e, R, s, m, args, below, meth, c, Q, kc, ks⟩ := x
  obtain ⟨hx, hb, hml, hown, hts, hK, hg, hNf, hNl, hLk, hSt, hKc, hKs⟩ := C
  obtain ⟨hd, hn, hL⟩ := hA
  obtain ⟨⟨⟨h0, h1⟩, hv⟩, h⟩ := some_if h
  intro H locs ls hP hS hl
  refine va_bast hx hb hK hP (wd_D hg σ) hS i 2 (wd_at hd) rfl (ofI_in hn h0 h1) d (fun H1 locs1 hP1 hD1 hS1 => ?_)
  rw [narB hv] at hP1
  rw [ofI_cl hn h0 h1, updI h0] at hP1
  rw [show (wd y g σ).set i (gad g i, Sum.inl (gca g 2, n, Sum.inl (fun k : Nat => Int32.ofInt (if (k : Int) = a then v else σ i k)))) = wd y g (put σ i a v) from wd_put hd rfl] at hP1
  exact kk _ (wfS_put hσ hL ⟨by omega, by omega⟩) h H1 locs1 ls hP1 hS1 hl
theorem J_zast (C : Cx x y g nL cc own nf nlc) {i n : Nat} {a v : Int} {K : Sg → Option α} (hA : aZ y i n) (hσ : wfS y σ) (d : decode cc pc = .ok (.bastore, 1)) (h : wrZ σ i n a v K = some o) (kk : ∀ σ', wfS y σ' → K σ' = some o → J x y g nL (pc + 1) lo st σ') : J x y g nL pc lo (vi v :: vi a :: .ref (gad g i) :: st) σ := by
  obtain ⟨p, l, e, R, s, m, args, below, meth, c, Q, kc, ks⟩ := x
  obtain ⟨hx, hb, hml, hown, hts, hK, hg, hNf, hNl, hLk, hSt, hKc, hKs⟩ := C
  obtain ⟨hd, hn, hL⟩ := hA
  obtain ⟨⟨⟨h0, h1⟩, hv⟩, h⟩ := some_if h
  intro H locs ls hP hS hl
  refine va_zast hx hb hK hP (wd_D hg σ) hS i 3 (wd_at hd) rfl (ofI_in hn h0 h1) d (fun H1 locs1 hP1 hD1 hS1 => ?_)
  rw [narZ hv] at hP1
  rw [ofI_cl hn h0 h1, updI h0] at hP1
  rw [show (wd y g σ).set i (gad g i, Sum.inl (gca g 3, n, Sum.inl (fun k : Nat => Int32.ofInt (if (k : Int) = a then v else σ i k)))) = wd y g (put σ i a v) from wd_put hd rfl] at hP1
  exact kk _ (wfS_put hσ hL (by rcases hv with rfl | rfl <;> exact ⟨by decide, by decide⟩)) h H1 locs1 ls hP1 hS1 hl
theorem J_lald (C : Cx x y g nL cc own nf nlc) {i n : Nat} {a : Int} {K : Int → Option α} (hA : aL y i n) (d : decode cc pc = .ok (.laload, 1)) (h : rd σ i n a K = some o) (kk : ∀ v, K v = some o → J x y g nL (pc + 1) lo (vl v :: st) σ) : J x y g nL pc lo (vi a :: .ref (gad g i) :: st) σ := by
  obtain ⟨p, l, e, R, s, m, args, below, meth, c, Q, kc, ks⟩ := x
  obtain ⟨hx, hb, hml, hown, hts, hK, hg, hNf, hNl, hLk, hSt, hKc, hKs⟩ := C
  obtain ⟨hd, hn, hL⟩ := hA
  obtain ⟨⟨h0, h1⟩, h⟩ := some_if h
  intro H locs ls hP hS hl
  refine va_lald hx hb hK hP i 1 (wd_at hd) rfl (ofI_in hn h0 h1) d ?_
  have hk := kk _ h H locs ls hP hS hl
  rw [ofI_cl hn h0 h1, Int.toNat_of_nonneg h0]
  exact hk
theorem J_last (C : Cx x y g nL cc own nf nlc) {i n : Nat} {a v : Int} {K : Sg → Option α} (hA : aL y i n) (hσ : wfS y σ) (d : decode cc pc = .ok (.lastore, 1)) (h : wr σ i n a v K = some o) (kk : ∀ σ', wfS y σ' → K σ' = some o → J x y g nL (pc + 1) lo st σ') : J x y g nL pc lo (vl v :: vi a :: .ref (gad g i) :: st) σ := by
  obtain ⟨p, l, e, R, s, m, args, below, meth, c, Q, kc, ks⟩ := x
  obtain ⟨hx, hb, hml, hown, hts, hK, hg, hNf, hNl, hLk, hSt, hKc, hKs⟩ := C
  obtain ⟨hd, hn, hL⟩ := hA
  obtain ⟨⟨h0, h1⟩, h⟩ := some_if h
  intro H locs ls hP hS hl
  refine va_last hx hb hK hP (wd_D hg σ) hS i 1 (wd_at hd) rfl (ofI_in hn h0 h1) d (fun H1 locs1 hP1 hD1 hS1 => ?_)
  rw [ofI_cl hn h0 h1, updL h0] at hP1
  rw [show (wd y g σ).set i (gad g i, Sum.inl (gca g 1, n, Sum.inr (Sum.inl (fun k : Nat => Int64.ofInt (if (k : Int) = a then v else σ i k))))) = wd y g (put σ i a v) from wd_put hd rfl] at hP1
  exact kk _ (wfS_putL hσ hL) h H1 locs1 ls hP1 hS1 hl
theorem J_alen (C : Cx x y g nL cc own nf nlc) {i n t0 : Nat} {z : vp_A} {cA : ClassId} {ty : FieldType} {dd : Cd} (hd : y.1[i]? = some dd) (hz : dd g (σ i) = .inl (cA, z)) (ht : (tysOf g)[t0]? = some (cA, ty)) (hn : z.1 = n) (d : decode cc pc = .ok (.arraylength, 1)) (kk : J x y g nL (pc + 1) lo (vi n :: st) σ) : J x y g nL pc lo (.ref (gad g i) :: st) σ := by
  obtain ⟨p, l, e, R, s, m, args, below, meth, c, Q, kc, ks⟩ := x
  obtain ⟨hx, hb, hml, hown, hts, hK, hg, hNf, hNl, hLk, hSt, hKc, hKs⟩ := C
  intro H locs ls hP hS hl
  subst hn
  have hd2 := wd_at (g := g) (σ := σ) hd
  rw [hz] at hd2
  exact va_alen hx hb hK hP i t0 hd2 ht rfl d (kk H locs ls hP hS hl)
theorem J_aaldT (C : Cx x y g nL cc own nf nlc) {i n : Nat} {hh : Nat → Nat} {a : Int} {K : Int → Option α} (hd : y.1[i]? = some (cT n hh)) (hn : n ≤ 2147483648) (d : decode cc pc = .ok (.aaload, 1)) (h : (if 0 ≤ a ∧ a < (n : Int) then K a else none) = some o) (kk : 0 ≤ a → a < (n : Int) → K a = some o → J x y g nL (pc + 1) lo (.ref (gad g (hh a.toNat)) :: st) σ) : J x y g nL pc lo (vi a :: .ref (gad g i) :: st) σ := by
  obtain ⟨p, l, e, R, s, m, args, below, meth, c, Q, kc, ks⟩ := x
  obtain ⟨hx, hb, hml, hown, hts, hK, hg, hNf, hNl, hLk, hSt, hKc, hKs⟩ := C
  obtain ⟨⟨h0, h1⟩, h⟩ := some_if h
  intro H locs ls hP hS hl
  refine va_aldq hx hb hK hP i 4 (wd_at hd) rfl (ofI_in hn h0 h1) d ?_
  have hk := kk h0 h1 h H locs ls hP hS hl
  rw [ofI_cl hn h0 h1]
  exact hk
theorem J_null (C : Cx x y g nL cc own nf nlc) (d : decode cc pc = .ok (.aconst_null, 1)) (kk : J x y g nL (pc + 1) lo (.null :: st) σ) : J x y g nL pc lo st σ := by
  obtain ⟨p, l, e, R, s, m, args, below, meth, c, Q, kc, ks⟩ := x
  obtain ⟨hx, hb, hml, hown, hts, hK, hg, hNf, hNl, hLk, hSt, hKc, hKs⟩ := C
  intro H locs ls hP hS hl
  exact lv_null hx hb d (kk H locs ls hP hS hl)
theorem J_nonnull (C : Cx x y g nL cc own nf nlc) {q : Nat} {off : Int} {tgt : Nat} (d : decode cc pc = .ok (.ifnonnull off, 3)) (ht : (pc : Int) + off = (tgt : Int)) (kk : J x y g nL tgt lo st σ) : J x y g nL pc lo (.ref q :: st) σ := by
  obtain ⟨p, l, e, R, s, m, args, below, meth, c, Q, kc, ks⟩ := x
  obtain ⟨hx, hb, hml, hown, hts, hK, hg, hNf, hNl, hLk, hSt, hKc, hKs⟩ := C
  intro H locs ls hP hS hl
  exact lv_ifnonnull hx hb d ht (kk H locs ls hP hS hl)
theorem J_nonnullN (C : Cx x y g nL cc own nf nlc) {off : Int} (d : decode cc pc = .ok (.ifnonnull off, 3)) (kk : J x y g nL (pc + 3) lo st σ) : J x y g nL pc lo (.null :: st) σ := by
  obtain ⟨p, l, e, R, s, m, args, below, meth, c, Q, kc, ks⟩ := x
  obtain ⟨hx, hb, hml, hown, hts, hK, hg, hNf, hNl, hLk, hSt, hKc, hKs⟩ := C
  intro H locs ls hP hS hl
  exact lv_ifnonnullN hx hb d (kk H locs ls hP hS hl)
theorem J_isnull (C : Cx x y g nL cc own nf nlc) {q : Nat} {off : Int} (d : decode cc pc = .ok (.ifnull off, 3)) (kk : J x y g nL (pc + 3) lo st σ) : J x y g nL pc lo (.ref q :: st) σ := by
  obtain ⟨p, l, e, R, s, m, args, below, meth, c, Q, kc, ks⟩ := x
  obtain ⟨hx, hb, hml, hown, hts, hK, hg, hNf, hNl, hLk, hSt, hKc, hKs⟩ := C
  intro H locs ls hP hS hl
  exact lv_ifnull hx hb d (kk H locs ls hP hS hl)
theorem J_isnullN (C : Cx x y g nL cc own nf nlc) {off : Int} {tgt : Nat} (d : decode cc pc = .ok (.ifnull off, 3)) (ht : (pc : Int) + off = (tgt : Int)) (kk : J x y g nL tgt lo st σ) : J x y g nL pc lo (.null :: st) σ := by
  obtain ⟨p, l, e, R, s, m, args, below, meth, c, Q, kc, ks⟩ := x
  obtain ⟨hx, hb, hml, hown, hts, hK, hg, hNf, hNl, hLk, hSt, hKc, hKs⟩ := C
  intro H locs ls hP hS hl
  exact lv_ifnullN hx hb d ht (kk H locs ls hP hS hl)
/-! a number against a switch's table, case by case -/
theorem J_switch (C : Cx x y g nL cc own nf nlc) {a : Int} (ha : rg a) {dflt lo9 hi9 : Int} {offs : Array Int} {len tgt : Nat} (d : decode cc pc = .ok (.tableswitch dflt lo9 hi9 offs, len)) (off : Int) (hin : a < lo9 ∨ hi9 < a → off = dflt) (hof : ¬ a < lo9 → ¬ hi9 < a → offs[(a - lo9).toNat]? = some off) (ht : (pc : Int) + off = (tgt : Int)) (kk : J x y g nL tgt lo st σ) : J x y g nL pc lo (vi a :: st) σ := by
  obtain ⟨p, l, e, R, s, m, args, below, meth, c, Q, kc, ks⟩ := x
  obtain ⟨hx, hb, hml, hown, hts, hK, hg, hNf, hNl, hLk, hSt, hKc, hKs⟩ := C
  intro H locs ls hP hS hl
  by_cases h : a < lo9 ∨ hi9 < a
  · refine lv_tableOut hx hb d (by rw [ofI_toInt ha]; exact h) (by rw [← hin h]; exact ht) (kk H locs ls hP hS hl)
  · have h1 : ¬ a < lo9 := fun z => h (Or.inl z)
    have h2 : ¬ hi9 < a := fun z => h (Or.inr z)
    exact lv_tableIn hx hb d (by rw [ofI_toInt ha]; exact h1) (by rw [ofI_toInt ha]; exact h2) (by rw [ofI_toInt ha]; exact hof h1 h2) ht (kk H locs ls hP hS hl)
theorem J_lookup (C : Cx x y g nL cc own nf nlc) {a : Int} (ha : rg a) {dflt : Int} {pz : Array (Int × Int)} {len tgt : Nat} (d : decode cc pc = .ok (.lookupswitch dflt pz, len)) (hp : (pz.toList.zip (pz.toList.drop 1)).all (fun (a, next) => a.1 < next.1) = true) (off : Int) (ho : Op.lookupswitch.offset pz.toList dflt a = off) (ht : (pc : Int) + off = (tgt : Int)) (kk : J x y g nL tgt lo st σ) : J x y g nL pc lo (vi a :: st) σ := by
  obtain ⟨p, l, e, R, s, m, args, below, meth, c, Q, kc, ks⟩ := x
  obtain ⟨hx, hb, hml, hown, hts, hK, hg, hNf, hNl, hLk, hSt, hKc, hKs⟩ := C
  intro H locs ls hP hS hl
  exact lv_lookup hx hb d hp (by rw [ofI_toInt ha]; exact ho) ht (kk H locs ls hP hS hl)
/-! returns -/
theorem J_iret (C : Cx x y g nL cc own nf nlc) {r : Int} {zz : Prop} (E : Rx x y g (some .int) (some (vi r)) σ zz) (hz : zz) (d : decode cc pc = .ok (.ireturn, 1)) : J x y g nL pc lo [vi r] σ := by
  obtain ⟨p, l, e, R, s, m, args, below, meth, c, Q, kc, ks⟩ := x
  obtain ⟨hx, hb, hml, hown, hts, hK, hg, hNf, hNl, hLk, hSt, hKc, hKs⟩ := C
  obtain ⟨hr, mc, ms, hmc, hms, hQ⟩ := E
  subst hQ
  intro H locs ls hP hS hl
  refine W.widen hmc hms ?_
  exact W.iret hx hb hr (fun t ht hW => ⟨⟨rfl, by rw [ht]; exact hP, hz⟩, hS.F ht⟩) hS.2.2 d
theorem J_zret (C : Cx x y g nL cc own nf nlc) {r : Int} {zz : Prop} (hr9 : r = 0 ∨ r = 1) (E : Rx x y g (some .boolean) (some (vi r)) σ zz) (hz : zz) (d : decode cc pc = .ok (.ireturn, 1)) : J x y g nL pc lo [vi r] σ := by
  obtain ⟨p, l, e, R, s, m, args, below, meth, c, Q, kc, ks⟩ := x
  obtain ⟨hx, hb, hml, hown, hts, hK, hg, hNf, hNl, hLk, hSt, hKc, hKs⟩ := C
  obtain ⟨hr, mc, ms, hmc, hms, hQ⟩ := E
  subst hQ
  intro H locs ls hP hS hl
  refine W.widen hmc hms ?_
  exact W.zret hx hb hr (nar_bool hr9).1 (fun t ht hW => ⟨⟨rfl, by rw [ht]; exact hP, hz⟩, hS.F ht⟩) hS.2.2 d
theorem J_lret (C : Cx x y g nL cc own nf nlc) {r : Int} {zz : Prop} (E : Rx x y g (some .long) (some (vl r)) σ zz) (hz : zz) (d : decode cc pc = .ok (.lreturn, 1)) : J x y g nL pc lo [vl r] σ := by
  obtain ⟨p, l, e, R, s, m, args, below, meth, c, Q, kc, ks⟩ := x
  obtain ⟨hx, hb, hml, hown, hts, hK, hg, hNf, hNl, hLk, hSt, hKc, hKs⟩ := C
  obtain ⟨hr, mc, ms, hmc, hms, hQ⟩ := E
  subst hQ
  intro H locs ls hP hS hl
  refine W.widen hmc hms ?_
  exact W.lret hx hb hr (fun t ht hW => ⟨⟨rfl, by rw [ht]; exact hP, hz⟩, hS.F ht⟩) hS.2.2 d
theorem J_vret (C : Cx x y g nL cc own nf nlc) {zz : Prop} (E : Rx x y g none none σ zz) (hz : zz) (d : decode cc pc = .ok (.return_, 1)) : J x y g nL pc lo [] σ := by
  obtain ⟨p, l, e, R, s, m, args, below, meth, c, Q, kc, ks⟩ := x
  obtain ⟨hx, hb, hml, hown, hts, hK, hg, hNf, hNl, hLk, hSt, hKc, hKs⟩ := C
  obtain ⟨hr, mc, ms, hmc, hms, hQ⟩ := E
  subst hQ
  intro H locs ls hP hS hl
  refine W.widen hmc hms ?_
  exact W.vret hx hb hr (fun t ht hW => ⟨⟨rfl, by rw [ht]; exact hP, hz⟩, hS.F ht⟩) hS.2.2 d
theorem J_aret (C : Cx x y g nL cc own nf nlc) {v : Value} {rt : String} {zz : Prop} (hv : v = .null ∨ ∃ a, v = .ref a) (E : Rx x y g (some (.object rt)) (some v) σ zz) (hz : zz) (d : decode cc pc = .ok (.areturn, 1)) : J x y g nL pc lo [v] σ := by
  obtain ⟨p, l, e, R, s, m, args, below, meth, c, Q, kc, ks⟩ := x
  obtain ⟨hx, hb, hml, hown, hts, hK, hg, hNf, hNl, hLk, hSt, hKc, hKs⟩ := C
  obtain ⟨hr, mc, ms, hmc, hms, hQ⟩ := E
  subst hQ
  intro H locs ls hP hS hl
  refine W.widen hmc hms ?_
  exact W.aret hx hb hr (Or.inl ⟨_, rfl⟩) hv (fun t ht hW => ⟨⟨rfl, by rw [ht]; exact hP, hz⟩, hS.F ht⟩) hS.2.2 d
/-! calls -/
theorem J_of_run {p : Program} {l : Launch} {e : Env} {R : Room} {s : State} {m : MethodId} {args : Array Value} {below : List Frame} {meth : Method} {c : Code} {Q : State → Prop} {kc ks : Nat} {H : Heap} {locs : List Loc} {ls : Array Slot} {st0 rest : List Value} {a : Array Value} {rv : Option Value} {σ' : Sg} {zz : Prop} {mc ms : Nat}
    (hr : va_Run p l e R s m args below meth c H locs kc ks mc ms (F0 m pc ls st0) rest (QJ y g rv σ' zz a) (aw y g)) (hS : va_S (aw y g) s.heap H locs) (hl : lv_has ls nL lo)
    (kk : zz → J (p, l, e, R, s, m, args, below, meth, c, Q, kc + mc, ks + ms) y g nL (pc + 3) lo (rv.toList ++ rest) σ') : W p l e R s m args below meth c H locs kc ks Q (F0 m pc ls st0) := by
  intro T hT X
  obtain ⟨v, st₀, t, T', L, h0, X', hL, e1, e2, ⟨⟨hv, hP', hzz⟩, hz, hk⟩, st⟩ := hr T hT X
  cases hv
  rw [h0] at hz hk
  obtain ⟨t2, a1, b1⟩ := kk hzz T'.heap (locs ++ L) ls (by rw [e1]; exact hP')
    ⟨Nat.le_trans hS.1 (by rw [e1]; exact hz), fun q h1 h2 => by rw [e1, hk q (Nat.lt_of_lt_of_le h1 hS.1) h2]; exact hS.2.1 q h1 h2, fun q hq => by
      rcases List.mem_append.mp hq with h | h
      · exact hS.2.2 q h
      · exact hL q h⟩ hl T' rfl X'
  exact ⟨t2, st t2 a1, b1⟩
theorem goodIn_ok {ws : List Cond} (h : ∀ w ∈ ws, w ∈ okw) : GoodIn okw ws := fun w hw => ⟨h w hw, good_of_word (okw_good w (h w hw))⟩
theorem ok_cons {w : Cond} {ws : List Cond} (h : w ∈ okw) (h2 : ∀ v ∈ ws, v ∈ okw) : ∀ v ∈ w :: ws, v ∈ okw := fun v hv => (List.mem_cons.mp hv).elim (fun e => by rw [e]; exact h) (h2 v)
theorem J_callV (C : Cx x y g nL cc own nf nlc) {n : MethodName} {ccM : ByteArray} {maxL np fr lc idx i ci N : Nat} {ret : Option FieldType} {As rest : List Value} {rv : Option Value} {σ' : Sg} {zz : Prop} {T : u_T} {fs : List Fd0}
    (hMW : MV n ccM maxL ret np) (hlk : Cond.methodLink own idx n ∈ okw) (hM : CJ x.2.1 y g n ccM maxL ret fr lc (.ref (gad g i) :: As) σ rv σ' zz) (hd : y.1[i]? = some (cO ci fs)) (hc : vwCl[ci]? = some (n.cls, T, N))
    (hfr : fr + 1 ≤ nf) (hlo : 8 + (maxL + 11) + lc ≤ nlc) (hst : st = As.reverse ++ .ref (gad g i) :: rest) (hn : As.length = np) (hcat : (rest.map fun v => v.category).sum ≤ 8) (d : decode cc pc = .ok (.invokevirtual idx, 3)) (kk : zz → J x y g nL (pc + 3) lo (rv.toList ++ rest) σ') : J x y g nL pc lo st σ := by
  subst hst
  obtain ⟨p, l, e, R, s, m, args, below, meth, c, Q, kc, ks⟩ := x
  obtain ⟨hx, hb, hml, hown, hts, hK, hg, hNf, hNl, hLk, hSt, hKc, hKs⟩ := C
  obtain ⟨⟨w1, w2, w3, w4, w5⟩, w6, w7⟩ := hMW
  intro H locs ls hP hS hl
  refine J_of_run (va_runV (As := As) (rest := rest) ⟨hx, hb, hml, hown, hts⟩ hM (cwV np hts (goodIn_ok (ok_cons hlk (ok_cons w6 (ok_cons w7 (ok_cons w2 (ok_cons w1 (fun _ h => h))))))) rfl rfl rfl ⟨rfl, w3, w4, w5⟩ ⟨Nat.le_trans hfr hNf, Nat.le_trans hlo hNl⟩) ⟨PJ_blind, va_recv hK hP hc (wd_at hd), fun U hU hW => ⟨rfl, by rw [hU]; exact hP, va_K.moved hW.alike hK, by rw [hU]; exact hSt.go hS hW⟩⟩ rfl hn hl.1 rfl (lv_room hcat) d ⟨hKc, hKs⟩) hS hl kk
theorem J_callS (C : Cx x y g nL cc own nf nlc) {n : MethodName} {ccM : ByteArray} {maxL np fr lc idx : Nat} {ret : Option FieldType} {As rest : List Value} {rv : Option Value} {σ' : Sg} {zz : Prop}
    (hMW : MS n ccM maxL ret np) (hlk : Cond.methodLink own idx n ∈ okw) (hM : CJ x.2.1 y g n ccM maxL ret fr lc As σ rv σ' zz)
    (hfr : fr + 1 ≤ nf) (hlo : 8 + (maxL + 11) + lc ≤ nlc) (hst : st = As.reverse ++ rest) (hn : As.length = np) (hcat : (rest.map fun v => v.category).sum ≤ 8) (d : decode cc pc = .ok (.invokestatic idx, 3)) (kk : zz → J x y g nL (pc + 3) lo (rv.toList ++ rest) σ') : J x y g nL pc lo st σ := by
  subst hst
  obtain ⟨p, l, e, R, s, m, args, below, meth, c, Q, kc, ks⟩ := x
  obtain ⟨hx, hb, hml, hown, hts, hK, hg, hNf, hNl, hLk, hSt, hKc, hKs⟩ := C
  obtain ⟨⟨w1, w2, w3, w4, w5⟩, w6⟩ := hMW
  intro H locs ls hP hS hl
  refine J_of_run (va_runS (As := As) (rest := rest) ⟨hx, hb, hml, hown, hts⟩ hM (va_cwS np hts (goodIn_ok (ok_cons hlk (ok_cons w6 (ok_cons w2 (ok_cons w1 (fun _ h => h)))))) rfl rfl rfl ⟨w3, w4, w5⟩ ⟨Nat.le_trans hfr hNf, Nat.le_trans hlo hNl⟩) ⟨PJ_blind, fun U hU hW => ⟨rfl, by rw [hU]; exact hP, va_K.moved hW.alike hK, by rw [hU]; exact hSt.go hS hW⟩⟩ rfl hn hl.1 rfl (lv_room hcat) d ⟨hKc, hKs⟩) hS hl kk
theorem J_callSN (C : Cx x y g nL cc own nf nlc) {n : MethodName} {host : String} {ccM : ByteArray} {maxL np fr lc idx : Nat} {ret : Option FieldType} {As rest : List Value} {rv : Option Value} {σ' : Sg} {zz : Prop}
    (hMW : MS n ccM maxL ret np) (hlk : (own, idx, n, host) ∈ nestL) (hM : CJ x.2.1 y g n ccM maxL ret fr lc As σ rv σ' zz)
    (hfr : fr + 1 ≤ nf) (hlo : 8 + (maxL + 11) + lc ≤ nlc) (hst : st = As.reverse ++ rest) (hn : As.length = np) (hcat : (rest.map fun v => v.category).sum ≤ 8) (d : decode cc pc = .ok (.invokestatic idx, 3)) (kk : zz → J x y g nL (pc + 3) lo (rv.toList ++ rest) σ') : J x y g nL pc lo st σ := by
  subst hst
  obtain ⟨p, l, e, R, s, m, args, below, meth, c, Q, kc, ks⟩ := x
  obtain ⟨hx, hb, hml, hown, hts, hK, hg, hNf, hNl, hLk, hSt, hKc, hKs⟩ := C
  obtain ⟨⟨w1, w2, w3, w4, w5⟩, w6⟩ := hMW
  intro H locs ls hP hS hl
  have hnw := hSt.2.2.2.2.1 _ hlk
  refine J_of_run (va_runSN (As := As) (rest := rest) (host := host) ⟨hx, hb, hml, hown, hts⟩ hM ⟨va_cnB np hts (goodIn_ok (ok_cons w1 (fun _ h => h))) rfl rfl rfl hnw (hts _ w2) ⟨w3, w4, w5⟩ ⟨Nat.le_trans hfr hNf, Nat.le_trans hlo hNl⟩, hts _ w6, trivial⟩ ⟨PJ_blind, fun U hU hW => ⟨rfl, by rw [hU]; exact hP, va_K.moved hW.alike hK, by rw [hU]; exact hSt.go hS hW⟩⟩ rfl hn hl.1 rfl (lv_room hcat) d ⟨hKc, hKs⟩) hS hl kk

def mxI (a b : Int) : Int := if a < b then b else a
def mnI (a b : Int) : Int := if b < a then b else a
def abI (a : Int) : Int := if 0 ≤ a then a else -a
theorem ofI_ite {p : Prop} [Decidable p] {q : Prop} [Decidable q] (h : p ↔ q) (a b : Int) : (if p then Int32.ofInt a else Int32.ofInt b) = Int32.ofInt (if q then a else b) := by
  by_cases hp : p
  · rw [if_pos hp, if_pos (h.mp hp)]
  · rw [if_neg hp, if_neg (fun z => hp (h.mpr z))]
theorem rg_mx {a b : Int} (ha : rg a) (hb : rg b) : rg (mxI a b) := by unfold mxI; split <;> assumption
theorem rg_mn {a b : Int} (ha : rg a) (hb : rg b) : rg (mnI a b) := by unfold mnI; split <;> assumption
theorem J_max (C : Cx x y g nL cc own nf nlc) {a b : Int} {idx : Nat} (ha : rg a) (hb9 : rg b) (hM : mthW Lib.Math.max.name Lib.Math.max.code 2) (hlk : Cond.methodLink own idx Lib.Math.max.name ∈ okw) (hfr : 1 ≤ nf) (hlo : (st.map fun v => v.category).sum + 13 ≤ nlc) (d : decode cc pc = .ok (.invokestatic idx, 3)) (kk : J x y g nL (pc + 3) lo (vi (mxI a b) :: st) σ) : J x y g nL pc lo (vi b :: vi a :: st) σ := by
  obtain ⟨p, l, e, R, s, m, args, below, meth, c, Q, kc, ks⟩ := x
  obtain ⟨hx, hb, hml, hown, hts, hK, hg, hNf, hNl, hLk, hSt, hKc, hKs⟩ := C
  intro H locs ls hP hS hl
  have hk := kk H locs ls hP hS hl
  unfold vi mxI at hk
  rw [← ofI_ite (ofI_lt ha hb9)] at hk
  exact va_mmax hx hb (hml.trans hl.1.symm) hown (hts _ hlk) (hts _ hM.1) (hts _ hM.2.1) (hts _ hM.2.2) (Nat.le_trans hfr hNf) (Nat.le_trans hlo hNl) hKc hKs d hk
theorem J_min (C : Cx x y g nL cc own nf nlc) {a b : Int} {idx : Nat} (ha : rg a) (hb9 : rg b) (hM : mthW Lib.Math.min.name Lib.Math.min.code 2) (hlk : Cond.methodLink own idx Lib.Math.min.name ∈ okw) (hfr : 1 ≤ nf) (hlo : (st.map fun v => v.category).sum + 13 ≤ nlc) (d : decode cc pc = .ok (.invokestatic idx, 3)) (kk : J x y g nL (pc + 3) lo (vi (mnI a b) :: st) σ) : J x y g nL pc lo (vi b :: vi a :: st) σ := by
  obtain ⟨p, l, e, R, s, m, args, below, meth, c, Q, kc, ks⟩ := x
  obtain ⟨hx, hb, hml, hown, hts, hK, hg, hNf, hNl, hLk, hSt, hKc, hKs⟩ := C
  intro H locs ls hP hS hl
  have hk := kk H locs ls hP hS hl
  unfold vi mnI at hk
  rw [← ofI_ite (ofI_lt hb9 ha)] at hk
  exact va_mmin hx hb (hml.trans hl.1.symm) hown (hts _ hlk) (hts _ hM.1) (hts _ hM.2.1) (hts _ hM.2.2) (Nat.le_trans hfr hNf) (Nat.le_trans hlo hNl) hKc hKs d hk
theorem J_abs (C : Cx x y g nL cc own nf nlc) {a : Int} {idx : Nat} {K : Int → Option α} (ha : rg a) (hM : mthW Lib.Math.abs.name Lib.Math.abs.code 1) (hlk : Cond.methodLink own idx Lib.Math.abs.name ∈ okw) (hfr : 1 ≤ nf) (hlo : (st.map fun v => v.category).sum + 13 ≤ nlc) (d : decode cc pc = .ok (.invokestatic idx, 3)) (h : ck (abI a) K = some o) (kk : ∀ v, rg v → K v = some o → J x y g nL (pc + 3) lo (vi v :: st) σ) : J x y g nL pc lo (vi a :: st) σ := by
  obtain ⟨hv, h⟩ := some_if h
  obtain ⟨p, l, e, R, s, m, args, below, meth, c, Q, kc, ks⟩ := x
  obtain ⟨hx, hb, hml, hown, hts, hK, hg, hNf, hNl, hLk, hSt, hKc, hKs⟩ := C
  intro H locs ls hP hS hl
  have hk := kk _ hv h H locs ls hP hS hl
  have e : (if (0 : Int32) ≤ Int32.ofInt a then Int32.ofInt a else 0 - Int32.ofInt a) = Int32.ofInt (abI a) := by
    have h0 : (0 : Int32) - Int32.ofInt a = Int32.ofInt (-a) := by
      have := Int32.ofInt_sub 0 a
      rw [Int.zero_sub] at this
      rw [this]; rfl
    rw [h0]
    exact ofI_ite (ofI_le (x := 0) ⟨by decide, by decide⟩ ha) a (-a)
  unfold vi at hk
  rw [← e] at hk
  exact va_mabs hx hb (hml.trans hl.1.symm) hown (hts _ hlk) (hts _ hM.1) (hts _ hM.2.1) (hts _ hM.2.2) (Nat.le_trans hfr hNf) (Nat.le_trans hlo hNl) hKc hKs d hk
theorem J_copyI (C : Cx x y g nL cc own nf nlc) {i j ni nj idx : Nat} {a b n : Int} {K : Sg → Option α} (hA : aI y i ni) (hB : aI y j nj) (hσ : wfS y σ) (ra : rg a) (rb : rg b) (rn : rg n) (hM : cpyW) (hlk : Cond.methodLink own idx arraycopyName ∈ okw) (hfr : 1 ≤ nf) (hlo : (st.map fun v => v.category).sum + (nativeFrameWords "java/lang/System" "arraycopy" 5 + 11) ≤ nlc) (d : decode cc pc = .ok (.invokestatic idx, 3))
    (h : cpy σ i j ni nj a b n K = some o) (kk : ∀ σ', wfS y σ' → K σ' = some o → J x y g nL (pc + 3) lo st σ') : J x y g nL pc lo (vi n :: vi b :: .ref (gad g j) :: vi a :: .ref (gad g i) :: st) σ := by
  obtain ⟨⟨h1, h2, h3, h4, h5⟩, h⟩ := some_if h
  obtain ⟨p, l, e, R, s, m, args, below, meth, c, Q, kc, ks⟩ := x
  obtain ⟨hx, hb, hml, hown, hts, hK, hg, hNf, hNl, hLk, hSt, hKc, hKs⟩ := C
  obtain ⟨hd, hn, hL⟩ := hA
  obtain ⟨hd2, hn2, hL2⟩ := hB
  intro H locs ls hP hS hl
  have ca : (Int32.ofInt a).toNatClampNeg = a.toNat := by show (Int32.ofInt a).toInt.toNat = _; rw [ofI_toInt ra]
  have cb : (Int32.ofInt b).toNatClampNeg = b.toNat := by show (Int32.ofInt b).toInt.toNat = _; rw [ofI_toInt rb]
  have cn : (Int32.ofInt n).toNatClampNeg = n.toNat := by show (Int32.ofInt n).toInt.toNat = _; rw [ofI_toInt rn]
  have ng : ∀ {z : Int}, rg z → 0 ≤ z → ¬ Int32.ofInt z < 0 := fun rz hz q => by
    have := (ofI_lt (y := 0) rz ⟨by decide, by decide⟩).mp q
    omega
  refine va_copyi hx hb (hml.trans hl.1.symm) hown (hts _ hlk) (hts _ hM.1) (hts _ hM.2.1) (hts _ hM.2.2) hK hP (wd_D hg σ) hS i j 0 0 (wd_at hd) (wd_at hd2) (ty := .int) rfl rfl rfl (ng ra h1) (ng rb h2) (ng rn h3) (by rw [ca, cn]; omega) (by rw [cb, cn]; omega) (fun _ _ => rfl) (Nat.le_trans hfr hNf) (Nat.le_trans hlo hNl) d (fun H1 locs1 hP1 hD1 hS1 => ?_)
  rw [ca, cb, cn] at hP1
  have e : va_cpy (fun k : Nat => Int32.ofInt (σ i k)) (fun k : Nat => Int32.ofInt (σ j k)) a.toNat b.toNat n.toNat = fun k : Nat => Int32.ofInt (if b ≤ (k : Int) ∧ (k : Int) < b + n then σ i (a + ((k : Int) - b)) else σ j k) := by
    funext k
    unfold va_cpy
    by_cases hk : b.toNat ≤ k ∧ k < b.toNat + n.toNat
    · have hk2 : b ≤ (k : Int) ∧ (k : Int) < b + n := by omega
      rw [if_pos hk, if_pos hk2]
      dsimp only
      rw [show ((a.toNat + (k - b.toNat) : Nat) : Int) = a + ((k : Int) - b) by omega]
    · have hk2 : ¬ (b ≤ (k : Int) ∧ (k : Int) < b + n) := by omega
      rw [if_neg hk, if_neg hk2]
  rw [e] at hP1
  rw [show (wd y g σ).set j (gad g j, Sum.inl (gca g 0, nj, Sum.inl (fun k : Nat => Int32.ofInt (if b ≤ (k : Int) ∧ (k : Int) < b + n then σ i (a + ((k : Int) - b)) else σ j k)))) = wd y g (copA σ i j a b n) from wd_set (f := fun k => if b ≤ k ∧ k < b + n then σ i (a + (k - b)) else σ j k) hd2] at hP1
  refine kk _ (wfS_set hσ (Or.inr fun k => ?_)) h H1 locs1 ls hP1 hS1 hl
  by_cases q : b ≤ k ∧ k < b + n
  · simp only [q, and_self, if_true]; exact hσ i _ hL
  · simp only [q, if_false]; exact hσ j _ hL2
theorem J_copyL (C : Cx x y g nL cc own nf nlc) {i j ni nj idx : Nat} {a b n : Int} {K : Sg → Option α} (hA : aL y i ni) (hB : aL y j nj) (hσ : wfS y σ) (ra : rg a) (rb : rg b) (rn : rg n) (hM : cpyW) (hlk : Cond.methodLink own idx arraycopyName ∈ okw) (hfr : 1 ≤ nf) (hlo : (st.map fun v => v.category).sum + (nativeFrameWords "java/lang/System" "arraycopy" 5 + 11) ≤ nlc) (d : decode cc pc = .ok (.invokestatic idx, 3))
    (h : cpy σ i j ni nj a b n K = some o) (kk : ∀ σ', wfS y σ' → K σ' = some o → J x y g nL (pc + 3) lo st σ') : J x y g nL pc lo (vi n :: vi b :: .ref (gad g j) :: vi a :: .ref (gad g i) :: st) σ := by
  obtain ⟨⟨h1, h2, h3, h4, h5⟩, h⟩ := some_if h
  obtain ⟨p, l, e, R, s, m, args, below, meth, c, Q, kc, ks⟩ := x
  obtain ⟨hx, hb, hml, hown, hts, hK, hg, hNf, hNl, hLk, hSt, hKc, hKs⟩ := C
  obtain ⟨hd, hn, hL⟩ := hA
  obtain ⟨hd2, hn2, hL2⟩ := hB
  intro H locs ls hP hS hl
  have ca : (Int32.ofInt a).toNatClampNeg = a.toNat := by show (Int32.ofInt a).toInt.toNat = _; rw [ofI_toInt ra]
  have cb : (Int32.ofInt b).toNatClampNeg = b.toNat := by show (Int32.ofInt b).toInt.toNat = _; rw [ofI_toInt rb]
  have cn : (Int32.ofInt n).toNatClampNeg = n.toNat := by show (Int32.ofInt n).toInt.toNat = _; rw [ofI_toInt rn]
  have ng : ∀ {z : Int}, rg z → 0 ≤ z → ¬ Int32.ofInt z < 0 := fun rz hz q => by
    have := (ofI_lt (y := 0) rz ⟨by decide, by decide⟩).mp q
    omega
  refine va_copyl hx hb (hml.trans hl.1.symm) hown (hts _ hlk) (hts _ hM.1) (hts _ hM.2.1) (hts _ hM.2.2) hK hP (wd_D hg σ) hS i j 1 1 (wd_at hd) (wd_at hd2) (ty := .long) rfl rfl rfl (ng ra h1) (ng rb h2) (ng rn h3) (by rw [ca, cn]; omega) (by rw [cb, cn]; omega) (fun _ _ => rfl) (Nat.le_trans hfr hNf) (Nat.le_trans hlo hNl) d (fun H1 locs1 hP1 hD1 hS1 => ?_)
  rw [ca, cb, cn] at hP1
  have e : va_cpy (fun k : Nat => Int64.ofInt (σ i k)) (fun k : Nat => Int64.ofInt (σ j k)) a.toNat b.toNat n.toNat = fun k : Nat => Int64.ofInt (if b ≤ (k : Int) ∧ (k : Int) < b + n then σ i (a + ((k : Int) - b)) else σ j k) := by
    funext k
    unfold va_cpy
    by_cases hk : b.toNat ≤ k ∧ k < b.toNat + n.toNat
    · have hk2 : b ≤ (k : Int) ∧ (k : Int) < b + n := by omega
      rw [if_pos hk, if_pos hk2]
      dsimp only
      rw [show ((a.toNat + (k - b.toNat) : Nat) : Int) = a + ((k : Int) - b) by omega]
    · have hk2 : ¬ (b ≤ (k : Int) ∧ (k : Int) < b + n) := by omega
      rw [if_neg hk, if_neg hk2]
  rw [e] at hP1
  rw [show (wd y g σ).set j (gad g j, Sum.inl (gca g 1, nj, Sum.inr (Sum.inl (fun k : Nat => Int64.ofInt (if b ≤ (k : Int) ∧ (k : Int) < b + n then σ i (a + ((k : Int) - b)) else σ j k))))) = wd y g (copA σ i j a b n) from wd_set (f := fun k => if b ≤ k ∧ k < b + n then σ i (a + (k - b)) else σ j k) hd2] at hP1
  exact kk _ (wfS_set hσ (Or.inl hL2)) h H1 locs1 ls hP1 hS1 hl
/-! the one static array that the class reads -/
def OT (x : Ct) (y : Sy) (g : Gm) (t : Nat) : Prop := match x with
  | (p, l, e, R, s, m, args, below, meth, c, Q, kc, ks) => va_T .int t 9 (fun j => vi (ordLen j)) (aw y g) s s.heap
theorem J_getsO (C : Cx x y g nL cc own nf nlc) {idx : Nat} (hw : Cond.fieldLink own idx "LightScript$Scribe" "ORDER_LENGTHS" "[I" ∈ okw) (d : decode cc pc = .ok (.getstatic idx, 3)) (kk : ∀ t, OT x y g t → J x y g nL (pc + 3) lo (.ref t :: st) σ) : J x y g nL pc lo st σ := by
  obtain ⟨p, l, e, R, s, m, args, below, meth, c, Q, kc, ks⟩ := x
  obtain ⟨hx, hb, hml, hown, hts, hK, hg, hNf, hNl, hLk, hSt, hKc, hKs⟩ := C
  obtain ⟨t, h1, h2⟩ := hSt.1
  intro H locs ls hP hS hl
  exact va_gets hx hb h1 hS hown (hts _ hw) (fun _ h => h) d (kk t h2 H locs ls hP hS hl)
theorem J_alenO (C : Cx x y g nL cc own nf nlc) {t : Nat} (ht : OT x y g t) (d : decode cc pc = .ok (.arraylength, 1)) (kk : J x y g nL (pc + 1) lo (vi 9 :: st) σ) : J x y g nL pc lo (.ref t :: st) σ := by
  obtain ⟨p, l, e, R, s, m, args, below, meth, c, Q, kc, ks⟩ := x
  obtain ⟨hx, hb, hml, hown, hts, hK, hg, hNf, hNl, hLk, hSt, hKc, hKs⟩ := C
  intro H locs ls hP hS hl
  exact va_tlen hx hb ht hS rfl d (kk H locs ls hP hS hl)
def rdO {α : Type} (a : Int) (K : Int → Option α) : Option α := if 0 ≤ a ∧ a < 9 then K (ordLen a.toNat) else none
theorem rg_ord (k : Nat) : rg (ordLen k) := by unfold ordLen; split <;> exact ⟨by decide, by decide⟩
theorem J_ialdO (C : Cx x y g nL cc own nf nlc) {t : Nat} {a : Int} {K : Int → Option α} (ht : OT x y g t) (d : decode cc pc = .ok (.iaload, 1)) (h : rdO a K = some o) (kk : ∀ v, rg v → K v = some o → J x y g nL (pc + 1) lo (vi v :: st) σ) : J x y g nL pc lo (vi a :: .ref t :: st) σ := by
  obtain ⟨⟨h0, h1⟩, h⟩ := some_if h
  obtain ⟨p, l, e, R, s, m, args, below, meth, c, Q, kc, ks⟩ := x
  obtain ⟨hx, hb, hml, hown, hts, hK, hg, hNf, hNl, hLk, hSt, hKc, hKs⟩ := C
  intro H locs ls hP hS hl
  refine va_ti hx hb ht hS (ofI_in (n := 9) (by decide) h0 h1) (v := vi (ordLen a.toNat)) (by rw [ofI_cl (n := 9) (by decide) h0 h1]) d ?_
  exact kk _ (rg_ord _) h H locs ls hP hS hl
theorem bdS {β : Type} {a : Option β} {K : β → Option α} (h : a.bind K = some o) : ∃ b, a = some b ∧ K b = some o := by
  cases a with
  | none => cases h
  | some b => exact ⟨b, rfl, h⟩
theorem sE {a b : α} (h : some a = some b) : a = b := Option.some.inj h
def fu : Nat := 2000000

/-! exceptions -/
def bump (x : Ct) (a b : Nat) : Ct := (x.1, x.2.1, x.2.2.1, x.2.2.2.1, x.2.2.2.2.1, x.2.2.2.2.2.1, x.2.2.2.2.2.2.1, x.2.2.2.2.2.2.2.1, x.2.2.2.2.2.2.2.2.1, x.2.2.2.2.2.2.2.2.2.1, x.2.2.2.2.2.2.2.2.2.2.1, x.2.2.2.2.2.2.2.2.2.2.2.1 + a, x.2.2.2.2.2.2.2.2.2.2.2.2 + b)
def exN : List String := ["java/lang/RuntimeException", "java/lang/Exception"]
def exName (q : Int) : String := if q = 1 then "java/lang/IllegalArgumentException" else "java/lang/IllegalStateException"
def XJ (y : Sy) (g : Gm) (E0 : String) (σ' : Sg) (zz : Prop) : String → State → State → Prop := fun E st t => (E = E0 ∧ va_P (gD g) vwCl (wd y g σ') t.heap ∧ zz) ∧ va_F (aw y g) st t
def TJ (l : Launch) (y : Sy) (g : Gm) (n : MethodName) (cc : ByteArray) (maxL : Nat) (ret : Option FieldType) (fr lc : Nat) (avs : List Value) (σ : Sg) (E0 : String) (σ' : Sg) (zz : Prop) : Prop :=
  vx_Met l n (.code n cc maxL ret :: okw) { frames := fr, cells := 1, slots := 6, locals := lc } (PJ y g avs σ) (fun _ _ _ _ => False) (XJ y g E0 σ' zz) 1 6 (aw y g)
def Tx (x : Ct) (y : Sy) (g : Gm) (E0 : String) (σ' : Sg) (zz : Prop) : Prop := match x with
  | (p, l, e, R, s, m, args, below, meth, c, Q, kc, ks) => kc + 1 ≤ R.cells ∧ ks + 6 ≤ R.slots ∧ (∀ z ∈ c.exceptionTable.toList, False) ∧ Q = vx_MQ below (fun _ _ _ _ => False) (XJ y g E0 σ' zz) args s (kc + 1) (ks + 6) (aw y g)
theorem TJ_of {l : Launch} {y : Sy} {g : Gm} {n : MethodName} {cc : ByteArray} {maxL : Nat} {ret : Option FieldType} {fr lc : Nat} {avs : List Value} {σ : Sg} {E0 : String} {σ' : Sg} {zz : Prop} {own : String} {lo : List (Nat × Value)}
    (hg : gInj y g) (hy : plainName n.cls = true) (hown : n.cls = own) (hlen : (lg_sl avs).length ≤ maxL) (hlo : lv_args 0 avs = lo)
    (body : ∀ x : Ct, Cx x y g maxL cc own fr lc → Tx x y g E0 σ' zz → x.2.1 = l → J x y g maxL 0 lo [] σ) : TJ l y g n cc maxL ret fr lc avs σ E0 σ' zz := by
  subst hlo
  refine vx_ofW (cc := cc) (maxL := maxL) (ret := ret) hy rfl ?_
  intro p e s m args below meth c s₁ B hml ht hv
  obtain ⟨rfl, hP, hK, hst⟩ := hv
  have hts := atoms_spec (ws := .code n cc maxL ret :: okw) B.pre
  have hnm : s.vm.findClass own = some m.cls := by rw [← hown]; exact findClass_of_methodNamed B.named
  have hb := body (p, l, e, (headSpec (.code n cc maxL ret :: okw) { frames := fr, cells := 1, slots := 6, locals := lc }).room, s, m, avs.toArray, below, meth, c, vx_MQ below (fun _ _ _ _ => False) (XJ y g E0 σ' zz) avs.toArray s (0 + 1) (0 + 6) (aw y g), 0, 0)
    ⟨B.exec, B.bytes, hml, hnm, fun w hw => hts w (List.mem_cons_of_mem _ hw), hK, hg, Nat.le_refl _, Nat.le_refl _, B.notSynchronized, hst, Nat.zero_le _, Nat.zero_le _⟩ ⟨Nat.le_refl _, Nat.le_refl _, ht, rfl⟩ rfl
  have hl := lv_entry avs (n := maxL) hlen
  rw [lg_entry_eq]
  exact hb s.heap [] _ hP va_S.rf hl
/-- what the tables say of a place that throws -/
def EW (own : String) (ik ic : Nat) (cls : String) : Prop := Cond.classLink own ik cls ∈ okw ∧ Cond.initialized cls ∈ okw ∧ (∀ w ∈ (vx_atS own ic cls exN).filter goodWord, w ∈ okw) ∧ (∀ w ∈ (vx_atS own ic cls exN).filter (fun w => !goodWord w), w ∈ nwL) ∧ (∀ w ∈ Cond.classLink own ik cls :: Cond.initialized cls :: vx_atS own ic cls exN, vx_ot w = true) ∧ Bundle.fit cls = true
theorem exN_fit : ∀ n ∈ exN, Bundle.fit n = true := by decide +kernel
theorem J_throwW (C : Cx x y g nL cc own nf nlc) {cls text : String} {ik is ic : Nat} {zz : Prop} (hl : x.2.1.stackTraces = false) (hW : EW own ik ic cls) (hs : (own, is, text) ∈ strL) (E : Tx x y g cls σ zz) (hz : zz) (hfr : 6 ≤ nf) (hlo : 100 ≤ nlc) (hcat : (st.map fun v => v.category).sum ≤ 8)
    (d0 : decode cc pc = .ok (.new ik, 3)) (d3 : decode cc (pc + 3) = .ok (.dup, 1)) (d4 : decode cc (pc + 4) = .ok (.ldc_w is, 3)) (d7 : decode cc (pc + 7) = .ok (.invokespecial ic, 3)) (d10 : decode cc (pc + 10) = .ok (.athrow, 1)) : J x y g nL pc lo st σ := by
  obtain ⟨p, l, e, R, s, m, args, below, meth, c, Q, kc, ks⟩ := x
  obtain ⟨hx, hb, hml, hown, hts, hK, hg, hNf, hNl, hLk, hSt, hKc, hKs⟩ := C
  obtain ⟨hc1, hs1, hout, hQ⟩ := E
  subst hQ
  obtain ⟨w1, w2, w3, w4, w5, w6⟩ := hW
  obtain ⟨sa, hsa⟩ := hSt.2.2.2.1 _ hs
  intro H locs ls hP hS hl2
  have hat : ∀ w ∈ vx_atS own ic cls exN, w.before args s = true := vx_hat (B := nwL) (fun w hw => hts w (w3 w hw)) w4 (fun w hw => va_Nw.use (nwL_tabs w hw) (hSt.2.2.2.2.2.1 w hw))
  exact vx_throwSW hx hb hl hown w6 exN_fit (hts _ w1) (hts _ w2) hsa hat w5 hSt.2.1 hSt.2.2.1 hS (hl2.1.trans hml.symm) d0 d3 d4 d7 d10 (fun z hz => (hout z hz).elim) (by show 2 + 3 < _; omega) (by show _ + (13 * (2 + 1) + 43) ≤ _; omega) hc1 hs1 hLk
    (fun t ht1 ht2 ht3 => ⟨⟨rfl, hP.kept (fun k q hk => ht3 q.1 ((hP k q hk).lt)), hz⟩, Nat.le_trans hS.1 ht2, fun q h1 h2 => (ht3 q (Nat.lt_of_lt_of_le h1 hS.1)).trans (hS.2.1 q h1 h2)⟩) hS.2.2 (Nat.le_refl _) (Nat.le_refl _)
theorem J_throwS (C : Cx x y g nL cc own nf nlc) {cls text : String} {ik is ic : Nat} {zz : Prop} (hl : x.2.1.stackTraces = false) (hW : EW own ik ic cls) (hs : (own, is, text) ∈ strL) (E : Tx x y g cls σ zz) (hz : zz) (hfr : 6 ≤ nf) (hlo : 100 ≤ nlc) (hcat : (st.map fun v => v.category).sum ≤ 8)
    (d0 : decode cc pc = .ok (.new ik, 3)) (d3 : decode cc (pc + 3) = .ok (.dup, 1)) (d4 : decode cc (pc + 4) = .ok (.ldc is, 2)) (d6 : decode cc (pc + 6) = .ok (.invokespecial ic, 3)) (d9 : decode cc (pc + 9) = .ok (.athrow, 1)) : J x y g nL pc lo st σ := by
  obtain ⟨p, l, e, R, s, m, args, below, meth, c, Q, kc, ks⟩ := x
  obtain ⟨hx, hb, hml, hown, hts, hK, hg, hNf, hNl, hLk, hSt, hKc, hKs⟩ := C
  obtain ⟨hc1, hs1, hout, hQ⟩ := E
  subst hQ
  obtain ⟨w1, w2, w3, w4, w5, w6⟩ := hW
  obtain ⟨sa, hsa⟩ := hSt.2.2.2.1 _ hs
  intro H locs ls hP hS hl2
  have hat : ∀ w ∈ vx_atS own ic cls exN, w.before args s = true := vx_hat (B := nwL) (fun w hw => hts w (w3 w hw)) w4 (fun w hw => va_Nw.use (nwL_tabs w hw) (hSt.2.2.2.2.2.1 w hw))
  exact vx_throwS hx hb hl hown w6 exN_fit (hts _ w1) (hts _ w2) hsa hat w5 hSt.2.1 hSt.2.2.1 hS (hl2.1.trans hml.symm) d0 d3 d4 d6 d9 (fun z hz => (hout z hz).elim) (by show 2 + 3 < _; omega) (by show _ + (13 * (2 + 1) + 43) ≤ _; omega) hc1 hs1 hLk
    (fun t ht1 ht2 ht3 => ⟨⟨rfl, hP.kept (fun k q hk => ht3 q.1 ((hP k q hk).lt)), hz⟩, Nat.le_trans hS.1 ht2, fun q h1 h2 => (ht3 q (Nat.lt_of_lt_of_le h1 hS.1)).trans (hS.2.1 q h1 h2)⟩) hS.2.2 (Nat.le_refl _) (Nat.le_refl _)
/-! a part of a world, as a world of its own -/
def sh (o : Nat) (g : Gm) : Gm := (g.1, g.2.1, g.2.2.1, fun i => gad g (o + i))
def Em (y1 y2 : Sy) (o : Nat) : Prop := o + y1.1.length ≤ y2.1.length ∧ ∀ i d, y1.1[i]? = some d → ∃ d2, y2.1[o + i]? = some d2 ∧ ∀ g f, d2 g f = d (sh o g) f
def cutS (o : Nat) (ρ : Sg) : Sg := fun i => ρ (o + i)
def intoS (o n : Nat) (ρ σ : Sg) : Sg := fun j => if o ≤ j ∧ j < o + n then σ (j - o) else ρ j
theorem Em.inj {y1 y2 : Sy} {o : Nat} {g : Gm} (h : Em y1 y2 o) (hg : gInj y2 g) : gInj y1 (sh o g) := by
  intro i j hi hj e
  have := hg (o + i) (o + j) (by have := h.1; omega) (by have := h.1; omega) e
  omega
theorem Em.awi {y1 y2 : Sy} {o : Nat} {g : Gm} (h : Em y1 y2 o) : ∀ q, aw y1 (sh o g) q → aw y2 g q := by
  rintro q ⟨i, hi, rfl⟩
  exact ⟨o + i, by have := h.1; omega, rfl⟩
theorem Em.cut {y1 y2 : Sy} {o : Nat} {g : Gm} {ρ : Sg} {H : Heap} (h : Em y1 y2 o) (hP : va_P (gD g) vwCl (wd y2 g ρ) H) : va_P (gD (sh o g)) vwCl (wd y1 (sh o g) (cutS o ρ)) H := by
  intro k q hk
  obtain ⟨hl, -⟩ := wd_in hk
  obtain ⟨d, hd⟩ : ∃ d, y1.1[k]? = some d := ⟨_, List.getElem?_eq_getElem hl⟩
  obtain ⟨d2, h2, h3⟩ := h.2 k d hd
  have e1 := wd_at (g := sh o g) (σ := cutS o ρ) hd
  rw [e1] at hk
  have e2 := wd_at (g := g) (σ := ρ) h2
  have := hP (o + k) _ e2
  rw [h3] at this
  rw [← Option.some.inj hk]
  exact this
theorem Em.put {y1 y2 : Sy} {o : Nat} {g : Gm} {ρ σ : Sg} {H H1 : Heap} (h : Em y1 y2 o) (hg : gInj y2 g) (hP : va_P (gD g) vwCl (wd y2 g ρ) H) (hk : ∀ q, q < H.size → ¬ aw y1 (sh o g) q → H1[q]? = H[q]?) (hP1 : va_P (gD (sh o g)) vwCl (wd y1 (sh o g) σ) H1) : va_P (gD g) vwCl (wd y2 g (intoS o y1.1.length ρ σ)) H1 := by
  intro k q hq
  obtain ⟨hl, -⟩ := wd_in hq
  obtain ⟨d2, hd2⟩ : ∃ d, y2.1[k]? = some d := ⟨_, List.getElem?_eq_getElem hl⟩
  rw [wd_at hd2] at hq
  rw [← Option.some.inj hq]
  by_cases hr : o ≤ k ∧ k < o + y1.1.length
  · obtain ⟨d, hd⟩ : ∃ d, y1.1[k - o]? = some d := ⟨_, List.getElem?_eq_getElem (by omega)⟩
    obtain ⟨d3, h3, h4⟩ := h.2 (k - o) d hd
    have ek : o + (k - o) = k := by omega
    rw [ek] at h3
    cases Option.some.inj (h3.symm.trans hd2)
    have := hP1 (k - o) _ (wd_at hd)
    show va_at (gD g) vwCl (gad g k, d2 g (intoS o y1.1.length ρ σ k)) H1
    rw [h4]
    have e1 : intoS o y1.1.length ρ σ k = σ (k - o) := by unfold intoS; rw [if_pos hr]
    rw [e1]
    have e2 : gad (sh o g) (k - o) = gad g k := by show gad g (o + (k - o)) = _; rw [ek]
    rw [e2] at this
    exact this
  · have e1 : intoS o y1.1.length ρ σ k = ρ k := by unfold intoS; rw [if_neg hr]
    show va_at (gD g) vwCl (gad g k, d2 g (intoS o y1.1.length ρ σ k)) H1
    rw [e1]
    have h5 := hP k _ (wd_at hd2)
    refine h5.kept (hk _ h5.lt ?_)
    rintro ⟨i, hi, e⟩
    have := hg k (o + i) hl (by have := h.1; omega) e
    omega
theorem PJ_cut {y1 y2 : Sy} {o : Nat} {g : Gm} {ρ : Sg} {s U : State} {H : Heap} {locs : List Loc} {avs : List Value} (h : Em y1 y2 o) (hP : va_P (gD g) vwCl (wd y2 g ρ) H) (hK : va_K (gD g) vwCl (tysOf g) s) (hSt : stF (aw y2 g) s s.heap) (hS : va_S (aw y2 g) s.heap H locs) (hU : U.heap = H) (hW : s.WarmedH U.vm) : PJ y1 (sh o g) avs (cutS o ρ) avs.toArray U :=
  ⟨rfl, by rw [hU]; exact h.cut hP, va_K.moved hW.alike hK, by rw [hU]; exact (hSt.go hS hW).narrow h.awi⟩

end JR
section
variable {pc nL : Nat} {lo : List (Nat × Value)} {y : Sy} {g : Gm}

theorem J_of_runE {p : Program} {l : Launch} {e : Env} {R : Room} {s : State} {m : MethodId} {args : Array Value} {below : List Frame} {meth : Method} {c : Code} {Q : State → Prop} {kc ks : Nat} {H : Heap} {locs : List Loc} {ls : Array Slot} {st0 rest : List Value} {a : Array Value} {rv : Option Value} {ρ σ' : Sg} {zz : Prop} {mc ms k : Nat} {y1 : Sy}
    (hr : va_Run p l e R s m args below meth c H locs kc ks mc ms (F0 m pc ls st0) rest (QJ y1 (sh k g) rv σ' zz a) (aw y1 (sh k g))) (hE : Em y1 y k) (hg : gInj y g) (hP : va_P (gD g) vwCl (wd y g ρ) H) (hS : va_S (aw y g) s.heap H locs) (hl : lv_has ls nL lo)
    (kk : zz → J (p, l, e, R, s, m, args, below, meth, c, Q, kc + mc, ks + ms) y g nL (pc + 3) lo (rv.toList ++ rest) (intoS k y1.1.length ρ σ')) : W p l e R s m args below meth c H locs kc ks Q (F0 m pc ls st0) := by
  intro T hT X
  obtain ⟨v, st₀, t, T', L, h0, X', hL, e1, e2, ⟨⟨hv, hP', hzz⟩, hz, hk⟩, st⟩ := hr T hT X
  cases hv
  rw [h0] at hz hk
  have hk2 : ∀ q, q < H.size → ¬ aw y1 (sh k g) q → T'.heap[q]? = H[q]? := fun q h1 h2 => by rw [e1]; exact hk q h1 h2
  obtain ⟨t2, a1, b1⟩ := kk hzz T'.heap (locs ++ L) ls (hE.put hg hP hk2 (by rw [e1]; exact hP'))
    ⟨Nat.le_trans hS.1 (by rw [e1]; exact hz), fun q h1 h2 => by rw [hk2 q (Nat.lt_of_lt_of_le h1 hS.1) (fun z => h2 (hE.awi q z))]; exact hS.2.1 q h1 h2, fun q hq => by
      rcases List.mem_append.mp hq with h | h
      · exact hS.2.2 q h
      · exact hE.awi _ (hL q h)⟩ hl T' rfl X'
  exact ⟨t2, st t2 a1, b1⟩
/-- contracts of methods with handlers: they return -/
def CH (l : Launch) (y : Sy) (g : Gm) (n : MethodName) (cc : ByteArray) (maxL : Nat) (ret : Option FieldType) (hh : List (Nat × Nat × Nat × Nat)) (fr lc : Nat) (avs : List Value) (σ : Sg) (rv : Option Value) (σ' : Sg) (zz : Prop) : Prop :=
  Met l n (.codeWith n cc maxL ret hh :: okw) { frames := fr, cells := 1, slots := 6, locals := lc } (PJ y g avs σ) (QJ y g rv σ' zz) 1 6 (aw y g)
def TBx (x : Ct) (hh : List (Nat × Nat × Nat × Nat)) : Prop := match x with
  | (p, l, e, R, s, m, args, below, meth, c, Q, kc, ks) => c.exceptionTable.toList = tableOf hh
theorem CH_of {l : Launch} {y : Sy} {g : Gm} {n : MethodName} {cc : ByteArray} {maxL : Nat} {ret : Option FieldType} {hh : List (Nat × Nat × Nat × Nat)} {fr lc : Nat} {avs : List Value} {σ : Sg} {rv : Option Value} {σ' : Sg} {zz : Prop} {own : String} {lo : List (Nat × Value)}
    (hg : gInj y g) (hy : plainName n.cls = true) (hown : n.cls = own) (hlen : (lg_sl avs).length ≤ maxL) (hlo : lv_args 0 avs = lo)
    (body : ∀ x : Ct, Cx x y g maxL cc own fr lc → Cx (bump x 1 6) y g maxL cc own fr lc → Rx x y g ret rv σ' zz → Rx (bump x 1 6) y g ret rv σ' zz → TBx x hh → x.2.1 = l → J x y g maxL 0 lo [] σ) : CH l y g n cc maxL ret hh fr lc avs σ rv σ' zz := by
  subst hlo
  unfold CH Met
  refine MetFree.of_bodyS (code := cc) (maxLocals := maxL) (ret := ret) hy ?_ ?_
  · intro args s m h hn
    obtain ⟨m9, meth, c, hn9, h1, h2, h3, h4, -, h5, h6, -⟩ := Cond.codeWith_spec (atoms_spec (ws := .codeWith n cc maxL ret hh :: okw) h _ List.mem_cons_self)
    cases hn.symm.trans hn9
    exact ⟨meth, c, h1, h2, h3, h4, h5, h6⟩
  · intro p e s m args below meth c s₁ B hml hv _
    obtain ⟨rfl, hP, hK, hst⟩ := hv
    have hts := atoms_spec (ws := .codeWith n cc maxL ret hh :: okw) B.pre
    have htb := vx_table (x := n) B (hts _ List.mem_cons_self)
    have hnm : s.vm.findClass own = some m.cls := by rw [← hown]; exact findClass_of_methodNamed B.named
    have C1 : Cx (p, l, e, (headSpec (.codeWith n cc maxL ret hh :: okw) { frames := fr, cells := 1, slots := 6, locals := lc }).room, s, m, avs.toArray, below, meth, c, MQ below (QJ y g rv σ' zz) avs.toArray s 1 6 (aw y g), 0, 0) y g maxL cc own fr lc :=
      ⟨B.exec, B.bytes, hml, hnm, fun w hw => hts w (List.mem_cons_of_mem _ hw), hK, hg, Nat.le_refl _, Nat.le_refl _, B.notSynchronized, hst, Nat.zero_le _, Nat.zero_le _⟩
    have hb := body _ C1 ⟨B.exec, B.bytes, hml, hnm, fun w hw => hts w (List.mem_cons_of_mem _ hw), hK, hg, Nat.le_refl _, Nat.le_refl _, B.notSynchronized, hst, Nat.le_refl _, Nat.le_refl _⟩
      ⟨B.returns, 1, 6, Nat.zero_le _, Nat.zero_le _, rfl⟩ ⟨B.returns, 1, 6, Nat.le_refl _, Nat.le_refl _, rfl⟩ htb rfl
    have hl := lv_entry avs (n := maxL) hlen
    rw [lg_entry_eq]
    have hh0 : s₁.heap = s.heap := by rw [B.state]; rfl
    obtain ⟨t, a1, o, b1, b2, b3⟩ := hb s.heap [] _ hP va_S.rf hl s₁ hh0 (Stand.of_body B)
    exact ⟨t, o, a1, b1, b2, ⟨b3.1, b3.2⟩⟩
def MWH (n : MethodName) (ccM : ByteArray) (maxL : Nat) (ret : Option FieldType) (hh : List (Nat × Nat × Nat × Nat)) (np : Nat) : Prop := Cond.codeWith n ccM maxL ret hh ∈ okw ∧ Cond.initialized n.cls ∈ okw ∧ n.cls ≠ "java/lang/invoke/MethodHandle" ∧ n.cls ≠ "java/lang/invoke/VarHandle" ∧ (parseMethodDescriptor n.desc).map (fun d => d.parameters.length) = some np
/-- where an exception that comes out of the call at pc is caught -/
def CatchAt (x : Ct) (own : String) (pc : Nat) (E : String) (hpc : Nat) : Prop := match x with
  | (p, l, e, R, s, m, args, below, meth, c, Q, kc, ks) => ∃ (pre : List ExceptionTableEntry) (z : ExceptionTableEntry) (suf : List ExceptionTableEntry) (name : String), c.exceptionTable.toList = pre ++ z :: suf ∧ (∀ w ∈ pre, covers w pc = false ∨ (w.catchType ≠ 0 ∧ ∃ nm : String, Cond.classLink own w.catchType nm ∈ okw ∧ va_Nc E nm s)) ∧ covers z pc = true ∧ z.catchType ≠ 0 ∧ Cond.classLink own z.catchType name ∈ okw ∧ Cond.castable E name ∈ nwL ∧ z.handlerPc = hpc
section JE
variable {x : Ct} {y : Sy} {g : Gm} {nL nf nlc : Nat} {cc : ByteArray} {own : String} {pc : Nat} {lo : List (Nat × Value)} {st : List Value} {ρ : Sg}
/-- a call whose callee throws, caught here -/
theorem J_catchV (C : Cx x y g nL cc own nf nlc) (C2 : Cx (bump x 1 6) y g nL cc own nf nlc) {y1 : Sy} {k : Nat} (hE : Em y1 y k) {n : MethodName} {ccM : ByteArray} {maxL np fr lc idx i ci N hpc : Nat} {ret : Option FieldType} {As rest : List Value} {E0 : String} {σ' : Sg} {zz : Prop} {T : u_T} {fs : List Fd0}
    (hMW : MV n ccM maxL ret np) (hlk : Cond.methodLink own idx n ∈ okw) (hM : TJ x.2.1 y1 (sh k g) n ccM maxL ret fr lc (.ref (gad (sh k g) i) :: As) (cutS k ρ) E0 σ' zz) (hd : y1.1[i]? = some (cO ci fs)) (hc : vwCl[ci]? = some (n.cls, T, N))
    (hfr : fr + 1 ≤ nf) (hlo : 8 + (maxL + 11) + lc ≤ nlc) (hst : st = As.reverse ++ .ref (gad (sh k g) i) :: rest) (hn : As.length = np) (hcat : (rest.map fun v => v.category).sum ≤ 8) (d : decode cc pc = .ok (.invokevirtual idx, 3)) (hX : CatchAt x own pc E0 hpc)
    (kk : zz → ∀ q9 : Nat, J (bump x 1 6) y g nL hpc lo [.ref q9] (intoS k y1.1.length ρ σ')) : J x y g nL pc lo st ρ := by
  subst hst
  obtain ⟨p, l, e, R, s, m, args, below, meth, c, Q, kc, ks⟩ := x
  obtain ⟨hx, hb, hml, hown, hts, hK, hg, hNf, hNl, hLk, hSt, hKc, hKs⟩ := C
  obtain ⟨⟨w1, w2, w3, w4, w5⟩, w6, w7⟩ := hMW
  obtain ⟨-, -, -, -, -, -, -, -, -, -, -, hc1, hs1⟩ := C2
  obtain ⟨pre, z, suf, name, x1, x2, x3, x4, x5, x6, x7⟩ := hX
  intro H locs ls hP hS hl
  have hP1 := hE.cut hP
  have hr := vx_runV (p := p) (l := l) (e := e) (R := R) (args := args) (below := below) (meth := meth) (c := c) (H := H) (locs := locs) (cells := kc) (slots := ks) (m := m) (s := s) (g := F0 m pc ls (As.reverse ++ .ref (gad (sh k g) i) :: rest)) (As := As) (rest := rest) ⟨hx, hb, hml, hown, hts⟩ hM (cwV np hts (goodIn_ok (ok_cons hlk (ok_cons w6 (ok_cons w7 (ok_cons w2 (ok_cons w1 (fun _ h => h))))))) rfl rfl rfl ⟨rfl, w3, w4, w5⟩ ⟨Nat.le_trans hfr hNf, Nat.le_trans hlo hNl⟩) ⟨PJ_blind, va_recv hK hP1 hc (wd_at hd), fun U hU hW => PJ_cut hE hP hK hSt hS hU hW⟩ rfl hn hl.1 rfl (lv_room hcat) d ⟨hc1, hs1⟩
  intro T0 hT X
  rcases hr T0 hT X with ⟨v, st₀, t, T', L, h0, X', hL, e1, e2, hf, st⟩ | ⟨q, st₀, t, T', L, E, ce, h0, X', hL, e1, e2, ⟨⟨hEE, hP', hzz⟩, hz, hk⟩, hce, hcv, hcl, st⟩
  · exact hf.elim
  · subst hEE
    rw [h0] at hz hk
    have hk2 : ∀ q, q < H.size → ¬ aw y1 (sh k g) q → T'.heap[q]? = H[q]? := fun q h1 h2 => by rw [e1]; exact hk q h1 h2
    have hcst : (Cond.castable E name).before args s = true := va_Nw.use (nwL_tabs _ x6) (hSt.2.2.2.2.2.1 _ x6)
    have hw := vx_catch (p := p) (l := l) (e := e) (R := R) (below := below) (meth := meth) (locs := locs ++ L) (cells := kc + 1) (slots := ks + 6) (Q := Q) (ls := ls) (rest := rest) (q := q) (H := T'.heap) hown pre z suf x1 (fun w hw => (x2 w hw).elim Or.inl (fun ⟨a, nm, b, c⟩ => Or.inr ⟨a, nm, hts _ b, c⟩)) x3 x4 (hts _ x5) hcst (by rw [e1]; exact hce) hcv hcl
      (by
        rw [x7]
        exact kk hzz q T'.heap (locs ++ L) ls (hE.put hg hP hk2 (by rw [e1]; exact hP'))
          ⟨Nat.le_trans hS.1 (by rw [e1]; exact hz), fun q h1 h2 => by rw [hk2 q (Nat.lt_of_lt_of_le h1 hS.1) (fun z => h2 (hE.awi q z))]; exact hS.2.1 q h1 h2, fun q hq => by
            rcases List.mem_append.mp hq with h | h
            · exact hS.2.2 q h
            · exact hE.awi _ (hL q h)⟩ hl)
    obtain ⟨t2, a1, b1⟩ := hw T' rfl X'
    exact ⟨t2, st.trans a1, b1⟩
/-- a call into a part of the world -/
theorem J_callVE (C : Cx x y g nL cc own nf nlc) {y1 : Sy} {k : Nat} (hE : Em y1 y k) {n : MethodName} {ccM : ByteArray} {maxL np fr lc idx i ci N : Nat} {ret : Option FieldType} {As rest : List Value} {rv : Option Value} {σ' : Sg} {zz : Prop} {T : u_T} {fs : List Fd0}
    (hMW : MV n ccM maxL ret np) (hlk : Cond.methodLink own idx n ∈ okw) (hM : CJ x.2.1 y1 (sh k g) n ccM maxL ret fr lc (.ref (gad (sh k g) i) :: As) (cutS k ρ) rv σ' zz) (hd : y1.1[i]? = some (cO ci fs)) (hc : vwCl[ci]? = some (n.cls, T, N))
    (hfr : fr + 1 ≤ nf) (hlo : 8 + (maxL + 11) + lc ≤ nlc) (hst : st = As.reverse ++ .ref (gad (sh k g) i) :: rest) (hn : As.length = np) (hcat : (rest.map fun v => v.category).sum ≤ 8) (d : decode cc pc = .ok (.invokevirtual idx, 3)) (kk : zz → J x y g nL (pc + 3) lo (rv.toList ++ rest) (intoS k y1.1.length ρ σ')) : J x y g nL pc lo st ρ := by
  subst hst
  obtain ⟨p, l, e, R, s, m, args, below, meth, c, Q, kc, ks⟩ := x
  obtain ⟨hx, hb, hml, hown, hts, hK, hg, hNf, hNl, hLk, hSt, hKc, hKs⟩ := C
  obtain ⟨⟨w1, w2, w3, w4, w5⟩, w6, w7⟩ := hMW
  intro H locs ls hP hS hl
  have hP1 := hE.cut hP
  exact J_of_runE (va_runV (As := As) (rest := rest) ⟨hx, hb, hml, hown, hts⟩ hM (cwV np hts (goodIn_ok (ok_cons hlk (ok_cons w6 (ok_cons w7 (ok_cons w2 (ok_cons w1 (fun _ h => h))))))) rfl rfl rfl ⟨rfl, w3, w4, w5⟩ ⟨Nat.le_trans hfr hNf, Nat.le_trans hlo hNl⟩) ⟨PJ_blind, va_recv hK hP1 hc (wd_at hd), fun U hU hW => PJ_cut hE hP hK hSt hS hU hW⟩ rfl hn hl.1 rfl (lv_room hcat) d ⟨hKc, hKs⟩) hE hg hP hS hl kk
/-- .. of a method with handlers -/
theorem J_callVEH (C : Cx x y g nL cc own nf nlc) (C2 : Cx (bump x 1 6) y g nL cc own nf nlc) {y1 : Sy} {k : Nat} (hE : Em y1 y k) {n : MethodName} {hh : List (Nat × Nat × Nat × Nat)} {ccM : ByteArray} {maxL np fr lc idx i ci N : Nat} {ret : Option FieldType} {As rest : List Value} {rv : Option Value} {σ' : Sg} {zz : Prop} {T : u_T} {fs : List Fd0}
    (hMW : MWH n ccM maxL ret hh np ∧ Cond.instanceMethod n ∈ okw ∧ Cond.selects n.cls n n ∈ okw) (hlk : Cond.methodLink own idx n ∈ okw) (hM : CH x.2.1 y1 (sh k g) n ccM maxL ret hh fr lc (.ref (gad (sh k g) i) :: As) (cutS k ρ) rv σ' zz) (hd : y1.1[i]? = some (cO ci fs)) (hc : vwCl[ci]? = some (n.cls, T, N))
    (hfr : fr + 1 ≤ nf) (hlo : 8 + (maxL + 11) + lc ≤ nlc) (hst : st = As.reverse ++ .ref (gad (sh k g) i) :: rest) (hn : As.length = np) (hcat : (rest.map fun v => v.category).sum ≤ 8) (d : decode cc pc = .ok (.invokevirtual idx, 3)) (kk : zz → J (bump x 1 6) y g nL (pc + 3) lo (rv.toList ++ rest) (intoS k y1.1.length ρ σ')) : J x y g nL pc lo st ρ := by
  subst hst
  obtain ⟨p, l, e, R, s, m, args, below, meth, c, Q, kc, ks⟩ := x
  obtain ⟨hx, hb, hml, hown, hts, hK, hg, hNf, hNl, hLk, hSt, hKc, hKs⟩ := C
  obtain ⟨⟨w1, w2, w3, w4, w5⟩, w6, w7⟩ := hMW
  obtain ⟨-, -, -, -, -, -, -, -, -, -, -, hc1, hs1⟩ := C2
  intro H locs ls hP hS hl
  have hP1 := hE.cut hP
  exact J_of_runE (vx_runVW (As := As) (rest := rest) ⟨hx, hb, hml, hown, hts⟩ hM (vx_cwVW np hts (goodIn_ok (ok_cons hlk (ok_cons w6 (ok_cons w7 (ok_cons w2 (ok_cons w1 (fun _ h => h))))))) rfl rfl rfl ⟨rfl, w3, w4, w5⟩ ⟨Nat.le_trans hfr hNf, Nat.le_trans hlo hNl⟩) ⟨PJ_blind, va_recv hK hP1 hc (wd_at hd), fun U hU hW => PJ_cut hE hP hK hSt hS hU hW⟩ rfl hn hl.1 rfl (lv_room hcat) d ⟨hc1, hs1⟩) hE hg hP hS hl kk
/-- a static call of a method with handlers, in the same world -/
theorem J_callSH (C : Cx x y g nL cc own nf nlc) (C2 : Cx (bump x 1 6) y g nL cc own nf nlc) {n : MethodName} {hh : List (Nat × Nat × Nat × Nat)} {ccM : ByteArray} {maxL np fr lc idx : Nat} {ret : Option FieldType} {As rest : List Value} {rv : Option Value} {σ' : Sg} {zz : Prop}
    (hMW : MWH n ccM maxL ret hh np ∧ Cond.static n ∈ okw) (hlk : Cond.methodLink own idx n ∈ okw) (hM : CH x.2.1 y g n ccM maxL ret hh fr lc As ρ rv σ' zz)
    (hfr : fr + 1 ≤ nf) (hlo : 8 + (maxL + 11) + lc ≤ nlc) (hst : st = As.reverse ++ rest) (hn : As.length = np) (hcat : (rest.map fun v => v.category).sum ≤ 8) (d : decode cc pc = .ok (.invokestatic idx, 3)) (kk : zz → J (bump x 1 6) y g nL (pc + 3) lo (rv.toList ++ rest) σ') : J x y g nL pc lo st ρ := by
  subst hst
  obtain ⟨p, l, e, R, s, m, args, below, meth, c, Q, kc, ks⟩ := x
  obtain ⟨hx, hb, hml, hown, hts, hK, hg, hNf, hNl, hLk, hSt, hKc, hKs⟩ := C
  obtain ⟨⟨w1, w2, w3, w4, w5⟩, w6⟩ := hMW
  obtain ⟨-, -, -, -, -, -, -, -, -, -, -, hc1, hs1⟩ := C2
  intro H locs ls hP hS hl
  exact J_of_run (vx_runSW (As := As) (rest := rest) ⟨hx, hb, hml, hown, hts⟩ hM (vx_cwSW np hts (goodIn_ok (ok_cons hlk (ok_cons w6 (ok_cons w2 (ok_cons w1 (fun _ h => h)))))) rfl rfl rfl ⟨w3, w4, w5⟩ ⟨Nat.le_trans hfr hNf, Nat.le_trans hlo hNl⟩) ⟨PJ_blind, fun U hU hW => ⟨rfl, by rw [hU]; exact hP, va_K.moved hW.alike hK, by rw [hU]; exact hSt.go hS hW⟩⟩ rfl hn hl.1 rfl (lv_room hcat) d ⟨hc1, hs1⟩) hS hl kk
theorem Em_rf (y : Sy) : Em y y 0 := ⟨by omega, fun i d h => ⟨d, by rw [Nat.zero_add]; exact h, fun g f => by
  have : sh 0 g = g := by
    obtain ⟨a, b, c, f⟩ := g
    unfold sh gad
    simp
  rw [this]⟩⟩
theorem sh_0 (g : Gm) : sh 0 g = g := by
  obtain ⟨a, b, c, f⟩ := g
  unfold sh gad
  simp
theorem cutS_0 (ρ : Sg) : cutS 0 ρ = ρ := by
  funext i; unfold cutS; rw [Nat.zero_add]
end JE

end
