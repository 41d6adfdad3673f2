/-! constructors: worlds as lists of cells; what is made stands behind the cells that are still written -/
theorem vP_mem {D : va_G} {cl : List vw_C} {ws ws' : va_W} {H : Heap} (h : va_P D cl ws H) (hs : ∀ q ∈ ws', q ∈ ws) : va_P D cl ws' H := fun k q hk => by
  obtain ⟨i, hi⟩ := List.getElem?_of_mem (hs q (List.mem_of_getElem? hk))
  exact h i q hi
theorem vD_iff {A : Nat → Prop} {ws : va_W} : va_D A ws ↔ (ws.map Prod.fst).Nodup ∧ ∀ q ∈ ws, A q.1 := by
  constructor
  · intro h
    refine ⟨?_, fun q hq => ?_⟩
    · unfold List.Nodup
      rw [List.pairwise_iff_getElem]
      intro i j hi hj hij e
      simp only [List.length_map] at hi hj
      simp only [List.getElem_map] at e
      have := h.1 i j ws[i] ws[j] (by simp [hi]) (by simp [hj]) e
      omega
    · obtain ⟨i, hi⟩ := List.getElem?_of_mem hq
      exact h.2 i q hi
  · rintro ⟨h1, h2⟩
    refine ⟨fun i j p q hi hj e => ?_, fun k q hk => h2 q (List.mem_of_getElem? hk)⟩
    unfold List.Nodup at h1
    rw [List.pairwise_iff_getElem] at h1
    obtain ⟨li, ei⟩ := List.getElem?_eq_some_iff.mp hi
    obtain ⟨lj, ej⟩ := List.getElem?_eq_some_iff.mp hj
    have e2 : (ws.map Prod.fst)[i]'(by simpa using li) = (ws.map Prod.fst)[j]'(by simpa using lj) := by
      simp only [List.getElem_map, ei, ej]; exact e
    rcases Nat.lt_trichotomy i j with q | q | q
    · exact absurd e2 (h1 i j (by simpa using li) (by simpa using lj) q)
    · exact q
    · exact absurd e2.symm (h1 j i (by simpa using lj) (by simpa using li) q)
theorem vD_perm {A : Nat → Prop} {ws ws' : va_W} (h : va_D A ws) (hp : ws'.Perm ws) : va_D A ws' := by
  rw [vD_iff] at h ⊢
  exact ⟨(hp.map Prod.fst).nodup_iff.mpr h.1, fun q hq => h.2 q (hp.mem_iff.mp hq)⟩
theorem k_insP {D : va_G} {cl : List vw_C} {pre tl : va_W} {n : Nat × va_E} {H : Heap} (h : va_P D cl ((pre ++ tl) ++ [n]) H) : va_P D cl (pre ++ n :: tl) H := vP_mem h fun q hq => by
  simp only [List.mem_append, List.mem_cons, List.not_mem_nil, or_false] at hq ⊢
  rcases hq with h | h | h
  · exact Or.inl (Or.inl h)
  · exact Or.inr h
  · exact Or.inl (Or.inr h)
theorem k_insD {A : Nat → Prop} {pre tl : va_W} {n : Nat × va_E} (h : va_D A ((pre ++ tl) ++ [n])) : va_D A (pre ++ n :: tl) := by
  refine vD_perm h ?_
  rw [List.append_assoc]
  exact List.Perm.append_left pre (List.perm_append_singleton n tl).symm
theorem kjoin {A : Nat → Prop} {D : va_G} {cl : List vw_C} {pre tl w1 : va_W} {b : Nat × va_E} {H H1 : Heap} (hP : va_P D cl (pre ++ b :: tl) H) (hD : va_D A (pre ++ b :: tl)) (hk : ∀ q : Nat, q < H.size → ¬ va_A [b] H.size q → H1[q]? = H[q]?) (hA : ∀ q, va_A [b] H.size q → A q) (hP1 : va_P D cl w1 H1) (hD1 : va_D (va_A [b] H.size) w1) : va_P D cl (pre ++ (w1 ++ tl)) H1 ∧ va_D A (pre ++ (w1 ++ tl)) := by
  have hd := (vD_iff.mp hD)
  have apart : ∀ q, q ∈ pre ∨ q ∈ tl → q.1 < H.size ∧ ¬ va_A [b] H.size q.1 := by
    intro q hq
    have hm : q ∈ pre ++ b :: tl := by
      rcases hq with h | h
      · exact List.mem_append.mpr (Or.inl h)
      · exact List.mem_append.mpr (Or.inr (List.mem_cons_of_mem _ h))
    obtain ⟨i, hi⟩ := List.getElem?_of_mem hm
    have hl := (hP i q hi).lt
    refine ⟨hl, fun h => ?_⟩
    rcases h with ⟨k, e, h⟩ | h
    · have hk0 : k < 1 := (List.getElem?_eq_some_iff.mp h).1
      have hk1 : k = 0 := by omega
      subst hk1
      have hb : b.1 = q.1 := by
        have := Option.some.inj h
        rw [this]
      have h1 := hd.1
      rw [List.map_append, List.map_cons, List.nodup_append] at h1
      rcases hq with h2 | h2
      · exact h1.2.2 q.1 (List.mem_map.mpr ⟨q, h2, rfl⟩) b.1 List.mem_cons_self hb.symm
      · have h3 := h1.2.1
        rw [List.nodup_cons] at h3
        exact h3.1 (List.mem_map.mpr ⟨q, h2, hb.symm⟩)
    · omega
  refine ⟨fun k q hk1 => ?_, ?_⟩
  · have hm := List.mem_of_getElem? hk1
    rcases List.mem_append.mp hm with h | h
    · obtain ⟨i, hi⟩ := List.getElem?_of_mem (show q ∈ pre ++ b :: tl from List.mem_append.mpr (Or.inl h))
      obtain ⟨a1, a2⟩ := apart q (Or.inl h)
      exact (hP i q hi).kept (hk _ a1 a2)
    · rcases List.mem_append.mp h with h | h
      · obtain ⟨i, hi⟩ := List.getElem?_of_mem h
        exact hP1 i q hi
      · obtain ⟨i, hi⟩ := List.getElem?_of_mem (show q ∈ pre ++ b :: tl from List.mem_append.mpr (Or.inr (List.mem_cons_of_mem _ h)))
        obtain ⟨a1, a2⟩ := apart q (Or.inr h)
        exact (hP i q hi).kept (hk _ a1 a2)
  · rw [vD_iff] at hD1 ⊢
    have h1 := hd.1
    rw [List.map_append, List.map_cons, List.nodup_append] at h1
    obtain ⟨h2, h3, h4⟩ := h1
    rw [List.nodup_cons] at h3
    refine ⟨?_, fun q hq => ?_⟩
    · rw [List.map_append, List.map_append, List.nodup_append]
      refine ⟨h2, ?_, ?_⟩
      · rw [List.nodup_append]
        refine ⟨hD1.1, h3.2, ?_⟩
        rintro x hx z hz rfl
        obtain ⟨q, hq, rfl⟩ := List.mem_map.mp hx
        obtain ⟨r, hr, e⟩ := List.mem_map.mp hz
        exact (apart r (Or.inr hr)).2 (by rw [e]; exact hD1.2 q hq)
      · rintro x hx z hz rfl
        obtain ⟨q, hq, rfl⟩ := List.mem_map.mp hx
        rcases List.mem_append.mp hz with h | h
        · obtain ⟨r, hr, e⟩ := List.mem_map.mp h
          exact (apart q (Or.inl hq)).2 (by rw [← e]; exact hD1.2 r hr)
        · exact h4 q.1 hx q.1 (List.mem_cons_of_mem _ h) rfl
    · rcases List.mem_append.mp hq with h | h
      · exact hd.2 q (List.mem_append.mpr (Or.inl h))
      · rcases List.mem_append.mp h with h | h
        · exact hA _ (hD1.2 q h)
        · exact hd.2 q (List.mem_append.mpr (Or.inr (List.mem_cons_of_mem _ h)))
def KW (x : Ct) (g : Gm) (nL : Nat) (A : Nat → Prop) (kc ks : Nat) (ws : va_W) (pc : Nat) (lo : List (Nat × Value)) (st : List Value) : Prop := match x with
  | (p, l, e, R, s, m, args, below, meth, c, Q, _, _) => ∀ (H : Heap) (locs : List Loc) (ls : Array Slot), va_P (gD g) vwCl ws H → va_D A ws → va_S A s.heap H locs → lv_has ls nL lo → W p l e R s m args below meth c H locs kc ks Q (F0 m pc ls st)
def Kx (x : Ct) (g : Gm) (nL : Nat) (A : Nat → Prop) (cc : ByteArray) (own : String) (nf nlc nc ns : Nat) : Prop := match x with
  | (p, l, e, R, s, m, args, below, meth, c, Q, _, _) => p.tables.exec = Jvm.exec ∧ c.code = cc ∧ c.maxLocals = nL ∧ s.vm.findClass own = some m.cls ∧ (∀ w ∈ okw, w.before args s = true) ∧ va_K (gD g) vwCl (tysOf g) s ∧ (∀ q, s.heap.size ≤ q → A q) ∧ nf ≤ R.frames ∧ nlc ≤ R.locals ∧ nc ≤ R.cells ∧ ns ≤ R.slots ∧ meth.locks = false ∧ stF A s s.heap ∧ va_AO "LightScript$Tape" s
def Ki (x : Ct) : Prop := match x with
  | (p, l, e, R, s, m, args, below, meth, c, Q, _, _) => meth.name = "<init>"
/-- a constructor: out of its own blank cell come the cells w u -/
def KJ (l : Launch) (g : Gm) (n : MethodName) (cc : ByteArray) (maxL : Nat) (fr lc mc ms h0 : Nat) (As : List Value) (b0 : va_E) {U : Type} (w : U → va_W) : Prop :=
  ∀ sz : Nat, Met l n (.code n cc maxL none :: okw) { frames := fr, cells := mc, slots := ms, locals := lc }
    (va_Pc (.ref h0 :: As) (fun S => S.heap.size = sz ∧ va_P (gD g) vwCl [(h0, b0)] S.heap ∧ va_K (gD g) vwCl (tysOf g) S ∧ stF (va_A [(h0, b0)] sz) S S.heap ∧ va_AO "LightScript$Tape" S))
    (va_Qv (S := U) (fun _ => True) (fun u t => va_P (gD g) vwCl (w u) t.heap ∧ va_D (va_A [(h0, b0)] sz) (w u)) (va_A [(h0, b0)] sz)) mc ms (va_A [(h0, b0)] sz)
/-- what a constructor owes at its end -/
def Kr (x : Ct) (g : Gm) (A : Nat → Prop) {U : Type} (w : U → va_W) (mc ms : Nat) : Prop := match x with
  | (p, l, e, R, s, m, args, below, meth, c, Q, _, _) => meth.sig.returnType = none ∧ Q = MQ below (va_Qv (S := U) (fun _ => True) (fun u t => va_P (gD g) vwCl (w u) t.heap ∧ va_D A (w u)) A) args s mc ms A
theorem KJ_of {l : Launch} {g : Gm} {n : MethodName} {cc : ByteArray} {maxL fr lc mc ms h0 : Nat} {As : List Value} {b0 : va_E} {U : Type} {w : U → va_W} {own : String} {lo : List (Nat × Value)}
    (hy : plainName n.cls = true) (hown : n.cls = own) (hn : n.name = "<init>") (hlen : (lg_sl (.ref h0 :: As)).length ≤ maxL) (hlo : lv_args 0 (.ref h0 :: As) = lo)
    (body : ∀ (x : Ct) (A : Nat → Prop), Kx x g maxL A cc own fr lc mc ms → Ki x → Kr x g A w mc ms → A h0 → x.2.1 = l → KW x g maxL A 0 0 [(h0, b0)] 0 lo []) : KJ l g n cc maxL fr lc mc ms h0 As b0 w := by
  subst hlo
  intro sz
  refine Met.ofW (cc := cc) (maxL := maxL) (ret := none) hy rfl ?_
  intro p e s m args below meth c s₁ B hml hv
  obtain ⟨rfl, hsz, hP, hK, hst, hao⟩ := hv
  subst hsz
  have hts := atoms_spec (ws := .code n cc maxL none :: okw) B.pre
  have hnm : s.vm.findClass own = some m.cls := by rw [← hown]; exact findClass_of_methodNamed B.named
  have hin : meth.name = "<init>" := (name_of_methodNamed B.named B.method).1.trans hn
  have hb := body (p, l, e, (headSpec (.code n cc maxL none :: okw) { frames := fr, cells := mc, slots := ms, locals := lc }).room, s, m, (.ref h0 :: As).toArray, below, meth, c, MQ below (va_Qv (S := U) (fun _ => True) (fun u t => va_P (gD g) vwCl (w u) t.heap ∧ va_D (va_A [(h0, b0)] s.heap.size) (w u)) (va_A [(h0, b0)] s.heap.size)) (.ref h0 :: As).toArray s mc ms (va_A [(h0, b0)] s.heap.size), 0, 0) (va_A [(h0, b0)] s.heap.size)
    ⟨B.exec, B.bytes, hml, hnm, fun w hw => hts w (List.mem_cons_of_mem _ hw), hK, fun q hq => Or.inr hq, Nat.le_refl _, Nat.le_refl _, Nat.le_refl _, Nat.le_refl _, B.notSynchronized, hst, hao⟩ hin ⟨B.returns, rfl⟩ (Or.inl ⟨0, b0, rfl⟩) rfl
  have hl := lv_entry (.ref h0 :: As) (n := maxL) hlen
  rw [lg_entry_eq]
  refine hb s.heap [] _ hP ?_ va_S.rf hl
  rw [vD_iff]
  exact ⟨by simp, fun q hq => by rw [List.mem_singleton.mp hq]; exact Or.inl ⟨0, b0, rfl⟩⟩
section KR
variable {x : Ct} {g : Gm} {nL nf nlc nc ns kc ks : Nat} {A : Nat → Prop} {cc : ByteArray} {own : String} {pc : Nat} {lo : List (Nat × Value)} {st : List Value} {ws pre tl : va_W}
theorem K_iconst (C : Kx x g nL A cc own nf nlc nc ns) {n : Int} (d : decode cc pc = .ok (.iconst n, 1)) (k : KW x g nL A kc ks ws (pc + 1) lo (vi n :: st)) : KW x g nL A kc ks ws pc lo st := by
  obtain ⟨p, l, e, R, s, m, args, below, meth, c, Q, k1, k2⟩ := x
  intro H locs ls hP hD hS hl
  exact lv_iconst C.1 C.2.1 d rfl (k H locs ls hP hD hS hl)
theorem K_bipush (C : Kx x g nL A cc own nf nlc nc ns) {n : Int} (d : decode cc pc = .ok (.bipush n, 2)) (hn : (Int8.ofInt n).toInt32 = Int32.ofInt n) (k : KW x g nL A kc ks ws (pc + 2) lo (vi n :: st)) : KW x g nL A kc ks ws pc lo st := by
  obtain ⟨p, l, e, R, s, m, args, below, meth, c, Q, k1, k2⟩ := x
  intro H locs ls hP hD hS hl
  exact lv_bipush C.1 C.2.1 d hn (k H locs ls hP hD hS hl)
theorem K_sipush (C : Kx x g nL A cc own nf nlc nc ns) {n : Int} (d : decode cc pc = .ok (.sipush n, 3)) (hn : (Int16.ofInt n).toInt32 = Int32.ofInt n) (k : KW x g nL A kc ks ws (pc + 3) lo (vi n :: st)) : KW x g nL A kc ks ws pc lo st := by
  obtain ⟨p, l, e, R, s, m, args, below, meth, c, Q, k1, k2⟩ := x
  intro H locs ls hP hD hS hl
  exact lv_sipush C.1 C.2.1 d hn (k H locs ls hP hD hS hl)
theorem K_aload_n (C : Kx x g nL A cc own nf nlc nc ns) {f : Fin 4} {a : Nat} (i : Nat) (d : decode cc pc = .ok (.aload_n f, 1)) (hf9 : (f : Nat) = i) (j : Nat) (hj : lo[j]? = some (i, .ref a)) (k : KW x g nL A kc ks ws (pc + 1) lo (.ref a :: st)) : KW x g nL A kc ks ws pc lo st := by
  obtain ⟨p, l, e, R, s, m, args, below, meth, c, Q, k1, k2⟩ := x
  intro H locs ls hP hD hS hl
  exact lv_aload_n C.1 C.2.1 d hf9 (lv_at hl j hj) (k H locs ls hP hD hS hl)
theorem K_aload (C : Kx x g nL A cc own nf nlc nc ns) {a : Nat} (i : Nat) (d : decode cc pc = .ok (.aload i, 2)) (j : Nat) (hj : lo[j]? = some (i, .ref a)) (k : KW x g nL A kc ks ws (pc + 2) lo (.ref a :: st)) : KW x g nL A kc ks ws pc lo st := by
  obtain ⟨p, l, e, R, s, m, args, below, meth, c, Q, k1, k2⟩ := x
  intro H locs ls hP hD hS hl
  exact lv_aload C.1 C.2.1 d (lv_at hl j hj) (k H locs ls hP hD hS hl)
theorem K_iload_n (C : Kx x g nL A cc own nf nlc nc ns) {f : Fin 4} {a : Int} (i : Nat) (d : decode cc pc = .ok (.iload_n f, 1)) (hf9 : (f : Nat) = i) (j : Nat) (hj : lo[j]? = some (i, vi a)) (k : KW x g nL A kc ks ws (pc + 1) lo (vi a :: st)) : KW x g nL A kc ks ws pc lo st := by
  obtain ⟨p, l, e, R, s, m, args, below, meth, c, Q, k1, k2⟩ := x
  intro H locs ls hP hD hS hl
  exact lv_iload_n C.1 C.2.1 d hf9 (lv_at hl j hj) (k H locs ls hP hD hS hl)
theorem K_istore_n (C : Kx x g nL A cc own nf nlc nc ns) {f : Fin 4} {a : Int} {lo2 : List (Nat × Value)} (i : Nat) (d : decode cc pc = .ok (.istore_n f, 1)) (hf9 : (f : Nat) = i) (hi : i < nL) (hl2 : (i, vi a) :: lo.filter (fun q => !(q.1 == i) && !(q.1 + 1 == i && q.2.category == 2)) = lo2) (k : KW x g nL A kc ks ws (pc + 1) lo2 st) : KW x g nL A kc ks ws pc lo (vi a :: st) := by
  obtain ⟨p, l, e, R, s, m, args, below, meth, c, Q, k1, k2⟩ := x
  intro H locs ls hP hD hS hl
  exact lv_istore_n C.1 C.2.1 d hf9 hl hi hl2 (fun ls2 hl3 => k H locs ls2 hP hD hS hl3)
theorem K_astore_n (C : Kx x g nL A cc own nf nlc nc ns) {f : Fin 4} {a : Nat} {lo2 : List (Nat × Value)} (i : Nat) (d : decode cc pc = .ok (.astore_n f, 1)) (hf9 : (f : Nat) = i) (hi : i < nL) (hl2 : (i, Value.ref a) :: lo.filter (fun q => !(q.1 == i) && !(q.1 + 1 == i && q.2.category == 2)) = lo2) (k : KW x g nL A kc ks ws (pc + 1) lo2 st) : KW x g nL A kc ks ws pc lo (.ref a :: st) := by
  obtain ⟨p, l, e, R, s, m, args, below, meth, c, Q, k1, k2⟩ := x
  intro H locs ls hP hD hS hl
  exact lv_astore_n C.1 C.2.1 d hf9 hl hi hl2 (fun ls2 hl3 => k H locs ls2 hP hD hS hl3)
theorem K_iinc (C : Kx x g nL A cc own nf nlc nc ns) {n a : Int} (i j : Nat) (d : decode cc pc = .ok (.iinc i n, 3)) (hj : lo[j]? = some (i, vi a)) (hi : i < nL) (k : KW x g nL A kc ks ws (pc + 3) ((i, vi (a + n)) :: lo.filter (fun q => !(q.1 == i) && !(q.1 + 1 == i && q.2.category == 2))) st) : KW x g nL A kc ks ws pc lo st := by
  obtain ⟨p, l, e, R, s, m, args, below, meth, c, Q, k1, k2⟩ := x
  intro H locs ls hP hD hS hl
  exact lv_iinc (v := Int32.ofInt (a + n)) C.1 C.2.1 d hl hj (Int32.ofInt_add a n).symm hi rfl (fun ls2 hl3 => k H locs ls2 hP hD hS hl3)
theorem K_dup (C : Kx x g nL A cc own nf nlc nc ns) {v : Value} (hv : v.category = 1) (d : decode cc pc = .ok (.dup, 1)) (k : KW x g nL A kc ks ws (pc + 1) lo (v :: v :: st)) : KW x g nL A kc ks ws pc lo (v :: st) := by
  obtain ⟨p, l, e, R, s, m, args, below, meth, c, Q, k1, k2⟩ := x
  intro H locs ls hP hD hS hl
  exact lv_dup C.1 C.2.1 d hv (k H locs ls hP hD hS hl)
theorem K_goto (C : Kx x g nL A cc own nf nlc nc ns) {off : Int} {tgt : Nat} (d : decode cc pc = .ok (.goto off, 3)) (ht : (pc : Int) + off = (tgt : Int)) (k : KW x g nL A kc ks ws tgt lo st) : KW x g nL A kc ks ws pc lo st := by
  obtain ⟨p, l, e, R, s, m, args, below, meth, c, Q, k1, k2⟩ := x
  intro H locs ls hP hD hS hl
  exact lv_goto C.1 C.2.1 d ht (k H locs ls hP hD hS hl)
theorem K_icmp_ge (C : Kx x g nL A cc own nf nlc nc ns) {a b : Int} (ha : rg a) (hb : rg b) {off : Int} {tgt : Nat} (d : decode cc pc = .ok (.if_icmp .ge off, 3)) (ht : (pc : Int) + off = (tgt : Int)) (k1 : b ≤ a → KW x g nL A kc ks ws tgt lo st) (k2 : a < b → KW x g nL A kc ks ws (pc + 3) lo st) : KW x g nL A kc ks ws pc lo (vi b :: vi a :: st) := by
  obtain ⟨p, l, e, R, s, m, args, below, meth, c, Q, k8, k9⟩ := x
  intro H locs ls hP hD hS hl
  refine lv_icmp_ge C.1 C.2.1 d ht (fun q => k1 ((ofI_le hb ha).mp q) H locs ls hP hD hS hl) (fun q => k2 (Int.not_le.mp (fun z => q ((ofI_le hb ha).mpr z))) H locs ls hP hD hS hl)
theorem K_objInit (C : Kx x g nL A cc own nf nlc nc ns) {idx a : Nat} (hlk : Cond.methodLink own idx Lib.objectInit ∈ okw) (hi : Cond.instanceMethod Lib.objectInit ∈ okw) (hc : Cond.code Lib.objectInit ⟨#[0xb1]⟩ 1 none ∈ okw) (hfr : 1 ≤ nf) (hlo : (st.map fun v => v.category).sum + 12 ≤ nlc) (d : decode cc pc = .ok (.invokespecial idx, 3)) (k : KW x g nL A kc ks ws (pc + 3) lo st) : KW x g nL A kc ks ws pc lo (.ref a :: st) := by
  obtain ⟨p, l, e, R, s, m, args, below, meth, c, Q, k1, k2⟩ := x
  obtain ⟨hx, hb, hml, hown, hts, hK, hA, hNf, hNl, hNc, hNs, hLk, hSt, hAo⟩ := C
  intro H locs ls hP hD hS hl
  refine W.objInit hx hb hown (hts _ hlk) (hts _ hi) (hts _ hc) rfl (by rw [hml]; exact hl.1) rfl d (Nat.le_trans hfr hNf) (by show 2 * 0 + _ + 12 ≤ _; omega) ?_
  exact k H locs ls hP hD hS hl
theorem K_newarr (C : Kx x g nL A cc own nf nlc nc ns) {atype : ArrayType} {ty : FieldType} {n t : Nat} {a0 : vp_A} (hw : Cond.arrayClass (newarray.typeOf atype) ∈ okw) (hty : newarray.typeOf atype = ty) (hnr : ∀ C, ty ≠ .object C) (ht : (tysOf g)[t]? = some (gca g t, ty)) (ha : ∀ cA : ClassId, vp_cell cA a0 = arrV cA n (fun _ => defaultValue ty)) (hn : n < 100000) (hb0 : n * componentBytes ty ≤ 536870912) (hkc : kc + 1 ≤ nc) (hks : ks + n ≤ ns) (hws : ws = pre ++ tl) (d : decode cc pc = .ok (.newarray atype, 2)) (k : ∀ q : Nat, KW x g nL A (kc + 1) (ks + n) (pre ++ (q, .inl (gca g t, a0)) :: tl) (pc + 2) lo (.ref q :: st)) : KW x g nL A kc ks ws pc lo (vi n :: st) := by
  subst hws
  obtain ⟨p, l, e, R, s, m, args, below, meth, c, Q, k1, k2⟩ := x
  obtain ⟨hx, hb, hml, hown, hts, hK, hA, hNf, hNl, hNc, hNs, hLk, hSt, hAo⟩ := C
  intro H locs ls hP hD hS hl
  have rn : rg (n : Int) := ⟨by omega, by omega⟩
  refine va_newa hx hb (hts _ hw) hty hK hP hD hS hA (a0 := a0) (N' := n) ha (fun q => ?_) ?_ hb0 (Nat.le_trans hkc hNc) (Nat.le_trans hks hNs) d (fun q cA H1 hK1 hP1 hD1 hS1 => ?_)
  · have := (ofI_lt (y := 0) rn ⟨by decide, by decide⟩).mp q
    omega
  · show (Int32.ofInt (n : Int)).toInt.toNat = n
    rw [ofI_toInt rn]; omega
  · have e1 := (hK1.2 (tysOf g).length (cA, ty) (by rw [List.getElem?_append_right (Nat.le_refl _)]; simp)).2
    have e2 := (hK.2 t _ ht).2
    have e3 : cA = gca g t := by
      cases ty with
      | object C => exact absurd rfl (hnr C)
      | _ => exact Option.some.inj (e1.symm.trans e2)
    subst e3
    exact k q H1 locs ls (k_insP hP1) (k_insD hD1) hS1 hl
theorem K_new (C : Kx x g nL A cc own nf nlc nc ns) {Cn : String} {T : u_T} {N ci idx : Nat} {fs : List Value} (hin : ∀ w ∈ u_ws Cn T N, w ∈ okw) (ty : Nat → FieldType) (hty : ∀ k, k < N → parseFieldDescriptor (T k).2.2.1 = some (ty k)) (hcl : Cond.classLink own idx Cn ∈ okw) (hinst : Cond.instantiable Cn N ∈ okw) (hini : Cond.initialized Cn ∈ okw) (hc : vwCl[ci]? = some (Cn, T, N)) (hfs : ∀ j, j < N → defaultValue (ty j) = vp_V fs j) (hkc : kc + 1 ≤ nc) (hks : ks + N ≤ ns) (hws : ws = pre ++ tl) (d : decode cc pc = .ok (.new idx, 3)) (k : ∀ q : Nat, KW x g nL A (kc + 1) (ks + N) (pre ++ (q, .inr (ci, fs)) :: tl) (pc + 3) lo (.ref q :: st)) : KW x g nL A kc ks ws pc lo st := by
  subst hws
  obtain ⟨p, l, e, R, s, m, args, below, meth, c, Q, k1, k2⟩ := x
  obtain ⟨hx, hb, hml, hown, hts, hK, hA, hNf, hNl, hNc, hNs, hLk, hSt, hAo⟩ := C
  intro H locs ls hP hD hS hl
  exact va_new hx hb hts hin ty hty hown (hts _ hcl) (hts _ hinst) (hts _ hini) hK hP hD hS hA hc hfs (Nat.le_trans hkc hNc) (Nat.le_trans hks hNs) d (fun q H1 hP1 hD1 hS1 => k q H1 locs ls (k_insP hP1) (k_insD hD1) hS1 hl)
theorem K_newq (C : Kx x g nL A cc own nf nlc nc ns) {n idx : Nat} (hcl : Cond.classLink own idx "LightScript$Tape" ∈ okw) (hn : n < 100000) (hkc : kc + 1 ≤ nc) (hks : ks + n ≤ ns) (hws : ws = pre ++ tl) (d : decode cc pc = .ok (.anewarray idx, 3)) (k : ∀ q : Nat, KW x g nL A (kc + 1) (ks + n) (pre ++ (q, .inl (gca g 4, (n, .inr (.inr (.inr (.inr (fun _ => none))))))) :: tl) (pc + 3) lo (.ref q :: st)) : KW x g nL A kc ks ws pc lo (vi n :: st) := by
  subst hws
  obtain ⟨p, l, e, R, s, m, args, below, meth, c, Q, k1, k2⟩ := x
  obtain ⟨hx, hb, hml, hown, hts, hK, hA, hNf, hNl, hNc, hNs, hLk, hSt, hAo⟩ := C
  intro H locs ls hP hD hS hl
  have rn : rg (n : Int) := ⟨by omega, by omega⟩
  refine va_newq hx hb hown (hts _ hcl) hAo hK hP hD hS hA (N' := n) (fun q => ?_) ?_ (by omega) (Nat.le_trans hkc hNc) (Nat.le_trans hks hNs) d (fun q cA H1 hK1 hP1 hD1 hS1 => ?_)
  · have := (ofI_lt (y := 0) rn ⟨by decide, by decide⟩).mp q
    omega
  · show (Int32.ofInt (n : Int)).toInt.toNat = n
    rw [ofI_toInt rn]; omega
  · have e1 := (hK1.2 (tysOf g).length _ (by rw [List.getElem?_append_right (Nat.le_refl _), Nat.sub_self]; rfl)).2
    have e2 := (hK.2 4 _ rfl).2
    have e3 : cA = gca g 4 := by
      obtain ⟨_, _, _, _, _, z1⟩ := e1
      obtain ⟨_, _, _, _, _, z2⟩ := e2
      exact Option.some.inj (z1.symm.trans z2)
    subst e3
    exact k q H1 locs ls (k_insP hP1) (k_insD hD1) hS1 hl
theorem K_astq (C : Kx x g nL A cc own nf nlc nc ns) {n v a ci q0 N : Nat} {i : Int} {f : Nat → Option Nat} {vs : List Value} {T : u_T} (ha : ws[q0]? = some (a, .inl (gca g 4, (n, .inr (.inr (.inr (.inr f))))))) (hv : (v, (.inr (ci, vs) : va_E)) ∈ ws) (hc : vwCl[ci]? = some ("LightScript$Tape", T, N)) (h0 : 0 ≤ i) (h1 : i < (n : Int)) (hn : n ≤ 2147483648) (d : decode cc pc = .ok (.aastore, 1)) (k : KW x g nL A kc ks (ws.set q0 (a, .inl (gca g 4, (n, .inr (.inr (.inr (.inr (va_up f i.toNat (some v)))))))))  (pc + 1) lo st) : KW x g nL A kc ks ws pc lo (.ref v :: vi i :: .ref a :: st) := by
  obtain ⟨p, l, e, R, s, m, args, below, meth, c, Q, k1, k2⟩ := x
  obtain ⟨hx, hb, hml, hown, hts, hK, hA, hNf, hNl, hNc, hNs, hLk, hSt, hAo⟩ := C
  intro H locs ls hP hD hS hl
  obtain ⟨qk, hqk⟩ := List.getElem?_of_mem hv
  refine va_astq hx hb hK hP hD hS q0 4 qk ci ha rfl hqk hc (ofI_in hn h0 h1) d (fun H1 locs1 hP1 hD1 hS1 => ?_)
  rw [ofI_cl hn h0 h1] at hP1 hD1
  exact k H1 locs1 ls hP1 hD1 hS1 hl
theorem K_putF (C : Kx x g nL A cc own nf nlc nc ns) (I : Ki x) {idx ci k i N a : Nat} {Cn : String} {T : u_T} {fs : List Value} {v : Value} {ty : FieldType} (hL : FL own idx ci k Cn T N) (hF : ∃ ty0 : Nat → FieldType, (∀ k, k < N → parseFieldDescriptor (T k).2.2.1 = some (ty0 k)) ∧ (∀ a, a < N → ∀ b, b < N → a ≠ b → (T a).2.1 ≠ (T b).2.1) ∧ (T k).2.2.2 = true ∧ (T k).1 = own ∧ parseFieldDescriptor (T k).2.2.1 = some ty) (he : ws[i]? = some (a, .inr (ci, fs))) (hn : narrow ty v = v) (hfit : fits ty v = true) (hl0 : k < fs.length) (d : decode cc pc = .ok (.putfield idx, 3)) (kk : KW x g nL A kc ks (ws.set i (a, .inr (ci, fs.set k v))) (pc + 3) lo st) : KW x g nL A kc ks ws pc lo (v :: .ref a :: st) := by
  obtain ⟨p, l, e, R, s, m, args, below, meth, c, Q, k1, k2⟩ := x
  obtain ⟨hx, hb, hml, hown, hts, hK, hA, hNf, hNl, hNc, hNs, hLk, hSt, hAo⟩ := C
  obtain ⟨hin, hc, hk, hw⟩ := hL
  obtain ⟨ty0, f1, f2, f3, f4, f5⟩ := hF
  intro H locs ls hP hD hS hl
  exact va_putF hx hb hts hin ty0 f1 f2 hown hK hP hD hS i he hc k hk (hts _ hw) (fun _ h => h) f3 I f4 f5 hn hfit hl0 d (fun H1 locs1 hP1 hD1 hS1 => kk H1 locs1 ls hP1 hD1 hS1 hl)
theorem K_putI (C : Kx x g nL A cc own nf nlc nc ns) {idx ci k i N a : Nat} {Cn : String} {T : u_T} {fs : List Value} {v : Value} {ty : FieldType} (hL : FL own idx ci k Cn T N) (hF : FP Cn T N k ty) (he : ws[i]? = some (a, .inr (ci, fs))) (hn : narrow ty v = v) (hfit : fits ty v = true) (hl0 : k < fs.length) (d : decode cc pc = .ok (.putfield idx, 3)) (kk : KW x g nL A kc ks (ws.set i (a, .inr (ci, fs.set k v))) (pc + 3) lo st) : KW x g nL A kc ks ws pc lo (v :: .ref a :: st) := by
  obtain ⟨p, l, e, R, s, m, args, below, meth, c, Q, k1, k2⟩ := x
  obtain ⟨hx, hb, hml, hown, hts, hK, hA, hNf, hNl, hNc, hNs, hLk, hSt, hAo⟩ := C
  obtain ⟨hin, hc, hk, hw⟩ := hL
  obtain ⟨ty0, f1, f2, f3, f5⟩ := hF
  intro H locs ls hP hD hS hl
  exact va_put hx hb hts hin ty0 f1 f2 hown hK hP hD hS i he hc k hk (hts _ hw) (fun _ h => h) f3 f5 hn hfit hl0 d (fun H1 locs1 hP1 hD1 hS1 => kk H1 locs1 ls hP1 hD1 hS1 hl)
theorem K_get (C : Kx x g nL A cc own nf nlc nc ns) {idx ci k i N a : Nat} {Cn : String} {T : u_T} {fs : List Value} {v : Value} (hL : FL own idx ci k Cn T N) (he : ws[i]? = some (a, .inr (ci, fs))) (hv : fs[k]? = some v) (d : decode cc pc = .ok (.getfield idx, 3)) (kk : KW x g nL A kc ks ws (pc + 3) lo (v :: st)) : KW x g nL A kc ks ws pc lo (.ref a :: st) := by
  obtain ⟨p, l, e, R, s, m, args, below, meth, c, Q, k1, k2⟩ := x
  obtain ⟨hx, hb, hml, hown, hts, hK, hA, hNf, hNl, hNc, hNs, hLk, hSt, hAo⟩ := C
  obtain ⟨hin, hc, hk, hw⟩ := hL
  intro H locs ls hP hD hS hl
  exact va_get hx hb hts hin hown hK hP i he hc k hk (hts _ hw) (fun _ h => h) hv d (kk H locs ls hP hD hS hl)
theorem K_vret (C : Kx x g nL A cc own nf nlc nc ns) {U : Type} {w : U → va_W} {mc ms : Nat} (E : Kr x g A w mc ms) (u : U) (hw : (w u).Perm ws) (hkc : kc ≤ mc) (hks : ks ≤ ms) (d : decode cc pc = .ok (.return_, 1)) : KW x g nL A kc ks ws pc lo [] := by
  obtain ⟨p, l, e, R, s, m, args, below, meth, c, Q, k1, k2⟩ := x
  obtain ⟨hx, hb, hml, hown, hts, hK, hA, hNf, hNl, hNc, hNs, hLk, hSt, hAo⟩ := C
  obtain ⟨hr, hQ⟩ := E
  subst hQ
  intro H locs ls hP hD hS hl
  refine W.widen hkc hks ?_
  exact W.vret hx hb hr (fun t ht hW => ⟨⟨u, rfl, trivial, by rw [ht]; exact vP_mem hP (fun q hq => hw.mem_iff.mp hq), vD_perm hD hw⟩, hS.F ht⟩) hS.2.2 d
theorem kj_pre {l : Launch} {p : Program} {e : Env} {R : Room} {s : State} {m : MethodId} {args : Array Value} {below : List Frame} {meth : Method} {c : Code} {H : Heap} {locs : List Loc} {q : Nat} {b0 : va_E} {As : List Value} (hP : va_P (gD g) vwCl ws H) (hm : (q, b0) ∈ ws) (hK : va_K (gD g) vwCl (tysOf g) s) (hSt : stF A s s.heap) (hAo : va_AO "LightScript$Tape" s) (hS : va_S A s.heap H locs) (hA2 : ∀ z, va_A [(q, b0)] H.size z → A z) {U : State} (hU : U.heap = H) (hW : s.WarmedH U.vm) :
    va_Pc (.ref q :: As) (fun S => S.heap.size = H.size ∧ va_P (gD g) vwCl [(q, b0)] S.heap ∧ va_K (gD g) vwCl (tysOf g) S ∧ stF (va_A [(q, b0)] H.size) S S.heap ∧ va_AO "LightScript$Tape" S) (.ref q :: As).toArray U :=
  ⟨rfl, by rw [hU], by rw [hU]; exact vP_mem hP (fun z hz => by rw [List.mem_singleton.mp hz]; exact hm), va_K.moved hW.alike hK, by rw [hU]; exact (hSt.go hS hW).narrow hA2, va_AO.moved hW.alike hAo⟩
theorem kj_blind {q sz : Nat} {b0 : va_E} {As : List Value} : FrameBlind (va_Pc (.ref q :: As) (fun S => S.heap.size = sz ∧ va_P (gD g) vwCl [(q, b0)] S.heap ∧ va_K (gD g) vwCl (tysOf g) S ∧ stF (va_A [(q, b0)] sz) S S.heap ∧ va_AO "LightScript$Tape" S)) := by
  intro a U f mk h
  obtain ⟨h1, h2, h3, h4, ⟨⟨t, z1, z2⟩, h5, h6, h7, h8, h9, h10⟩, h11⟩ := h
  have hal : U.vm.Alike (U.calling f mk a).vm := Vm.Alike.refl U.vm
  exact ⟨h1, h2, h3, va_K.moved hal h4, ⟨⟨t, va_Z.moved hal z1, va_T.moved hal z2⟩, vx_Zq.moved hal h5, vx_Zq.moved hal h6, fun q hq => (by obtain ⟨sa, z⟩ := h7 q hq; exact ⟨sa, z.same rfl⟩), fun q hq => (h8 q hq).same rfl rfl, fun w hw => va_Nw.same (u := U) (U := U.calling f mk a) (nwL_tabs w hw) rfl (h9 w hw), va_Nc.moved hal h10⟩, va_AO.moved hal h11⟩
theorem K_of_run {p : Program} {l : Launch} {e : Env} {R : Room} {s : State} {m : MethodId} {args : Array Value} {below : List Frame} {meth : Method} {c : Code} {Q : State → Prop} {k8 k9 : Nat} {H : Heap} {locs : List Loc} {ls : Array Slot} {st0 rest : List Value} {a : Array Value} {U : Type} {w : U → va_W} {mc ms q : Nat} {b0 : va_E}
    (hr : va_Run p l e R s m args below meth c H locs kc ks mc ms (F0 m pc ls st0) rest (va_Qv (S := U) (fun _ => True) (fun u t => va_P (gD g) vwCl (w u) t.heap ∧ va_D (va_A [(q, b0)] H.size) (w u)) (va_A [(q, b0)] H.size) a) (va_A [(q, b0)] H.size)) (hP : va_P (gD g) vwCl (pre ++ (q, b0) :: tl) H) (hD : va_D A (pre ++ (q, b0) :: tl)) (hS : va_S A s.heap H locs) (hA2 : ∀ z, va_A [(q, b0)] H.size z → A z) (hl : lv_has ls nL lo)
    (kk : ∀ u, KW (p, l, e, R, s, m, args, below, meth, c, Q, k8, k9) g nL A (kc + mc) (ks + ms) (pre ++ (w u ++ tl)) (pc + 3) lo rest) : W p l e R s m args below meth c H locs kc ks Q (F0 m pc ls st0) := by
  intro T hT X
  obtain ⟨v, st₀, t, T', L, h0, X', hL, e1, e2, ⟨⟨u, hv, -, hP', hD'⟩, hz, hk⟩, st⟩ := hr T hT X
  cases hv
  rw [h0] at hz hk
  have hk2 : ∀ z, z < H.size → ¬ va_A [(q, b0)] H.size z → T'.heap[z]? = H[z]? := fun z h1 h2 => by rw [e1]; exact hk z h1 h2
  obtain ⟨j1, j2⟩ := kjoin hP hD hk2 hA2 (by rw [e1]; exact hP') hD'
  obtain ⟨t2, a1, b1⟩ := kk u T'.heap (locs ++ L) ls j1 j2
    ⟨Nat.le_trans hS.1 (by rw [e1]; exact hz), fun z h1 h2 => by rw [hk2 z (Nat.lt_of_lt_of_le h1 hS.1) (fun y => h2 (hA2 z y))]; exact hS.2.1 z h1 h2, fun z hz2 => by
      rcases List.mem_append.mp hz2 with h | h
      · exact hS.2.2 z h
      · exact hA2 _ (hL z h)⟩ hl T' rfl X'
  exact ⟨t2, st t2 a1, b1⟩
theorem k_A2 {H0 H : Heap} {locs : List Loc} {q : Nat} {b0 : va_E} (hA : ∀ z, H0.size ≤ z → A z) (hD : va_D A (pre ++ (q, b0) :: tl)) (hS : va_S A H0 H locs) : ∀ z, va_A [(q, b0)] H.size z → A z := by
  rintro z (⟨k, e, h⟩ | h)
  · have hk : k < 1 := (List.getElem?_eq_some_iff.mp h).1
    have : k = 0 := by omega
    subst this
    have := Option.some.inj h
    cases this
    exact (vD_iff.mp hD).2 (q, b0) (List.mem_append.mpr (Or.inr List.mem_cons_self))
  · exact hA z (Nat.le_trans hS.1 h)
theorem K_initN (C : Kx x g nL A cc own nf nlc nc ns) {U : Type} {w : U → va_W} {n : MethodName} {host : String} {ccM : ByteArray} {maxL np fr lc mc ms idx q : Nat} {b0 : va_E} {As rest : List Value}
    (hMW : MW n ccM maxL none np ∧ Cond.instanceMethod n ∈ okw) (hnm : n.name = "<init>") (hlk : (own, idx, n, host) ∈ nestL) (hM : KJ x.2.1 g n ccM maxL fr lc mc ms q As b0 w) (hws : ws = pre ++ (q, b0) :: tl) (hfr : fr + 1 ≤ nf) (hlo : 8 + (maxL + 11) + lc ≤ nlc) (hst : st = As.reverse ++ .ref q :: rest) (hn : As.length = np) (hcat : (rest.map fun v => v.category).sum ≤ 8) (hkc : kc + mc ≤ nc) (hks : ks + ms ≤ ns) (d : decode cc pc = .ok (.invokespecial idx, 3)) (kk : ∀ u, KW x g nL A (kc + mc) (ks + ms) (pre ++ (w u ++ tl)) (pc + 3) lo rest) : KW x g nL A kc ks ws pc lo st := by
  subst hst
  subst hws
  obtain ⟨p, l, e, R, s, m, args, below, meth, c, Q, k1, k2⟩ := x
  obtain ⟨hx, hb, hml, hown, hts, hK, hA, hNf, hNl, hNc, hNs, hLk, hSt, hAo⟩ := C
  obtain ⟨⟨w1, w2, w3, w4, w5⟩, w6⟩ := hMW
  intro H locs ls hP hD hS hl
  have hA2 := k_A2 hA hD hS
  exact K_of_run (va_runIN (As := As) (rest := rest) (host := host) ⟨hx, hb, hml, hown, hts⟩ (hM H.size) ⟨va_cnB np hts (goodIn_ok (ok_cons w1 (fun _ h => h))) rfl rfl rfl (hSt.2.2.2.2.1 _ hlk) (hts _ w2) ⟨w3, w4, w5⟩ ⟨Nat.le_trans hfr hNf, Nat.le_trans hlo hNl⟩, hnm, hts _ w6⟩ ⟨kj_blind, fun U hU hW => kj_pre (l := l) (p := p) (e := e) (R := R) (m := m) (args := args) (below := below) (meth := meth) (c := c) hP (List.mem_append.mpr (Or.inr List.mem_cons_self)) hK hSt hAo hS hA2 hU hW⟩ rfl hn hl.1 rfl (lv_room hcat) d ⟨Nat.le_trans hkc hNc, Nat.le_trans hks hNs⟩) hP hD hS hA2 hl kk
theorem K_init (C : Kx x g nL A cc own nf nlc nc ns) {U : Type} {w : U → va_W} {n : MethodName} {ccM : ByteArray} {maxL np fr lc mc ms idx q : Nat} {b0 : va_E} {As rest : List Value}
    (hMW : MW n ccM maxL none np ∧ Cond.instanceMethod n ∈ okw) (hnm : n.name = "<init>") (hlk : Cond.methodLink own idx n ∈ okw) (hM : KJ x.2.1 g n ccM maxL fr lc mc ms q As b0 w) (hws : ws = pre ++ (q, b0) :: tl) (hfr : fr + 1 ≤ nf) (hlo : 8 + (maxL + 11) + lc ≤ nlc) (hst : st = As.reverse ++ .ref q :: rest) (hn : As.length = np) (hcat : (rest.map fun v => v.category).sum ≤ 8) (hkc : kc + mc ≤ nc) (hks : ks + ms ≤ ns) (d : decode cc pc = .ok (.invokespecial idx, 3)) (kk : ∀ u, KW x g nL A (kc + mc) (ks + ms) (pre ++ (w u ++ tl)) (pc + 3) lo rest) : KW x g nL A kc ks ws pc lo st := by
  subst hst
  subst hws
  obtain ⟨p, l, e, R, s, m, args, below, meth, c, Q, k1, k2⟩ := x
  obtain ⟨hx, hb, hml, hown, hts, hK, hA, hNf, hNl, hNc, hNs, hLk, hSt, hAo⟩ := C
  obtain ⟨⟨w1, w2, w3, w4, w5⟩, w6⟩ := hMW
  intro H locs ls hP hD hS hl
  have hA2 := k_A2 hA hD hS
  exact K_of_run (va_runI (As := As) (rest := rest) ⟨hx, hb, hml, hown, hts⟩ (hM H.size) (cwI np hts (goodIn_ok (ok_cons w1 (fun _ h => h))) rfl rfl rfl (hts _ w2) (hts _ hlk) (hts _ w6) hnm ⟨w3, w4, w5⟩ ⟨Nat.le_trans hfr hNf, Nat.le_trans hlo hNl⟩) ⟨kj_blind, fun U hU hW => kj_pre (l := l) (p := p) (e := e) (R := R) (m := m) (args := args) (below := below) (meth := meth) (c := c) hP (List.mem_append.mpr (Or.inr List.mem_cons_self)) hK hSt hAo hS hA2 hU hW⟩ rfl hn hl.1 rfl (lv_room hcat) d ⟨Nat.le_trans hkc hNc, Nat.le_trans hks hNs⟩) hP hD hS hA2 hl kk
/-- a call of an ordinary method on a world that is whole -/
theorem K_callJ (C : Kx x g nL A cc own nf nlc nc ns) {y : Sy} {g1 : Gm} (hgg : gD g1 = gD g) (hgt : tysOf g1 = tysOf g) (hg1 : gInj y g1) {n : MethodName} {ccM : ByteArray} {maxL np fr lc idx i ci N : Nat} {ret : Option FieldType} {As rest : List Value} {rv : Option Value} {σ σ' : Sg} {zz : Prop} {T : u_T} {fs : List Fd0}
    (hMW : MV n ccM maxL ret np) (hlk : Cond.methodLink own idx n ∈ okw) (hM : CJ x.2.1 y g1 n ccM maxL ret fr lc (.ref (gad g1 i) :: As) σ rv σ' zz) (hd : y.1[i]? = some (cO ci fs)) (hc : vwCl[ci]? = some (n.cls, T, N)) (hws : ∀ q ∈ wd y g1 σ, q ∈ ws)
    (hfr : fr + 1 ≤ nf) (hlo : 8 + (maxL + 11) + lc ≤ nlc) (hst : st = As.reverse ++ .ref (gad g1 i) :: rest) (hn : As.length = np) (hcat : (rest.map fun v => v.category).sum ≤ 8) (hkc : kc ≤ nc) (hks : ks ≤ ns) (d : decode cc pc = .ok (.invokevirtual idx, 3)) (kk : zz → KW x g nL A kc ks (wd y g1 σ') (pc + 3) lo (rv.toList ++ rest)) : KW x g nL A kc ks ws pc lo st := by
  subst hst
  obtain ⟨p, l, e, R, s, m, args, below, meth, c, Q, k1, k2⟩ := x
  obtain ⟨hx, hb, hml, hown, hts, hK, hA, hNf, hNl, hNc, hNs, hLk, hSt, hAo⟩ := C
  obtain ⟨⟨w1, w2, w3, w4, w5⟩, w6, w7⟩ := hMW
  intro H locs ls hP hD hS hl
  have hP1 : va_P (gD g1) vwCl (wd y g1 σ) H := by rw [hgg]; exact vP_mem hP hws
  have hK1 : va_K (gD g1) vwCl (tysOf g1) s := by rw [hgg, hgt]; exact hK
  have hsub : ∀ z, aw y g1 z → A z := by
    rintro z ⟨j, hj, rfl⟩
    obtain ⟨dd, hdd⟩ : ∃ dd, y.1[j]? = some dd := ⟨_, List.getElem?_eq_getElem hj⟩
    have := hws _ (List.mem_of_getElem? (wd_at (g := g1) (σ := σ) hdd))
    exact (vD_iff.mp hD).2 _ this
  have hr := va_runV (p := p) (l := l) (e := e) (R := R) (args := args) (below := below) (meth := meth) (c := c) (H := H) (locs := locs) (cells := kc) (slots := ks) (m := m) (s := s) (g := F0 m pc ls (As.reverse ++ .ref (gad g1 i) :: rest)) (As := As) (rest := rest) ⟨hx, hb, hml, hown, hts⟩ hM (cwV np hts (goodIn_ok (ok_cons hlk (ok_cons w6 (ok_cons w7 (ok_cons w2 (ok_cons w1 (fun _ h => h))))))) rfl rfl rfl ⟨rfl, w3, w4, w5⟩ ⟨Nat.le_trans hfr hNf, Nat.le_trans hlo hNl⟩) ⟨PJ_blind, va_recv hK1 hP1 hc (wd_at hd), fun U hU hW => ⟨rfl, by rw [hU]; exact hP1, va_K.moved hW.alike hK1, by rw [hU]; exact (hSt.go hS hW).narrow hsub⟩⟩ rfl hn hl.1 rfl (lv_room hcat) d ⟨Nat.le_trans hkc hNc, Nat.le_trans hks hNs⟩
  intro T0 hT X
  obtain ⟨v, st₀, t, T', L, h0, X', hL, e1, e2, ⟨⟨hv, hP', hzz⟩, hz, hk⟩, st⟩ := hr T0 hT X
  cases hv
  rw [h0] at hz hk
  obtain ⟨t2, a1, b1⟩ := kk hzz T'.heap (locs ++ L) ls (by rw [e1, ← hgg]; exact hP') ((wd_D hg1 σ').weaken (fun _ q _ h => hsub q.1 h))
    ⟨Nat.le_trans hS.1 (by rw [e1]; exact hz), fun q h1 h2 => by rw [e1, hk q (Nat.lt_of_lt_of_le h1 hS.1) (fun z => h2 (hsub q z))]; exact hS.2.1 q h1 h2, fun q hq => by
      rcases List.mem_append.mp hq with h | h
      · exact hS.2.2 q h
      · exact hsub _ (hL q h)⟩ hl T' rfl X'
  exact ⟨t2, st t2 a1, b1⟩
theorem wd_inj {y : Sy} {g1 : Gm} {σ : Sg} (h : va_D A (wd y g1 σ)) : gInj y g1 := by
  intro i j hi hj e
  obtain ⟨d, hd⟩ : ∃ d, y.1[i]? = some d := ⟨_, List.getElem?_eq_getElem hi⟩
  obtain ⟨d2, hd2⟩ : ∃ d, y.1[j]? = some d := ⟨_, List.getElem?_eq_getElem hj⟩
  exact h.1 i j _ _ (wd_at (g := g1) (σ := σ) hd) (wd_at hd2) e
theorem pl_mem {ws ws' : va_W} (is : List Nat) (hs : is.map (fun i => ws[i]?) = ws'.map some) : ∀ q ∈ ws', q ∈ ws := by
  intro q hq
  have h1 : some q ∈ ws'.map some := List.mem_map.mpr ⟨q, hq, rfl⟩
  rw [← hs] at h1
  obtain ⟨i, -, hi⟩ := List.mem_map.mp h1
  exact List.mem_of_getElem? hi
theorem K_vretP (C : Kx x g nL A cc own nf nlc nc ns) {U : Type} {w : U → va_W} {mc ms : Nat} (E : Kr x g A w mc ms) (u : U) (is : List Nat) (hn : va_nd is = true) (hs : is.map (fun i => ws[i]?) = (w u).map some) (hkc : kc ≤ mc) (hks : ks ≤ ms) (d : decode cc pc = .ok (.return_, 1)) : KW x g nL A kc ks ws pc lo [] := by
  obtain ⟨p, l, e, R, s, m, args, below, meth, c, Q, k1, k2⟩ := x
  obtain ⟨hx, hb, hml, hown, hts, hK, hA, hNf, hNl, hNc, hNs, hLk, hSt, hAo⟩ := C
  obtain ⟨hr, hQ⟩ := E
  subst hQ
  intro H locs ls hP hD hS hl
  refine W.widen hkc hks ?_
  exact W.vret hx hb hr (fun t ht hW => ⟨⟨u, rfl, trivial, by rw [ht]; exact vP_mem hP (pl_mem is hs), hD.sub is hn hs⟩, hS.F ht⟩) hS.2.2 d
theorem arrV_ext (cA : ClassId) (N : Nat) {f f' : Nat → Value} (h : ∀ j, j < N → f j = f' j) : arrV cA N f = arrV cA N f' := by
  unfold arrV
  have : (fun j : Fin N => f j.val) = fun j : Fin N => f' j.val := by funext j; exact h j.1 j.2
  rw [this]
theorem K_extq {n a q0 : Nat} {cA : ClassId} {f : Nat → Option Nat} (f' : Nat → Option Nat) (ha : ws[q0]? = some (a, .inl (cA, (n, .inr (.inr (.inr (.inr f))))))) (hf : ∀ j, j < n → f j = f' j) (k : KW x g nL A kc ks (ws.set q0 (a, .inl (cA, (n, .inr (.inr (.inr (.inr f'))))))) pc lo st) : KW x g nL A kc ks ws pc lo st := by
  obtain ⟨p, l, e, R, s, m, args, below, meth, c, Q, k1, k2⟩ := x
  intro H locs ls hP hD hS hl
  refine k H locs ls (fun i q hq => ?_) ?_ hS hl
  · by_cases hi : i = q0
    · subst hi
      have hl9 : i < ws.length := (List.getElem?_eq_some_iff.mp ha).1
      rw [List.getElem?_set_self hl9] at hq
      cases hq
      have h1 := hP i _ ha
      show H[a]? = some (vp_cell _ _)
      rw [vp_cell_q, ← arrV_ext cA n (f := fun j => va_rf (f j)) (fun j hj => by rw [hf j hj])]
      exact h1
    · rw [List.getElem?_set_ne (Ne.symm hi)] at hq
      exact hP i q hq
  · exact hD.set ha
theorem K_callR (C : Kx x g nL A cc own nf nlc nc ns) {y : Sy} {g1 : Gm} (is : List Nat) (hn9 : va_nd is = true) {σ : Sg} (hs : is.map (fun i => ws[i]?) = (wd y g1 σ).map some) (hgg : gD g1 = gD g) (hgt : tysOf g1 = tysOf g) {n : MethodName} {ccM : ByteArray} {maxL np fr lc idx i ci N : Nat} {ret : Option FieldType} {As rest : List Value} {rv : Option Value} {σ' : Sg} {zz : Prop} {T : u_T} {fs : List Fd0}
    (hMW : MV n ccM maxL ret np) (hlk : Cond.methodLink own idx n ∈ okw) (hM : gInj y g1 → CJ x.2.1 y g1 n ccM maxL ret fr lc (.ref (gad g1 i) :: As) σ rv σ' zz) (hd : y.1[i]? = some (cO ci fs)) (hc : vwCl[ci]? = some (n.cls, T, N))
    (hfr : fr + 1 ≤ nf) (hlo : 8 + (maxL + 11) + lc ≤ nlc) (hst : st = As.reverse ++ .ref (gad g1 i) :: rest) (hn : As.length = np) (hcat : (rest.map fun v => v.category).sum ≤ 8) (hkc : kc ≤ nc) (hks : ks ≤ ns) (d : decode cc pc = .ok (.invokevirtual idx, 3)) (kk : zz → KW x g nL A kc ks (wd y g1 σ') (pc + 3) lo (rv.toList ++ rest)) : KW x g nL A kc ks ws pc lo st := by
  obtain ⟨p, l, e, R, s, m, args, below, meth, c, Q, k1, k2⟩ := x
  intro H locs ls hP hD hS hl
  have hg1 := wd_inj (hD.sub is hn9 hs)
  exact K_callJ C hgg hgt hg1 hMW hlk (hM hg1) hd hc (pl_mem is hs) hfr hlo hst hn hcat hkc hks d kk H locs ls hP hD hS hl
end KR
def kX2_init_w (g : Gm) (h0 : Nat) (u : Nat × Nat × Nat × Nat × Nat × Nat) : va_W := match u with
  | (q6, q5, q4, q3, q2, q1) => [(h0, .inr (2, [.ref q1, .ref q2, .ref q3, .ref q4, .ref q5, .ref q6])), (q6, .inl (gca g 0, (12, .inl (fun _ => 0)))), (q5, .inl (gca g 0, (12, .inl (fun _ => 0)))), (q4, .inl (gca g 0, (12, .inl (fun _ => 0)))), (q3, .inl (gca g 0, (12, .inl (fun _ => 0)))), (q2, .inl (gca g 0, (12, .inl (fun _ => 0)))), (q1, .inl (gca g 0, (12, .inl (fun _ => 0))))]
set_option maxRecDepth 100000 in
set_option maxHeartbeats 8000000 in
theorem k_X2_init (l : Launch) (g : Gm) (h0 : Nat) : KJ l g yX2_init cX2_init 1 1 60 6 72 h0 [] (.inr (2, [.null, .null, .null, .null, .null, .null])) (kX2_init_w g h0) := by
  refine KJ_of (by decide) rfl rfl (Nat.le_of_ble_eq_true rfl) (lo := [(0, .ref h0)]) rfl (fun x A C I E hA0 hxl => ?_)
  obtain ⟨T0, eT0⟩ : ∃ z : va_W, z = [] := ⟨_, rfl⟩
  rw [show [(h0, (.inr (2, [.null, .null, .null, .null, .null, .null]) : va_E))] = ((h0, .inr (2, [.null, .null, .null, .null, .null, .null])) :: T0) from by rw [eT0]]
  refine K_aload_n C 0 dX2_init_0 rfl 0 rfl ?_
  refine K_objInit C ml_RX2_3 oi_i oi_c (Nat.le_of_ble_eq_true rfl) (Nat.le_of_ble_eq_true rfl) dX2_init_1 ?_
  refine K_aload_n C 0 dX2_init_4 rfl 0 rfl ?_
  refine K_bipush C dX2_init_5 (bp8 (by decide) (by decide)) ?_
  refine K_newarr C (atype := .int) (ty := .int) (n := 12) (t := 0) (a0 := (12, .inl (fun _ => 0))) (pre := [(h0, .inr (2, [.null, .null, .null, .null, .null, .null]))]) (tl := T0) ac_int rfl (fun _ h => by cases h) rfl (fun _ => rfl) (by decide) (by decide) (Nat.le_of_ble_eq_true rfl) (Nat.le_of_ble_eq_true rfl) rfl dX2_init_7 (fun q1 => ?_)
  obtain ⟨T1, eT1⟩ : ∃ z, z = (q1, .inl (gca g 0, (12, .inl (fun _ => 0)))) :: T0 := ⟨_, rfl⟩
  rw [show [(h0, .inr (2, [.null, .null, .null, .null, .null, .null]))] ++ (q1, .inl (gca g 0, (12, .inl (fun _ => 0)))) :: T0 = ((h0, .inr (2, [.null, .null, .null, .null, .null, .null])) :: T1) from by rw [eT1]; rfl]
  refine K_putF C I (i := 0) fl_RX2_9 fpf_RX2_0 rfl rfl rfl (Nat.le_of_ble_eq_true rfl) dX2_init_9 ?_
  show KW x g 1 A 1 12 ((h0, .inr (2, [.ref q1, .null, .null, .null, .null, .null])) :: T1) 12 [(0, .ref h0)] []
  refine K_aload_n C 0 dX2_init_12 rfl 0 rfl ?_
  refine K_bipush C dX2_init_13 (bp8 (by decide) (by decide)) ?_
  refine K_newarr C (atype := .int) (ty := .int) (n := 12) (t := 0) (a0 := (12, .inl (fun _ => 0))) (pre := [(h0, .inr (2, [.ref q1, .null, .null, .null, .null, .null]))]) (tl := T1) ac_int rfl (fun _ h => by cases h) rfl (fun _ => rfl) (by decide) (by decide) (Nat.le_of_ble_eq_true rfl) (Nat.le_of_ble_eq_true rfl) rfl dX2_init_15 (fun q2 => ?_)
  obtain ⟨T2, eT2⟩ : ∃ z, z = (q2, .inl (gca g 0, (12, .inl (fun _ => 0)))) :: T1 := ⟨_, rfl⟩
  rw [show [(h0, .inr (2, [.ref q1, .null, .null, .null, .null, .null]))] ++ (q2, .inl (gca g 0, (12, .inl (fun _ => 0)))) :: T1 = ((h0, .inr (2, [.ref q1, .null, .null, .null, .null, .null])) :: T2) from by rw [eT2]; rfl]
  refine K_putF C I (i := 0) fl_RX2_15 fpf_RX2_1 rfl rfl rfl (Nat.le_of_ble_eq_true rfl) dX2_init_17 ?_
  show KW x g 1 A 2 24 ((h0, .inr (2, [.ref q1, .ref q2, .null, .null, .null, .null])) :: T2) 20 [(0, .ref h0)] []
  refine K_aload_n C 0 dX2_init_20 rfl 0 rfl ?_
  refine K_bipush C dX2_init_21 (bp8 (by decide) (by decide)) ?_
  refine K_newarr C (atype := .int) (ty := .int) (n := 12) (t := 0) (a0 := (12, .inl (fun _ => 0))) (pre := [(h0, .inr (2, [.ref q1, .ref q2, .null, .null, .null, .null]))]) (tl := T2) ac_int rfl (fun _ h => by cases h) rfl (fun _ => rfl) (by decide) (by decide) (Nat.le_of_ble_eq_true rfl) (Nat.le_of_ble_eq_true rfl) rfl dX2_init_23 (fun q3 => ?_)
  obtain ⟨T3, eT3⟩ : ∃ z, z = (q3, .inl (gca g 0, (12, .inl (fun _ => 0)))) :: T2 := ⟨_, rfl⟩
  rw [show [(h0, .inr (2, [.ref q1, .ref q2, .null, .null, .null, .null]))] ++ (q3, .inl (gca g 0, (12, .inl (fun _ => 0)))) :: T2 = ((h0, .inr (2, [.ref q1, .ref q2, .null, .null, .null, .null])) :: T3) from by rw [eT3]; rfl]
  refine K_putF C I (i := 0) fl_RX2_18 fpf_RX2_2 rfl rfl rfl (Nat.le_of_ble_eq_true rfl) dX2_init_25 ?_
  show KW x g 1 A 3 36 ((h0, .inr (2, [.ref q1, .ref q2, .ref q3, .null, .null, .null])) :: T3) 28 [(0, .ref h0)] []
  refine K_aload_n C 0 dX2_init_28 rfl 0 rfl ?_
  refine K_bipush C dX2_init_29 (bp8 (by decide) (by decide)) ?_
  refine K_newarr C (atype := .int) (ty := .int) (n := 12) (t := 0) (a0 := (12, .inl (fun _ => 0))) (pre := [(h0, .inr (2, [.ref q1, .ref q2, .ref q3, .null, .null, .null]))]) (tl := T3) ac_int rfl (fun _ h => by cases h) rfl (fun _ => rfl) (by decide) (by decide) (Nat.le_of_ble_eq_true rfl) (Nat.le_of_ble_eq_true rfl) rfl dX2_init_31 (fun q4 => ?_)
  obtain ⟨T4, eT4⟩ : ∃ z, z = (q4, .inl (gca g 0, (12, .inl (fun _ => 0)))) :: T3 := ⟨_, rfl⟩
  rw [show [(h0, .inr (2, [.ref q1, .ref q2, .ref q3, .null, .null, .null]))] ++ (q4, .inl (gca g 0, (12, .inl (fun _ => 0)))) :: T3 = ((h0, .inr (2, [.ref q1, .ref q2, .ref q3, .null, .null, .null])) :: T4) from by rw [eT4]; rfl]
  refine K_putF C I (i := 0) fl_RX2_21 fpf_RX2_3 rfl rfl rfl (Nat.le_of_ble_eq_true rfl) dX2_init_33 ?_
  show KW x g 1 A 4 48 ((h0, .inr (2, [.ref q1, .ref q2, .ref q3, .ref q4, .null, .null])) :: T4) 36 [(0, .ref h0)] []
  refine K_aload_n C 0 dX2_init_36 rfl 0 rfl ?_
  refine K_bipush C dX2_init_37 (bp8 (by decide) (by decide)) ?_
  refine K_newarr C (atype := .int) (ty := .int) (n := 12) (t := 0) (a0 := (12, .inl (fun _ => 0))) (pre := [(h0, .inr (2, [.ref q1, .ref q2, .ref q3, .ref q4, .null, .null]))]) (tl := T4) ac_int rfl (fun _ h => by cases h) rfl (fun _ => rfl) (by decide) (by decide) (Nat.le_of_ble_eq_true rfl) (Nat.le_of_ble_eq_true rfl) rfl dX2_init_39 (fun q5 => ?_)
  obtain ⟨T5, eT5⟩ : ∃ z, z = (q5, .inl (gca g 0, (12, .inl (fun _ => 0)))) :: T4 := ⟨_, rfl⟩
  rw [show [(h0, .inr (2, [.ref q1, .ref q2, .ref q3, .ref q4, .null, .null]))] ++ (q5, .inl (gca g 0, (12, .inl (fun _ => 0)))) :: T4 = ((h0, .inr (2, [.ref q1, .ref q2, .ref q3, .ref q4, .null, .null])) :: T5) from by rw [eT5]; rfl]
  refine K_putF C I (i := 0) fl_RX2_24 fpf_RX2_4 rfl rfl rfl (Nat.le_of_ble_eq_true rfl) dX2_init_41 ?_
  show KW x g 1 A 5 60 ((h0, .inr (2, [.ref q1, .ref q2, .ref q3, .ref q4, .ref q5, .null])) :: T5) 44 [(0, .ref h0)] []
  refine K_aload_n C 0 dX2_init_44 rfl 0 rfl ?_
  refine K_bipush C dX2_init_45 (bp8 (by decide) (by decide)) ?_
  refine K_newarr C (atype := .int) (ty := .int) (n := 12) (t := 0) (a0 := (12, .inl (fun _ => 0))) (pre := [(h0, .inr (2, [.ref q1, .ref q2, .ref q3, .ref q4, .ref q5, .null]))]) (tl := T5) ac_int rfl (fun _ h => by cases h) rfl (fun _ => rfl) (by decide) (by decide) (Nat.le_of_ble_eq_true rfl) (Nat.le_of_ble_eq_true rfl) rfl dX2_init_47 (fun q6 => ?_)
  obtain ⟨T6, eT6⟩ : ∃ z, z = (q6, .inl (gca g 0, (12, .inl (fun _ => 0)))) :: T5 := ⟨_, rfl⟩
  rw [show [(h0, .inr (2, [.ref q1, .ref q2, .ref q3, .ref q4, .ref q5, .null]))] ++ (q6, .inl (gca g 0, (12, .inl (fun _ => 0)))) :: T5 = ((h0, .inr (2, [.ref q1, .ref q2, .ref q3, .ref q4, .ref q5, .null])) :: T6) from by rw [eT6]; rfl]
  refine K_putF C I (i := 0) fl_RX2_27 fpf_RX2_5 rfl rfl rfl (Nat.le_of_ble_eq_true rfl) dX2_init_49 ?_
  show KW x g 1 A 6 72 ((h0, .inr (2, [.ref q1, .ref q2, .ref q3, .ref q4, .ref q5, .ref q6])) :: T6) 52 [(0, .ref h0)] []
  subst eT6 eT5 eT4 eT3 eT2 eT1 eT0
  exact K_vret C E (q6, q5, q4, q3, q2, q1) (List.Perm.of_eq rfl) (Nat.le_of_ble_eq_true rfl) (Nat.le_of_ble_eq_true rfl) dX2_init_52
def kX0_init_w (g : Gm) (h0 : Nat) (u : Nat × Nat × Nat × Nat × Nat) : va_W := match u with
  | (q5, q4, q3, q2, q1) => [(h0, .inr (0, [.ref q1, .ref q2, .ref q3, .ref q4, .ref q5])), (q5, .inl (gca g 0, (96, .inl (fun _ => 0)))), (q4, .inl (gca g 0, (96, .inl (fun _ => 0)))), (q3, .inl (gca g 3, (96, .inl (fun _ => 0)))), (q2, .inl (gca g 0, (20, .inl (fun _ => 0)))), (q1, .inl (gca g 0, (20, .inl (fun _ => 0))))]
set_option maxRecDepth 100000 in
set_option maxHeartbeats 8000000 in
theorem k_X0_init (l : Launch) (g : Gm) (h0 : Nat) : KJ l g yX0_init cX0_init 1 1 60 5 328 h0 [] (.inr (0, [.null, .null, .null, .null, .null])) (kX0_init_w g h0) := by
  refine KJ_of (by decide) rfl rfl (Nat.le_of_ble_eq_true rfl) (lo := [(0, .ref h0)]) rfl (fun x A C I E hA0 hxl => ?_)
  obtain ⟨T0, eT0⟩ : ∃ z : va_W, z = [] := ⟨_, rfl⟩
  rw [show [(h0, (.inr (0, [.null, .null, .null, .null, .null]) : va_E))] = ((h0, .inr (0, [.null, .null, .null, .null, .null])) :: T0) from by rw [eT0]]
  refine K_aload_n C 0 dX0_init_0 rfl 0 rfl ?_
  refine K_objInit C ml_RX0_3 oi_i oi_c (Nat.le_of_ble_eq_true rfl) (Nat.le_of_ble_eq_true rfl) dX0_init_1 ?_
  refine K_aload_n C 0 dX0_init_4 rfl 0 rfl ?_
  refine K_bipush C dX0_init_5 (bp8 (by decide) (by decide)) ?_
  refine K_newarr C (atype := .int) (ty := .int) (n := 20) (t := 0) (a0 := (20, .inl (fun _ => 0))) (pre := [(h0, .inr (0, [.null, .null, .null, .null, .null]))]) (tl := T0) ac_int rfl (fun _ h => by cases h) rfl (fun _ => rfl) (by decide) (by decide) (Nat.le_of_ble_eq_true rfl) (Nat.le_of_ble_eq_true rfl) rfl dX0_init_7 (fun q1 => ?_)
  obtain ⟨T1, eT1⟩ : ∃ z, z = (q1, .inl (gca g 0, (20, .inl (fun _ => 0)))) :: T0 := ⟨_, rfl⟩
  rw [show [(h0, .inr (0, [.null, .null, .null, .null, .null]))] ++ (q1, .inl (gca g 0, (20, .inl (fun _ => 0)))) :: T0 = ((h0, .inr (0, [.null, .null, .null, .null, .null])) :: T1) from by rw [eT1]; rfl]
  refine K_putF C I (i := 0) fl_RX0_9 fpf_RX0_0 rfl rfl rfl (Nat.le_of_ble_eq_true rfl) dX0_init_9 ?_
  show KW x g 1 A 1 20 ((h0, .inr (0, [.ref q1, .null, .null, .null, .null])) :: T1) 12 [(0, .ref h0)] []
  refine K_aload_n C 0 dX0_init_12 rfl 0 rfl ?_
  refine K_bipush C dX0_init_13 (bp8 (by decide) (by decide)) ?_
  refine K_newarr C (atype := .int) (ty := .int) (n := 20) (t := 0) (a0 := (20, .inl (fun _ => 0))) (pre := [(h0, .inr (0, [.ref q1, .null, .null, .null, .null]))]) (tl := T1) ac_int rfl (fun _ h => by cases h) rfl (fun _ => rfl) (by decide) (by decide) (Nat.le_of_ble_eq_true rfl) (Nat.le_of_ble_eq_true rfl) rfl dX0_init_15 (fun q2 => ?_)
  obtain ⟨T2, eT2⟩ : ∃ z, z = (q2, .inl (gca g 0, (20, .inl (fun _ => 0)))) :: T1 := ⟨_, rfl⟩
  rw [show [(h0, .inr (0, [.ref q1, .null, .null, .null, .null]))] ++ (q2, .inl (gca g 0, (20, .inl (fun _ => 0)))) :: T1 = ((h0, .inr (0, [.ref q1, .null, .null, .null, .null])) :: T2) from by rw [eT2]; rfl]
  refine K_putF C I (i := 0) fl_RX0_15 fpf_RX0_1 rfl rfl rfl (Nat.le_of_ble_eq_true rfl) dX0_init_17 ?_
  show KW x g 1 A 2 40 ((h0, .inr (0, [.ref q1, .ref q2, .null, .null, .null])) :: T2) 20 [(0, .ref h0)] []
  refine K_aload_n C 0 dX0_init_20 rfl 0 rfl ?_
  refine K_bipush C dX0_init_21 (bp8 (by decide) (by decide)) ?_
  refine K_newarr C (atype := .boolean) (ty := .boolean) (n := 96) (t := 3) (a0 := (96, .inl (fun _ => 0))) (pre := [(h0, .inr (0, [.ref q1, .ref q2, .null, .null, .null]))]) (tl := T2) ac_boolean rfl (fun _ h => by cases h) rfl (fun _ => rfl) (by decide) (by decide) (Nat.le_of_ble_eq_true rfl) (Nat.le_of_ble_eq_true rfl) rfl dX0_init_23 (fun q3 => ?_)
  obtain ⟨T3, eT3⟩ : ∃ z, z = (q3, .inl (gca g 3, (96, .inl (fun _ => 0)))) :: T2 := ⟨_, rfl⟩
  rw [show [(h0, .inr (0, [.ref q1, .ref q2, .null, .null, .null]))] ++ (q3, .inl (gca g 3, (96, .inl (fun _ => 0)))) :: T2 = ((h0, .inr (0, [.ref q1, .ref q2, .null, .null, .null])) :: T3) from by rw [eT3]; rfl]
  refine K_putF C I (i := 0) fl_RX0_18 fpf_RX0_2 rfl rfl rfl (Nat.le_of_ble_eq_true rfl) dX0_init_25 ?_
  show KW x g 1 A 3 136 ((h0, .inr (0, [.ref q1, .ref q2, .ref q3, .null, .null])) :: T3) 28 [(0, .ref h0)] []
  refine K_aload_n C 0 dX0_init_28 rfl 0 rfl ?_
  refine K_bipush C dX0_init_29 (bp8 (by decide) (by decide)) ?_
  refine K_newarr C (atype := .int) (ty := .int) (n := 96) (t := 0) (a0 := (96, .inl (fun _ => 0))) (pre := [(h0, .inr (0, [.ref q1, .ref q2, .ref q3, .null, .null]))]) (tl := T3) ac_int rfl (fun _ h => by cases h) rfl (fun _ => rfl) (by decide) (by decide) (Nat.le_of_ble_eq_true rfl) (Nat.le_of_ble_eq_true rfl) rfl dX0_init_31 (fun q4 => ?_)
  obtain ⟨T4, eT4⟩ : ∃ z, z = (q4, .inl (gca g 0, (96, .inl (fun _ => 0)))) :: T3 := ⟨_, rfl⟩
  rw [show [(h0, .inr (0, [.ref q1, .ref q2, .ref q3, .null, .null]))] ++ (q4, .inl (gca g 0, (96, .inl (fun _ => 0)))) :: T3 = ((h0, .inr (0, [.ref q1, .ref q2, .ref q3, .null, .null])) :: T4) from by rw [eT4]; rfl]
  refine K_putF C I (i := 0) fl_RX0_22 fpf_RX0_3 rfl rfl rfl (Nat.le_of_ble_eq_true rfl) dX0_init_33 ?_
  show KW x g 1 A 4 232 ((h0, .inr (0, [.ref q1, .ref q2, .ref q3, .ref q4, .null])) :: T4) 36 [(0, .ref h0)] []
  refine K_aload_n C 0 dX0_init_36 rfl 0 rfl ?_
  refine K_bipush C dX0_init_37 (bp8 (by decide) (by decide)) ?_
  refine K_newarr C (atype := .int) (ty := .int) (n := 96) (t := 0) (a0 := (96, .inl (fun _ => 0))) (pre := [(h0, .inr (0, [.ref q1, .ref q2, .ref q3, .ref q4, .null]))]) (tl := T4) ac_int rfl (fun _ h => by cases h) rfl (fun _ => rfl) (by decide) (by decide) (Nat.le_of_ble_eq_true rfl) (Nat.le_of_ble_eq_true rfl) rfl dX0_init_39 (fun q5 => ?_)
  obtain ⟨T5, eT5⟩ : ∃ z, z = (q5, .inl (gca g 0, (96, .inl (fun _ => 0)))) :: T4 := ⟨_, rfl⟩
  rw [show [(h0, .inr (0, [.ref q1, .ref q2, .ref q3, .ref q4, .null]))] ++ (q5, .inl (gca g 0, (96, .inl (fun _ => 0)))) :: T4 = ((h0, .inr (0, [.ref q1, .ref q2, .ref q3, .ref q4, .null])) :: T5) from by rw [eT5]; rfl]
  refine K_putF C I (i := 0) fl_RX0_25 fpf_RX0_4 rfl rfl rfl (Nat.le_of_ble_eq_true rfl) dX0_init_41 ?_
  show KW x g 1 A 5 328 ((h0, .inr (0, [.ref q1, .ref q2, .ref q3, .ref q4, .ref q5])) :: T5) 44 [(0, .ref h0)] []
  subst eT5 eT4 eT3 eT2 eT1 eT0
  exact K_vret C E (q5, q4, q3, q2, q1) (List.Perm.of_eq rfl) (Nat.le_of_ble_eq_true rfl) (Nat.le_of_ble_eq_true rfl) dX0_init_44
def kX8_init_w (g : Gm) (h0 : Nat) (u : Nat × Nat × Nat × Nat × Nat × Nat × Nat × Nat × Nat × Nat × Nat × Nat × Nat × Nat × Nat × Nat × Nat) : va_W := match u with
  | (q12, q13, q14, q15, q16, q17, q5, q6, q7, q8, q9, q10, q11, q4, q3, q2, q1) => [(h0, .inr (8, [.ref q1, .ref q2, .ref q3, .ref q4, .ref q5, .ref q12])), (q12, .inr (0, [.ref q17, .ref q16, .ref q15, .ref q14, .ref q13])), (q13, .inl (gca g 0, (96, .inl (fun _ => 0)))), (q14, .inl (gca g 0, (96, .inl (fun _ => 0)))), (q15, .inl (gca g 3, (96, .inl (fun _ => 0)))), (q16, .inl (gca g 0, (20, .inl (fun _ => 0)))), (q17, .inl (gca g 0, (20, .inl (fun _ => 0)))), (q5, .inr (2, [.ref q11, .ref q10, .ref q9, .ref q8, .ref q7, .ref q6])), (q6, .inl (gca g 0, (12, .inl (fun _ => 0)))), (q7, .inl (gca g 0, (12, .inl (fun _ => 0)))), (q8, .inl (gca g 0, (12, .inl (fun _ => 0)))), (q9, .inl (gca g 0, (12, .inl (fun _ => 0)))), (q10, .inl (gca g 0, (12, .inl (fun _ => 0)))), (q11, .inl (gca g 0, (12, .inl (fun _ => 0)))), (q4, .inl (gca g 0, (6, .inl (fun _ => 0)))), (q3, .inl (gca g 0, (6, .inl (fun _ => 0)))), (q2, .inl (gca g 0, (6, .inl (fun _ => 0)))), (q1, .inl (gca g 2, (1024, .inl (fun _ => 0))))]
set_option maxRecDepth 100000 in
set_option maxHeartbeats 8000000 in
theorem k_X8_init (l : Launch) (g : Gm) (h0 : Nat) : KJ l g yX8_init cX8_init 1 2 80 17 1453 h0 [] (.inr (8, [.null, .null, .null, .null, .null, .null])) (kX8_init_w g h0) := by
  refine KJ_of (by decide) rfl rfl (Nat.le_of_ble_eq_true rfl) (lo := [(0, .ref h0)]) rfl (fun x A C I E hA0 hxl => ?_)
  obtain ⟨T0, eT0⟩ : ∃ z : va_W, z = [] := ⟨_, rfl⟩
  rw [show [(h0, (.inr (8, [.null, .null, .null, .null, .null, .null]) : va_E))] = ((h0, .inr (8, [.null, .null, .null, .null, .null, .null])) :: T0) from by rw [eT0]]
  refine K_aload_n C 0 dX8_init_0 rfl 0 rfl ?_
  refine K_objInit C ml_RX8_3 oi_i oi_c (Nat.le_of_ble_eq_true rfl) (Nat.le_of_ble_eq_true rfl) dX8_init_1 ?_
  refine K_aload_n C 0 dX8_init_4 rfl 0 rfl ?_
  refine K_sipush C dX8_init_5 (bp16 (by decide) (by decide)) ?_
  refine K_newarr C (atype := .byte) (ty := .byte) (n := 1024) (t := 2) (a0 := (1024, .inl (fun _ => 0))) (pre := [(h0, .inr (8, [.null, .null, .null, .null, .null, .null]))]) (tl := T0) ac_byte rfl (fun _ h => by cases h) rfl (fun _ => rfl) (by decide) (by decide) (Nat.le_of_ble_eq_true rfl) (Nat.le_of_ble_eq_true rfl) rfl dX8_init_8 (fun q1 => ?_)
  obtain ⟨T1, eT1⟩ : ∃ z, z = (q1, .inl (gca g 2, (1024, .inl (fun _ => 0)))) :: T0 := ⟨_, rfl⟩
  rw [show [(h0, .inr (8, [.null, .null, .null, .null, .null, .null]))] ++ (q1, .inl (gca g 2, (1024, .inl (fun _ => 0)))) :: T0 = ((h0, .inr (8, [.null, .null, .null, .null, .null, .null])) :: T1) from by rw [eT1]; rfl]
  refine K_putF C I (i := 0) fl_RX8_9 fpf_RX8_0 rfl rfl rfl (Nat.le_of_ble_eq_true rfl) dX8_init_10 ?_
  show KW x g 1 A 1 1024 ((h0, .inr (8, [.ref q1, .null, .null, .null, .null, .null])) :: T1) 13 [(0, .ref h0)] []
  refine K_aload_n C 0 dX8_init_13 rfl 0 rfl ?_
  refine K_bipush C dX8_init_14 (bp8 (by decide) (by decide)) ?_
  refine K_newarr C (atype := .int) (ty := .int) (n := 6) (t := 0) (a0 := (6, .inl (fun _ => 0))) (pre := [(h0, .inr (8, [.ref q1, .null, .null, .null, .null, .null]))]) (tl := T1) ac_int rfl (fun _ h => by cases h) rfl (fun _ => rfl) (by decide) (by decide) (Nat.le_of_ble_eq_true rfl) (Nat.le_of_ble_eq_true rfl) rfl dX8_init_16 (fun q2 => ?_)
  obtain ⟨T2, eT2⟩ : ∃ z, z = (q2, .inl (gca g 0, (6, .inl (fun _ => 0)))) :: T1 := ⟨_, rfl⟩
  rw [show [(h0, .inr (8, [.ref q1, .null, .null, .null, .null, .null]))] ++ (q2, .inl (gca g 0, (6, .inl (fun _ => 0)))) :: T1 = ((h0, .inr (8, [.ref q1, .null, .null, .null, .null, .null])) :: T2) from by rw [eT2]; rfl]
  refine K_putF C I (i := 0) fl_RX8_15 fpf_RX8_1 rfl rfl rfl (Nat.le_of_ble_eq_true rfl) dX8_init_18 ?_
  show KW x g 1 A 2 1030 ((h0, .inr (8, [.ref q1, .ref q2, .null, .null, .null, .null])) :: T2) 21 [(0, .ref h0)] []
  refine K_aload_n C 0 dX8_init_21 rfl 0 rfl ?_
  refine K_bipush C dX8_init_22 (bp8 (by decide) (by decide)) ?_
  refine K_newarr C (atype := .int) (ty := .int) (n := 6) (t := 0) (a0 := (6, .inl (fun _ => 0))) (pre := [(h0, .inr (8, [.ref q1, .ref q2, .null, .null, .null, .null]))]) (tl := T2) ac_int rfl (fun _ h => by cases h) rfl (fun _ => rfl) (by decide) (by decide) (Nat.le_of_ble_eq_true rfl) (Nat.le_of_ble_eq_true rfl) rfl dX8_init_24 (fun q3 => ?_)
  obtain ⟨T3, eT3⟩ : ∃ z, z = (q3, .inl (gca g 0, (6, .inl (fun _ => 0)))) :: T2 := ⟨_, rfl⟩
  rw [show [(h0, .inr (8, [.ref q1, .ref q2, .null, .null, .null, .null]))] ++ (q3, .inl (gca g 0, (6, .inl (fun _ => 0)))) :: T2 = ((h0, .inr (8, [.ref q1, .ref q2, .null, .null, .null, .null])) :: T3) from by rw [eT3]; rfl]
  refine K_putF C I (i := 0) fl_RX8_19 fpf_RX8_2 rfl rfl rfl (Nat.le_of_ble_eq_true rfl) dX8_init_26 ?_
  show KW x g 1 A 3 1036 ((h0, .inr (8, [.ref q1, .ref q2, .ref q3, .null, .null, .null])) :: T3) 29 [(0, .ref h0)] []
  refine K_aload_n C 0 dX8_init_29 rfl 0 rfl ?_
  refine K_bipush C dX8_init_30 (bp8 (by decide) (by decide)) ?_
  refine K_newarr C (atype := .int) (ty := .int) (n := 6) (t := 0) (a0 := (6, .inl (fun _ => 0))) (pre := [(h0, .inr (8, [.ref q1, .ref q2, .ref q3, .null, .null, .null]))]) (tl := T3) ac_int rfl (fun _ h => by cases h) rfl (fun _ => rfl) (by decide) (by decide) (Nat.le_of_ble_eq_true rfl) (Nat.le_of_ble_eq_true rfl) rfl dX8_init_32 (fun q4 => ?_)
  obtain ⟨T4, eT4⟩ : ∃ z, z = (q4, .inl (gca g 0, (6, .inl (fun _ => 0)))) :: T3 := ⟨_, rfl⟩
  rw [show [(h0, .inr (8, [.ref q1, .ref q2, .ref q3, .null, .null, .null]))] ++ (q4, .inl (gca g 0, (6, .inl (fun _ => 0)))) :: T3 = ((h0, .inr (8, [.ref q1, .ref q2, .ref q3, .null, .null, .null])) :: T4) from by rw [eT4]; rfl]
  refine K_putF C I (i := 0) fl_RX8_22 fpf_RX8_3 rfl rfl rfl (Nat.le_of_ble_eq_true rfl) dX8_init_34 ?_
  show KW x g 1 A 4 1042 ((h0, .inr (8, [.ref q1, .ref q2, .ref q3, .ref q4, .null, .null])) :: T4) 37 [(0, .ref h0)] []
  refine K_aload_n C 0 dX8_init_37 rfl 0 rfl ?_
  refine K_new C (ci := 2) (fs := [.null, .null, .null, .null, .null, .null]) (pre := [(h0, .inr (8, [.ref q1, .ref q2, .ref q3, .ref q4, .null, .null]))]) (tl := T4) inW_RX2 tyX2 tyX2_ok cl_RX8_25 is_RX2 in_RX2 rfl nf_RX2 (Nat.le_of_ble_eq_true rfl) (Nat.le_of_ble_eq_true rfl) rfl dX8_init_38 (fun q5 => ?_)
  show KW x g 1 A 5 1048 ((h0, .inr (8, [.ref q1, .ref q2, .ref q3, .ref q4, .null, .null])) :: (q5, .inr (2, [.null, .null, .null, .null, .null, .null])) :: T4) 41 [(0, .ref h0)] [.ref q5, .ref h0]
  refine K_dup C rfl dX8_init_41 ?_
  refine K_initN C mwi_X2_init rfl (nest_in 1 rfl) (k_X2_init x.2.1 g q5) (pre := [(h0, .inr (8, [.ref q1, .ref q2, .ref q3, .ref q4, .null, .null]))]) (tl := T4) rfl (Nat.le_of_ble_eq_true rfl) (Nat.le_of_ble_eq_true rfl) rfl rfl (Nat.le_of_ble_eq_true rfl) (Nat.le_of_ble_eq_true rfl) (Nat.le_of_ble_eq_true rfl) dX8_init_42 (fun u => ?_)
  obtain ⟨q6, q7, q8, q9, q10, q11⟩ := u
  obtain ⟨T5, eT5⟩ : ∃ z, z = [(q5, .inr (2, [.ref q11, .ref q10, .ref q9, .ref q8, .ref q7, .ref q6])), (q6, .inl (gca g 0, (12, .inl (fun _ => 0)))), (q7, .inl (gca g 0, (12, .inl (fun _ => 0)))), (q8, .inl (gca g 0, (12, .inl (fun _ => 0)))), (q9, .inl (gca g 0, (12, .inl (fun _ => 0)))), (q10, .inl (gca g 0, (12, .inl (fun _ => 0)))), (q11, .inl (gca g 0, (12, .inl (fun _ => 0))))] ++ T4 := ⟨_, rfl⟩
  rw [show [(h0, .inr (8, [.ref q1, .ref q2, .ref q3, .ref q4, .null, .null]))] ++ (kX2_init_w g q5 (q6, q7, q8, q9, q10, q11) ++ T4) = ((h0, .inr (8, [.ref q1, .ref q2, .ref q3, .ref q4, .null, .null])) :: T5) from by rw [eT5]; rfl]
  refine K_putF C I (i := 0) fl_RX8_28 fpf_RX8_4 rfl rfl rfl (Nat.le_of_ble_eq_true rfl) dX8_init_45 ?_
  show KW x g 1 A 11 1120 ((h0, .inr (8, [.ref q1, .ref q2, .ref q3, .ref q4, .ref q5, .null])) :: T5) 48 [(0, .ref h0)] []
  refine K_aload_n C 0 dX8_init_48 rfl 0 rfl ?_
  refine K_new C (ci := 0) (fs := [.null, .null, .null, .null, .null]) (pre := [(h0, .inr (8, [.ref q1, .ref q2, .ref q3, .ref q4, .ref q5, .null]))]) (tl := T5) inW_RX0 tyX0 tyX0_ok cl_RX8_32 is_RX0 in_RX0 rfl nf_RX0 (Nat.le_of_ble_eq_true rfl) (Nat.le_of_ble_eq_true rfl) rfl dX8_init_49 (fun q12 => ?_)
  show KW x g 1 A 12 1125 ((h0, .inr (8, [.ref q1, .ref q2, .ref q3, .ref q4, .ref q5, .null])) :: (q12, .inr (0, [.null, .null, .null, .null, .null])) :: T5) 52 [(0, .ref h0)] [.ref q12, .ref h0]
  refine K_dup C rfl dX8_init_52 ?_
  refine K_initN C mwi_X0_init rfl (nest_in 2 rfl) (k_X0_init x.2.1 g q12) (pre := [(h0, .inr (8, [.ref q1, .ref q2, .ref q3, .ref q4, .ref q5, .null]))]) (tl := T5) rfl (Nat.le_of_ble_eq_true rfl) (Nat.le_of_ble_eq_true rfl) rfl rfl (Nat.le_of_ble_eq_true rfl) (Nat.le_of_ble_eq_true rfl) (Nat.le_of_ble_eq_true rfl) dX8_init_53 (fun u => ?_)
  obtain ⟨q13, q14, q15, q16, q17⟩ := u
  obtain ⟨T6, eT6⟩ : ∃ z, z = [(q12, .inr (0, [.ref q17, .ref q16, .ref q15, .ref q14, .ref q13])), (q13, .inl (gca g 0, (96, .inl (fun _ => 0)))), (q14, .inl (gca g 0, (96, .inl (fun _ => 0)))), (q15, .inl (gca g 3, (96, .inl (fun _ => 0)))), (q16, .inl (gca g 0, (20, .inl (fun _ => 0)))), (q17, .inl (gca g 0, (20, .inl (fun _ => 0))))] ++ T5 := ⟨_, rfl⟩
  rw [show [(h0, .inr (8, [.ref q1, .ref q2, .ref q3, .ref q4, .ref q5, .null]))] ++ (kX0_init_w g q12 (q13, q14, q15, q16, q17) ++ T5) = ((h0, .inr (8, [.ref q1, .ref q2, .ref q3, .ref q4, .ref q5, .null])) :: T6) from by rw [eT6]; rfl]
  refine K_putF C I (i := 0) fl_RX8_35 fpf_RX8_5 rfl rfl rfl (Nat.le_of_ble_eq_true rfl) dX8_init_56 ?_
  show KW x g 1 A 17 1453 ((h0, .inr (8, [.ref q1, .ref q2, .ref q3, .ref q4, .ref q5, .ref q12])) :: T6) 59 [(0, .ref h0)] []
  subst eT6 eT5 eT4 eT3 eT2 eT1 eT0
  exact K_vret C E (q12, q13, q14, q15, q16, q17, q5, q6, q7, q8, q9, q10, q11, q4, q3, q2, q1) (List.Perm.of_eq rfl) (Nat.le_of_ble_eq_true rfl) (Nat.le_of_ble_eq_true rfl) dX8_init_59
def kX1_init_w (g : Gm) (h0 : Nat) (u : Nat × Nat × Nat × Nat) : va_W := match u with
  | (q4, q3, q2, q1) => [(h0, .inr (1, [.ref q1, .ref q2, .ref q3, .ref q4, .int 0])), (q4, .inl (gca g 0, (120, .inl (fun _ => 0)))), (q3, .inl (gca g 0, (120, .inl (fun _ => 0)))), (q2, .inl (gca g 0, (120, .inl (fun _ => 0)))), (q1, .inl (gca g 0, (120, .inl (fun _ => 0))))]
set_option maxRecDepth 100000 in
set_option maxHeartbeats 8000000 in
theorem k_X1_init (l : Launch) (g : Gm) (h0 : Nat) : KJ l g yX1_init cX1_init 1 1 60 4 480 h0 [] (.inr (1, [.null, .null, .null, .null, .int 0])) (kX1_init_w g h0) := by
  refine KJ_of (by decide) rfl rfl (Nat.le_of_ble_eq_true rfl) (lo := [(0, .ref h0)]) rfl (fun x A C I E hA0 hxl => ?_)
  obtain ⟨T0, eT0⟩ : ∃ z : va_W, z = [] := ⟨_, rfl⟩
  rw [show [(h0, (.inr (1, [.null, .null, .null, .null, .int 0]) : va_E))] = ((h0, .inr (1, [.null, .null, .null, .null, .int 0])) :: T0) from by rw [eT0]]
  refine K_aload_n C 0 dX1_init_0 rfl 0 rfl ?_
  refine K_objInit C ml_RX1_3 oi_i oi_c (Nat.le_of_ble_eq_true rfl) (Nat.le_of_ble_eq_true rfl) dX1_init_1 ?_
  refine K_aload_n C 0 dX1_init_4 rfl 0 rfl ?_
  refine K_bipush C dX1_init_5 (bp8 (by decide) (by decide)) ?_
  refine K_newarr C (atype := .int) (ty := .int) (n := 120) (t := 0) (a0 := (120, .inl (fun _ => 0))) (pre := [(h0, .inr (1, [.null, .null, .null, .null, .int 0]))]) (tl := T0) ac_int rfl (fun _ h => by cases h) rfl (fun _ => rfl) (by decide) (by decide) (Nat.le_of_ble_eq_true rfl) (Nat.le_of_ble_eq_true rfl) rfl dX1_init_7 (fun q1 => ?_)
  obtain ⟨T1, eT1⟩ : ∃ z, z = (q1, .inl (gca g 0, (120, .inl (fun _ => 0)))) :: T0 := ⟨_, rfl⟩
  rw [show [(h0, .inr (1, [.null, .null, .null, .null, .int 0]))] ++ (q1, .inl (gca g 0, (120, .inl (fun _ => 0)))) :: T0 = ((h0, .inr (1, [.null, .null, .null, .null, .int 0])) :: T1) from by rw [eT1]; rfl]
  refine K_putF C I (i := 0) fl_RX1_9 fpf_RX1_0 rfl rfl rfl (Nat.le_of_ble_eq_true rfl) dX1_init_9 ?_
  show KW x g 1 A 1 120 ((h0, .inr (1, [.ref q1, .null, .null, .null, .int 0])) :: T1) 12 [(0, .ref h0)] []
  refine K_aload_n C 0 dX1_init_12 rfl 0 rfl ?_
  refine K_bipush C dX1_init_13 (bp8 (by decide) (by decide)) ?_
  refine K_newarr C (atype := .int) (ty := .int) (n := 120) (t := 0) (a0 := (120, .inl (fun _ => 0))) (pre := [(h0, .inr (1, [.ref q1, .null, .null, .null, .int 0]))]) (tl := T1) ac_int rfl (fun _ h => by cases h) rfl (fun _ => rfl) (by decide) (by decide) (Nat.le_of_ble_eq_true rfl) (Nat.le_of_ble_eq_true rfl) rfl dX1_init_15 (fun q2 => ?_)
  obtain ⟨T2, eT2⟩ : ∃ z, z = (q2, .inl (gca g 0, (120, .inl (fun _ => 0)))) :: T1 := ⟨_, rfl⟩
  rw [show [(h0, .inr (1, [.ref q1, .null, .null, .null, .int 0]))] ++ (q2, .inl (gca g 0, (120, .inl (fun _ => 0)))) :: T1 = ((h0, .inr (1, [.ref q1, .null, .null, .null, .int 0])) :: T2) from by rw [eT2]; rfl]
  refine K_putF C I (i := 0) fl_RX1_15 fpf_RX1_1 rfl rfl rfl (Nat.le_of_ble_eq_true rfl) dX1_init_17 ?_
  show KW x g 1 A 2 240 ((h0, .inr (1, [.ref q1, .ref q2, .null, .null, .int 0])) :: T2) 20 [(0, .ref h0)] []
  refine K_aload_n C 0 dX1_init_20 rfl 0 rfl ?_
  refine K_bipush C dX1_init_21 (bp8 (by decide) (by decide)) ?_
  refine K_newarr C (atype := .int) (ty := .int) (n := 120) (t := 0) (a0 := (120, .inl (fun _ => 0))) (pre := [(h0, .inr (1, [.ref q1, .ref q2, .null, .null, .int 0]))]) (tl := T2) ac_int rfl (fun _ h => by cases h) rfl (fun _ => rfl) (by decide) (by decide) (Nat.le_of_ble_eq_true rfl) (Nat.le_of_ble_eq_true rfl) rfl dX1_init_23 (fun q3 => ?_)
  obtain ⟨T3, eT3⟩ : ∃ z, z = (q3, .inl (gca g 0, (120, .inl (fun _ => 0)))) :: T2 := ⟨_, rfl⟩
  rw [show [(h0, .inr (1, [.ref q1, .ref q2, .null, .null, .int 0]))] ++ (q3, .inl (gca g 0, (120, .inl (fun _ => 0)))) :: T2 = ((h0, .inr (1, [.ref q1, .ref q2, .null, .null, .int 0])) :: T3) from by rw [eT3]; rfl]
  refine K_putF C I (i := 0) fl_RX1_18 fpf_RX1_2 rfl rfl rfl (Nat.le_of_ble_eq_true rfl) dX1_init_25 ?_
  show KW x g 1 A 3 360 ((h0, .inr (1, [.ref q1, .ref q2, .ref q3, .null, .int 0])) :: T3) 28 [(0, .ref h0)] []
  refine K_aload_n C 0 dX1_init_28 rfl 0 rfl ?_
  refine K_bipush C dX1_init_29 (bp8 (by decide) (by decide)) ?_
  refine K_newarr C (atype := .int) (ty := .int) (n := 120) (t := 0) (a0 := (120, .inl (fun _ => 0))) (pre := [(h0, .inr (1, [.ref q1, .ref q2, .ref q3, .null, .int 0]))]) (tl := T3) ac_int rfl (fun _ h => by cases h) rfl (fun _ => rfl) (by decide) (by decide) (Nat.le_of_ble_eq_true rfl) (Nat.le_of_ble_eq_true rfl) rfl dX1_init_31 (fun q4 => ?_)
  obtain ⟨T4, eT4⟩ : ∃ z, z = (q4, .inl (gca g 0, (120, .inl (fun _ => 0)))) :: T3 := ⟨_, rfl⟩
  rw [show [(h0, .inr (1, [.ref q1, .ref q2, .ref q3, .null, .int 0]))] ++ (q4, .inl (gca g 0, (120, .inl (fun _ => 0)))) :: T3 = ((h0, .inr (1, [.ref q1, .ref q2, .ref q3, .null, .int 0])) :: T4) from by rw [eT4]; rfl]
  refine K_putF C I (i := 0) fl_RX1_21 fpf_RX1_3 rfl rfl rfl (Nat.le_of_ble_eq_true rfl) dX1_init_33 ?_
  show KW x g 1 A 4 480 ((h0, .inr (1, [.ref q1, .ref q2, .ref q3, .ref q4, .int 0])) :: T4) 36 [(0, .ref h0)] []
  subst eT4 eT3 eT2 eT1 eT0
  exact K_vret C E (q4, q3, q2, q1) (List.Perm.of_eq rfl) (Nat.le_of_ble_eq_true rfl) (Nat.le_of_ble_eq_true rfl) dX1_init_36
def kX6_init_w (g : Gm) (h0 p1 : Nat) (u : Nat × Nat × Nat × Nat × Nat × Nat × Nat) : va_W := match u with
  | (q7, q6, q1, q2, q3, q4, q5) => [(h0, .inr (6, [.ref p1, .ref q1, .ref q6, .ref q7, .int 0, .int 0, .int 0])), (q7, .inl (gca g 0, (3, .inl (fun _ => 0)))), (q6, .inl (gca g 0, (3, .inl (fun _ => 0)))), (q1, .inr (1, [.ref q5, .ref q4, .ref q3, .ref q2, .int 0])), (q2, .inl (gca g 0, (120, .inl (fun _ => 0)))), (q3, .inl (gca g 0, (120, .inl (fun _ => 0)))), (q4, .inl (gca g 0, (120, .inl (fun _ => 0)))), (q5, .inl (gca g 0, (120, .inl (fun _ => 0))))]
set_option maxRecDepth 100000 in
set_option maxHeartbeats 8000000 in
theorem k_X6_init (l : Launch) (g : Gm) (h0 p1 : Nat) : KJ l g yX6_init cX6_init 2 2 80 7 491 h0 [.ref p1] (.inr (6, [.null, .null, .null, .null, .int 0, .int 0, .int 0])) (kX6_init_w g h0 p1) := by
  refine KJ_of (by decide) rfl rfl (Nat.le_of_ble_eq_true rfl) (lo := [(0, .ref h0), (1, .ref p1)]) rfl (fun x A C I E hA0 hxl => ?_)
  obtain ⟨T0, eT0⟩ : ∃ z : va_W, z = [] := ⟨_, rfl⟩
  rw [show [(h0, (.inr (6, [.null, .null, .null, .null, .int 0, .int 0, .int 0]) : va_E))] = ((h0, .inr (6, [.null, .null, .null, .null, .int 0, .int 0, .int 0])) :: T0) from by rw [eT0]]
  refine K_aload_n C 0 dX6_init_0 rfl 0 rfl ?_
  refine K_objInit C ml_RX6_3 oi_i oi_c (Nat.le_of_ble_eq_true rfl) (Nat.le_of_ble_eq_true rfl) dX6_init_1 ?_
  refine K_aload_n C 0 dX6_init_4 rfl 0 rfl ?_
  refine K_new C (ci := 1) (fs := [.null, .null, .null, .null, .int 0]) (pre := [(h0, .inr (6, [.null, .null, .null, .null, .int 0, .int 0, .int 0]))]) (tl := T0) inW_RX1 tyX1 tyX1_ok cl_RX6_9 is_RX1 in_RX1 rfl nf_RX1 (Nat.le_of_ble_eq_true rfl) (Nat.le_of_ble_eq_true rfl) rfl dX6_init_5 (fun q1 => ?_)
  show KW x g 2 A 1 5 ((h0, .inr (6, [.null, .null, .null, .null, .int 0, .int 0, .int 0])) :: (q1, .inr (1, [.null, .null, .null, .null, .int 0])) :: T0) 8 [(0, .ref h0), (1, .ref p1)] [.ref q1, .ref h0]
  refine K_dup C rfl dX6_init_8 ?_
  refine K_initN C mwi_X1_init rfl (nest_in 4 rfl) (k_X1_init x.2.1 g q1) (pre := [(h0, .inr (6, [.null, .null, .null, .null, .int 0, .int 0, .int 0]))]) (tl := T0) rfl (Nat.le_of_ble_eq_true rfl) (Nat.le_of_ble_eq_true rfl) rfl rfl (Nat.le_of_ble_eq_true rfl) (Nat.le_of_ble_eq_true rfl) (Nat.le_of_ble_eq_true rfl) dX6_init_9 (fun u => ?_)
  obtain ⟨q2, q3, q4, q5⟩ := u
  obtain ⟨T1, eT1⟩ : ∃ z, z = [(q1, .inr (1, [.ref q5, .ref q4, .ref q3, .ref q2, .int 0])), (q2, .inl (gca g 0, (120, .inl (fun _ => 0)))), (q3, .inl (gca g 0, (120, .inl (fun _ => 0)))), (q4, .inl (gca g 0, (120, .inl (fun _ => 0)))), (q5, .inl (gca g 0, (120, .inl (fun _ => 0))))] ++ T0 := ⟨_, rfl⟩
  rw [show [(h0, .inr (6, [.null, .null, .null, .null, .int 0, .int 0, .int 0]))] ++ (kX1_init_w g q1 (q2, q3, q4, q5) ++ T0) = ((h0, .inr (6, [.null, .null, .null, .null, .int 0, .int 0, .int 0])) :: T1) from by rw [eT1]; rfl]
  refine K_putF C I (i := 0) fl_RX6_12 fpf_RX6_1 rfl rfl rfl (Nat.le_of_ble_eq_true rfl) dX6_init_12 ?_
  show KW x g 2 A 5 485 ((h0, .inr (6, [.null, .ref q1, .null, .null, .int 0, .int 0, .int 0])) :: T1) 15 [(0, .ref h0), (1, .ref p1)] []
  refine K_aload_n C 0 dX6_init_15 rfl 0 rfl ?_
  refine K_iconst C dX6_init_16 ?_
  refine K_newarr C (atype := .int) (ty := .int) (n := 3) (t := 0) (a0 := (3, .inl (fun _ => 0))) (pre := [(h0, .inr (6, [.null, .ref q1, .null, .null, .int 0, .int 0, .int 0]))]) (tl := T1) ac_int rfl (fun _ h => by cases h) rfl (fun _ => rfl) (by decide) (by decide) (Nat.le_of_ble_eq_true rfl) (Nat.le_of_ble_eq_true rfl) rfl dX6_init_17 (fun q6 => ?_)
  obtain ⟨T2, eT2⟩ : ∃ z, z = (q6, .inl (gca g 0, (3, .inl (fun _ => 0)))) :: T1 := ⟨_, rfl⟩
  rw [show [(h0, .inr (6, [.null, .ref q1, .null, .null, .int 0, .int 0, .int 0]))] ++ (q6, .inl (gca g 0, (3, .inl (fun _ => 0)))) :: T1 = ((h0, .inr (6, [.null, .ref q1, .null, .null, .int 0, .int 0, .int 0])) :: T2) from by rw [eT2]; rfl]
  refine K_putF C I (i := 0) fl_RX6_18 fpf_RX6_2 rfl rfl rfl (Nat.le_of_ble_eq_true rfl) dX6_init_19 ?_
  show KW x g 2 A 6 488 ((h0, .inr (6, [.null, .ref q1, .ref q6, .null, .int 0, .int 0, .int 0])) :: T2) 22 [(0, .ref h0), (1, .ref p1)] []
  refine K_aload_n C 0 dX6_init_22 rfl 0 rfl ?_
  refine K_iconst C dX6_init_23 ?_
  refine K_newarr C (atype := .int) (ty := .int) (n := 3) (t := 0) (a0 := (3, .inl (fun _ => 0))) (pre := [(h0, .inr (6, [.null, .ref q1, .ref q6, .null, .int 0, .int 0, .int 0]))]) (tl := T2) ac_int rfl (fun _ h => by cases h) rfl (fun _ => rfl) (by decide) (by decide) (Nat.le_of_ble_eq_true rfl) (Nat.le_of_ble_eq_true rfl) rfl dX6_init_24 (fun q7 => ?_)
  obtain ⟨T3, eT3⟩ : ∃ z, z = (q7, .inl (gca g 0, (3, .inl (fun _ => 0)))) :: T2 := ⟨_, rfl⟩
  rw [show [(h0, .inr (6, [.null, .ref q1, .ref q6, .null, .int 0, .int 0, .int 0]))] ++ (q7, .inl (gca g 0, (3, .inl (fun _ => 0)))) :: T2 = ((h0, .inr (6, [.null, .ref q1, .ref q6, .null, .int 0, .int 0, .int 0])) :: T3) from by rw [eT3]; rfl]
  refine K_putF C I (i := 0) fl_RX6_22 fpf_RX6_3 rfl rfl rfl (Nat.le_of_ble_eq_true rfl) dX6_init_26 ?_
  show KW x g 2 A 7 491 ((h0, .inr (6, [.null, .ref q1, .ref q6, .ref q7, .int 0, .int 0, .int 0])) :: T3) 29 [(0, .ref h0), (1, .ref p1)] []
  refine K_aload_n C 0 dX6_init_29 rfl 0 rfl ?_
  refine K_aload_n C 1 dX6_init_30 rfl 1 rfl ?_
  refine K_putF C I (i := 0) fl_RX6_25 fpf_RX6_0 rfl rfl rfl (Nat.le_of_ble_eq_true rfl) dX6_init_31 ?_
  show KW x g 2 A 7 491 ((h0, .inr (6, [.ref p1, .ref q1, .ref q6, .ref q7, .int 0, .int 0, .int 0])) :: T3) 34 [(0, .ref h0), (1, .ref p1)] []
  subst eT3 eT2 eT1 eT0
  exact K_vret C E (q7, q6, q1, q2, q3, q4, q5) (List.Perm.of_eq rfl) (Nat.le_of_ble_eq_true rfl) (Nat.le_of_ble_eq_true rfl) dX6_init_34
def kX3_init_w (g : Gm) (h0 p1 p2 : Nat) (u : Nat × Nat × Nat × Nat × Nat × Nat × Nat) : va_W := match u with
  | (q7, q6, q5, q4, q3, q2, q1) => [(h0, .inr (3, [.ref p1, .ref p2, .ref q1, .ref q2, .ref q3, .ref q4, .ref q5, .ref q6, .ref q7, .int 0, .int 0, .int 0])), (q7, .inl (gca g 0, (8, .inl (fun _ => 0)))), (q6, .inl (gca g 0, (8, .inl (fun _ => 0)))), (q5, .inl (gca g 0, (6, .inl (fun _ => 0)))), (q4, .inl (gca g 0, (6, .inl (fun _ => 0)))), (q3, .inl (gca g 0, (8, .inl (fun _ => 0)))), (q2, .inl (gca g 3, (48, .inl (fun _ => 0)))), (q1, .inl (gca g 0, (8, .inl (fun _ => 0))))]
set_option maxRecDepth 100000 in
set_option maxHeartbeats 8000000 in
theorem k_X3_init (l : Launch) (g : Gm) (h0 p1 p2 : Nat) : KJ l g yX3_init cX3_init 3 1 60 7 92 h0 [.ref p1, .ref p2] (.inr (3, [.null, .null, .null, .null, .null, .null, .null, .null, .null, .int 0, .int 0, .int 0])) (kX3_init_w g h0 p1 p2) := by
  refine KJ_of (by decide) rfl rfl (Nat.le_of_ble_eq_true rfl) (lo := [(0, .ref h0), (1, .ref p1), (2, .ref p2)]) rfl (fun x A C I E hA0 hxl => ?_)
  obtain ⟨T0, eT0⟩ : ∃ z : va_W, z = [] := ⟨_, rfl⟩
  rw [show [(h0, (.inr (3, [.null, .null, .null, .null, .null, .null, .null, .null, .null, .int 0, .int 0, .int 0]) : va_E))] = ((h0, .inr (3, [.null, .null, .null, .null, .null, .null, .null, .null, .null, .int 0, .int 0, .int 0])) :: T0) from by rw [eT0]]
  refine K_aload_n C 0 dX3_init_0 rfl 0 rfl ?_
  refine K_objInit C ml_RX3_3 oi_i oi_c (Nat.le_of_ble_eq_true rfl) (Nat.le_of_ble_eq_true rfl) dX3_init_1 ?_
  refine K_aload_n C 0 dX3_init_4 rfl 0 rfl ?_
  refine K_bipush C dX3_init_5 (bp8 (by decide) (by decide)) ?_
  refine K_newarr C (atype := .int) (ty := .int) (n := 8) (t := 0) (a0 := (8, .inl (fun _ => 0))) (pre := [(h0, .inr (3, [.null, .null, .null, .null, .null, .null, .null, .null, .null, .int 0, .int 0, .int 0]))]) (tl := T0) ac_int rfl (fun _ h => by cases h) rfl (fun _ => rfl) (by decide) (by decide) (Nat.le_of_ble_eq_true rfl) (Nat.le_of_ble_eq_true rfl) rfl dX3_init_7 (fun q1 => ?_)
  obtain ⟨T1, eT1⟩ : ∃ z, z = (q1, .inl (gca g 0, (8, .inl (fun _ => 0)))) :: T0 := ⟨_, rfl⟩
  rw [show [(h0, .inr (3, [.null, .null, .null, .null, .null, .null, .null, .null, .null, .int 0, .int 0, .int 0]))] ++ (q1, .inl (gca g 0, (8, .inl (fun _ => 0)))) :: T0 = ((h0, .inr (3, [.null, .null, .null, .null, .null, .null, .null, .null, .null, .int 0, .int 0, .int 0])) :: T1) from by rw [eT1]; rfl]
  refine K_putF C I (i := 0) fl_RX3_9 fpf_RX3_2 rfl rfl rfl (Nat.le_of_ble_eq_true rfl) dX3_init_9 ?_
  show KW x g 3 A 1 8 ((h0, .inr (3, [.null, .null, .ref q1, .null, .null, .null, .null, .null, .null, .int 0, .int 0, .int 0])) :: T1) 12 [(0, .ref h0), (1, .ref p1), (2, .ref p2)] []
  refine K_aload_n C 0 dX3_init_12 rfl 0 rfl ?_
  refine K_bipush C dX3_init_13 (bp8 (by decide) (by decide)) ?_
  refine K_newarr C (atype := .boolean) (ty := .boolean) (n := 48) (t := 3) (a0 := (48, .inl (fun _ => 0))) (pre := [(h0, .inr (3, [.null, .null, .ref q1, .null, .null, .null, .null, .null, .null, .int 0, .int 0, .int 0]))]) (tl := T1) ac_boolean rfl (fun _ h => by cases h) rfl (fun _ => rfl) (by decide) (by decide) (Nat.le_of_ble_eq_true rfl) (Nat.le_of_ble_eq_true rfl) rfl dX3_init_15 (fun q2 => ?_)
  obtain ⟨T2, eT2⟩ : ∃ z, z = (q2, .inl (gca g 3, (48, .inl (fun _ => 0)))) :: T1 := ⟨_, rfl⟩
  rw [show [(h0, .inr (3, [.null, .null, .ref q1, .null, .null, .null, .null, .null, .null, .int 0, .int 0, .int 0]))] ++ (q2, .inl (gca g 3, (48, .inl (fun _ => 0)))) :: T1 = ((h0, .inr (3, [.null, .null, .ref q1, .null, .null, .null, .null, .null, .null, .int 0, .int 0, .int 0])) :: T2) from by rw [eT2]; rfl]
  refine K_putF C I (i := 0) fl_RX3_15 fpf_RX3_3 rfl rfl rfl (Nat.le_of_ble_eq_true rfl) dX3_init_17 ?_
  show KW x g 3 A 2 56 ((h0, .inr (3, [.null, .null, .ref q1, .ref q2, .null, .null, .null, .null, .null, .int 0, .int 0, .int 0])) :: T2) 20 [(0, .ref h0), (1, .ref p1), (2, .ref p2)] []
  refine K_aload_n C 0 dX3_init_20 rfl 0 rfl ?_
  refine K_bipush C dX3_init_21 (bp8 (by decide) (by decide)) ?_
  refine K_newarr C (atype := .int) (ty := .int) (n := 8) (t := 0) (a0 := (8, .inl (fun _ => 0))) (pre := [(h0, .inr (3, [.null, .null, .ref q1, .ref q2, .null, .null, .null, .null, .null, .int 0, .int 0, .int 0]))]) (tl := T2) ac_int rfl (fun _ h => by cases h) rfl (fun _ => rfl) (by decide) (by decide) (Nat.le_of_ble_eq_true rfl) (Nat.le_of_ble_eq_true rfl) rfl dX3_init_23 (fun q3 => ?_)
  obtain ⟨T3, eT3⟩ : ∃ z, z = (q3, .inl (gca g 0, (8, .inl (fun _ => 0)))) :: T2 := ⟨_, rfl⟩
  rw [show [(h0, .inr (3, [.null, .null, .ref q1, .ref q2, .null, .null, .null, .null, .null, .int 0, .int 0, .int 0]))] ++ (q3, .inl (gca g 0, (8, .inl (fun _ => 0)))) :: T2 = ((h0, .inr (3, [.null, .null, .ref q1, .ref q2, .null, .null, .null, .null, .null, .int 0, .int 0, .int 0])) :: T3) from by rw [eT3]; rfl]
  refine K_putF C I (i := 0) fl_RX3_19 fpf_RX3_4 rfl rfl rfl (Nat.le_of_ble_eq_true rfl) dX3_init_25 ?_
  show KW x g 3 A 3 64 ((h0, .inr (3, [.null, .null, .ref q1, .ref q2, .ref q3, .null, .null, .null, .null, .int 0, .int 0, .int 0])) :: T3) 28 [(0, .ref h0), (1, .ref p1), (2, .ref p2)] []
  refine K_aload_n C 0 dX3_init_28 rfl 0 rfl ?_
  refine K_bipush C dX3_init_29 (bp8 (by decide) (by decide)) ?_
  refine K_newarr C (atype := .int) (ty := .int) (n := 6) (t := 0) (a0 := (6, .inl (fun _ => 0))) (pre := [(h0, .inr (3, [.null, .null, .ref q1, .ref q2, .ref q3, .null, .null, .null, .null, .int 0, .int 0, .int 0]))]) (tl := T3) ac_int rfl (fun _ h => by cases h) rfl (fun _ => rfl) (by decide) (by decide) (Nat.le_of_ble_eq_true rfl) (Nat.le_of_ble_eq_true rfl) rfl dX3_init_31 (fun q4 => ?_)
  obtain ⟨T4, eT4⟩ : ∃ z, z = (q4, .inl (gca g 0, (6, .inl (fun _ => 0)))) :: T3 := ⟨_, rfl⟩
  rw [show [(h0, .inr (3, [.null, .null, .ref q1, .ref q2, .ref q3, .null, .null, .null, .null, .int 0, .int 0, .int 0]))] ++ (q4, .inl (gca g 0, (6, .inl (fun _ => 0)))) :: T3 = ((h0, .inr (3, [.null, .null, .ref q1, .ref q2, .ref q3, .null, .null, .null, .null, .int 0, .int 0, .int 0])) :: T4) from by rw [eT4]; rfl]
  refine K_putF C I (i := 0) fl_RX3_22 fpf_RX3_5 rfl rfl rfl (Nat.le_of_ble_eq_true rfl) dX3_init_33 ?_
  show KW x g 3 A 4 70 ((h0, .inr (3, [.null, .null, .ref q1, .ref q2, .ref q3, .ref q4, .null, .null, .null, .int 0, .int 0, .int 0])) :: T4) 36 [(0, .ref h0), (1, .ref p1), (2, .ref p2)] []
  refine K_aload_n C 0 dX3_init_36 rfl 0 rfl ?_
  refine K_bipush C dX3_init_37 (bp8 (by decide) (by decide)) ?_
  refine K_newarr C (atype := .int) (ty := .int) (n := 6) (t := 0) (a0 := (6, .inl (fun _ => 0))) (pre := [(h0, .inr (3, [.null, .null, .ref q1, .ref q2, .ref q3, .ref q4, .null, .null, .null, .int 0, .int 0, .int 0]))]) (tl := T4) ac_int rfl (fun _ h => by cases h) rfl (fun _ => rfl) (by decide) (by decide) (Nat.le_of_ble_eq_true rfl) (Nat.le_of_ble_eq_true rfl) rfl dX3_init_39 (fun q5 => ?_)
  obtain ⟨T5, eT5⟩ : ∃ z, z = (q5, .inl (gca g 0, (6, .inl (fun _ => 0)))) :: T4 := ⟨_, rfl⟩
  rw [show [(h0, .inr (3, [.null, .null, .ref q1, .ref q2, .ref q3, .ref q4, .null, .null, .null, .int 0, .int 0, .int 0]))] ++ (q5, .inl (gca g 0, (6, .inl (fun _ => 0)))) :: T4 = ((h0, .inr (3, [.null, .null, .ref q1, .ref q2, .ref q3, .ref q4, .null, .null, .null, .int 0, .int 0, .int 0])) :: T5) from by rw [eT5]; rfl]
  refine K_putF C I (i := 0) fl_RX3_25 fpf_RX3_6 rfl rfl rfl (Nat.le_of_ble_eq_true rfl) dX3_init_41 ?_
  show KW x g 3 A 5 76 ((h0, .inr (3, [.null, .null, .ref q1, .ref q2, .ref q3, .ref q4, .ref q5, .null, .null, .int 0, .int 0, .int 0])) :: T5) 44 [(0, .ref h0), (1, .ref p1), (2, .ref p2)] []
  refine K_aload_n C 0 dX3_init_44 rfl 0 rfl ?_
  refine K_bipush C dX3_init_45 (bp8 (by decide) (by decide)) ?_
  refine K_newarr C (atype := .int) (ty := .int) (n := 8) (t := 0) (a0 := (8, .inl (fun _ => 0))) (pre := [(h0, .inr (3, [.null, .null, .ref q1, .ref q2, .ref q3, .ref q4, .ref q5, .null, .null, .int 0, .int 0, .int 0]))]) (tl := T5) ac_int rfl (fun _ h => by cases h) rfl (fun _ => rfl) (by decide) (by decide) (Nat.le_of_ble_eq_true rfl) (Nat.le_of_ble_eq_true rfl) rfl dX3_init_47 (fun q6 => ?_)
  obtain ⟨T6, eT6⟩ : ∃ z, z = (q6, .inl (gca g 0, (8, .inl (fun _ => 0)))) :: T5 := ⟨_, rfl⟩
  rw [show [(h0, .inr (3, [.null, .null, .ref q1, .ref q2, .ref q3, .ref q4, .ref q5, .null, .null, .int 0, .int 0, .int 0]))] ++ (q6, .inl (gca g 0, (8, .inl (fun _ => 0)))) :: T5 = ((h0, .inr (3, [.null, .null, .ref q1, .ref q2, .ref q3, .ref q4, .ref q5, .null, .null, .int 0, .int 0, .int 0])) :: T6) from by rw [eT6]; rfl]
  refine K_putF C I (i := 0) fl_RX3_28 fpf_RX3_7 rfl rfl rfl (Nat.le_of_ble_eq_true rfl) dX3_init_49 ?_
  show KW x g 3 A 6 84 ((h0, .inr (3, [.null, .null, .ref q1, .ref q2, .ref q3, .ref q4, .ref q5, .ref q6, .null, .int 0, .int 0, .int 0])) :: T6) 52 [(0, .ref h0), (1, .ref p1), (2, .ref p2)] []
  refine K_aload_n C 0 dX3_init_52 rfl 0 rfl ?_
  refine K_bipush C dX3_init_53 (bp8 (by decide) (by decide)) ?_
  refine K_newarr C (atype := .int) (ty := .int) (n := 8) (t := 0) (a0 := (8, .inl (fun _ => 0))) (pre := [(h0, .inr (3, [.null, .null, .ref q1, .ref q2, .ref q3, .ref q4, .ref q5, .ref q6, .null, .int 0, .int 0, .int 0]))]) (tl := T6) ac_int rfl (fun _ h => by cases h) rfl (fun _ => rfl) (by decide) (by decide) (Nat.le_of_ble_eq_true rfl) (Nat.le_of_ble_eq_true rfl) rfl dX3_init_55 (fun q7 => ?_)
  obtain ⟨T7, eT7⟩ : ∃ z, z = (q7, .inl (gca g 0, (8, .inl (fun _ => 0)))) :: T6 := ⟨_, rfl⟩
  rw [show [(h0, .inr (3, [.null, .null, .ref q1, .ref q2, .ref q3, .ref q4, .ref q5, .ref q6, .null, .int 0, .int 0, .int 0]))] ++ (q7, .inl (gca g 0, (8, .inl (fun _ => 0)))) :: T6 = ((h0, .inr (3, [.null, .null, .ref q1, .ref q2, .ref q3, .ref q4, .ref q5, .ref q6, .null, .int 0, .int 0, .int 0])) :: T7) from by rw [eT7]; rfl]
  refine K_putF C I (i := 0) fl_RX3_31 fpf_RX3_8 rfl rfl rfl (Nat.le_of_ble_eq_true rfl) dX3_init_57 ?_
  show KW x g 3 A 7 92 ((h0, .inr (3, [.null, .null, .ref q1, .ref q2, .ref q3, .ref q4, .ref q5, .ref q6, .ref q7, .int 0, .int 0, .int 0])) :: T7) 60 [(0, .ref h0), (1, .ref p1), (2, .ref p2)] []
  refine K_aload_n C 0 dX3_init_60 rfl 0 rfl ?_
  refine K_aload_n C 1 dX3_init_61 rfl 1 rfl ?_
  refine K_putF C I (i := 0) fl_RX3_34 fpf_RX3_0 rfl rfl rfl (Nat.le_of_ble_eq_true rfl) dX3_init_62 ?_
  show KW x g 3 A 7 92 ((h0, .inr (3, [.ref p1, .null, .ref q1, .ref q2, .ref q3, .ref q4, .ref q5, .ref q6, .ref q7, .int 0, .int 0, .int 0])) :: T7) 65 [(0, .ref h0), (1, .ref p1), (2, .ref p2)] []
  refine K_aload_n C 0 dX3_init_65 rfl 0 rfl ?_
  refine K_aload_n C 2 dX3_init_66 rfl 2 rfl ?_
  refine K_putF C I (i := 0) fl_RX3_38 fpf_RX3_1 rfl rfl rfl (Nat.le_of_ble_eq_true rfl) dX3_init_67 ?_
  show KW x g 3 A 7 92 ((h0, .inr (3, [.ref p1, .ref p2, .ref q1, .ref q2, .ref q3, .ref q4, .ref q5, .ref q6, .ref q7, .int 0, .int 0, .int 0])) :: T7) 70 [(0, .ref h0), (1, .ref p1), (2, .ref p2)] []
  subst eT7 eT6 eT5 eT4 eT3 eT2 eT1 eT0
  exact K_vret C E (q7, q6, q5, q4, q3, q2, q1) (List.Perm.of_eq rfl) (Nat.le_of_ble_eq_true rfl) (Nat.le_of_ble_eq_true rfl) dX3_init_70
def kX4_init_w (g : Gm) (h0 : Nat) (u : Nat × Nat × Nat) : va_W := match u with
  | (q3, q2, q1) => [(h0, .inr (4, [.ref q1, .ref q2, .ref q3, .int 0])), (q3, .inl (gca g 0, (20, .inl (fun _ => 0)))), (q2, .inl (gca g 0, (20, .inl (fun _ => 0)))), (q1, .inl (gca g 0, (20, .inl (fun _ => 0))))]
set_option maxRecDepth 100000 in
set_option maxHeartbeats 8000000 in
theorem k_X4_init (l : Launch) (g : Gm) (h0 : Nat) : KJ l g yX4_init cX4_init 1 1 60 3 60 h0 [] (.inr (4, [.null, .null, .null, .int 0])) (kX4_init_w g h0) := by
  refine KJ_of (by decide) rfl rfl (Nat.le_of_ble_eq_true rfl) (lo := [(0, .ref h0)]) rfl (fun x A C I E hA0 hxl => ?_)
  obtain ⟨T0, eT0⟩ : ∃ z : va_W, z = [] := ⟨_, rfl⟩
  rw [show [(h0, (.inr (4, [.null, .null, .null, .int 0]) : va_E))] = ((h0, .inr (4, [.null, .null, .null, .int 0])) :: T0) from by rw [eT0]]
  refine K_aload_n C 0 dX4_init_0 rfl 0 rfl ?_
  refine K_objInit C ml_RX4_3 oi_i oi_c (Nat.le_of_ble_eq_true rfl) (Nat.le_of_ble_eq_true rfl) dX4_init_1 ?_
  refine K_aload_n C 0 dX4_init_4 rfl 0 rfl ?_
  refine K_bipush C dX4_init_5 (bp8 (by decide) (by decide)) ?_
  refine K_newarr C (atype := .int) (ty := .int) (n := 20) (t := 0) (a0 := (20, .inl (fun _ => 0))) (pre := [(h0, .inr (4, [.null, .null, .null, .int 0]))]) (tl := T0) ac_int rfl (fun _ h => by cases h) rfl (fun _ => rfl) (by decide) (by decide) (Nat.le_of_ble_eq_true rfl) (Nat.le_of_ble_eq_true rfl) rfl dX4_init_7 (fun q1 => ?_)
  obtain ⟨T1, eT1⟩ : ∃ z, z = (q1, .inl (gca g 0, (20, .inl (fun _ => 0)))) :: T0 := ⟨_, rfl⟩
  rw [show [(h0, .inr (4, [.null, .null, .null, .int 0]))] ++ (q1, .inl (gca g 0, (20, .inl (fun _ => 0)))) :: T0 = ((h0, .inr (4, [.null, .null, .null, .int 0])) :: T1) from by rw [eT1]; rfl]
  refine K_putF C I (i := 0) fl_RX4_9 fpf_RX4_0 rfl rfl rfl (Nat.le_of_ble_eq_true rfl) dX4_init_9 ?_
  show KW x g 1 A 1 20 ((h0, .inr (4, [.ref q1, .null, .null, .int 0])) :: T1) 12 [(0, .ref h0)] []
  refine K_aload_n C 0 dX4_init_12 rfl 0 rfl ?_
  refine K_bipush C dX4_init_13 (bp8 (by decide) (by decide)) ?_
  refine K_newarr C (atype := .int) (ty := .int) (n := 20) (t := 0) (a0 := (20, .inl (fun _ => 0))) (pre := [(h0, .inr (4, [.ref q1, .null, .null, .int 0]))]) (tl := T1) ac_int rfl (fun _ h => by cases h) rfl (fun _ => rfl) (by decide) (by decide) (Nat.le_of_ble_eq_true rfl) (Nat.le_of_ble_eq_true rfl) rfl dX4_init_15 (fun q2 => ?_)
  obtain ⟨T2, eT2⟩ : ∃ z, z = (q2, .inl (gca g 0, (20, .inl (fun _ => 0)))) :: T1 := ⟨_, rfl⟩
  rw [show [(h0, .inr (4, [.ref q1, .null, .null, .int 0]))] ++ (q2, .inl (gca g 0, (20, .inl (fun _ => 0)))) :: T1 = ((h0, .inr (4, [.ref q1, .null, .null, .int 0])) :: T2) from by rw [eT2]; rfl]
  refine K_putF C I (i := 0) fl_RX4_15 fpf_RX4_1 rfl rfl rfl (Nat.le_of_ble_eq_true rfl) dX4_init_17 ?_
  show KW x g 1 A 2 40 ((h0, .inr (4, [.ref q1, .ref q2, .null, .int 0])) :: T2) 20 [(0, .ref h0)] []
  refine K_aload_n C 0 dX4_init_20 rfl 0 rfl ?_
  refine K_bipush C dX4_init_21 (bp8 (by decide) (by decide)) ?_
  refine K_newarr C (atype := .int) (ty := .int) (n := 20) (t := 0) (a0 := (20, .inl (fun _ => 0))) (pre := [(h0, .inr (4, [.ref q1, .ref q2, .null, .int 0]))]) (tl := T2) ac_int rfl (fun _ h => by cases h) rfl (fun _ => rfl) (by decide) (by decide) (Nat.le_of_ble_eq_true rfl) (Nat.le_of_ble_eq_true rfl) rfl dX4_init_23 (fun q3 => ?_)
  obtain ⟨T3, eT3⟩ : ∃ z, z = (q3, .inl (gca g 0, (20, .inl (fun _ => 0)))) :: T2 := ⟨_, rfl⟩
  rw [show [(h0, .inr (4, [.ref q1, .ref q2, .null, .int 0]))] ++ (q3, .inl (gca g 0, (20, .inl (fun _ => 0)))) :: T2 = ((h0, .inr (4, [.ref q1, .ref q2, .null, .int 0])) :: T3) from by rw [eT3]; rfl]
  refine K_putF C I (i := 0) fl_RX4_18 fpf_RX4_2 rfl rfl rfl (Nat.le_of_ble_eq_true rfl) dX4_init_25 ?_
  show KW x g 1 A 3 60 ((h0, .inr (4, [.ref q1, .ref q2, .ref q3, .int 0])) :: T3) 28 [(0, .ref h0)] []
  subst eT3 eT2 eT1 eT0
  exact K_vret C E (q3, q2, q1) (List.Perm.of_eq rfl) (Nat.le_of_ble_eq_true rfl) (Nat.le_of_ble_eq_true rfl) dX4_init_28
def kX5_init_w (g : Gm) (h0 : Nat) (u : Nat × Nat × Nat) : va_W := match u with
  | (q3, q2, q1) => [(h0, .inr (5, [.ref q1, .ref q2, .ref q3, .int 0, .int 0])), (q3, .inl (gca g 0, (8, .inl (fun _ => 0)))), (q2, .inl (gca g 0, (160, .inl (fun _ => 0)))), (q1, .inl (gca g 0, (160, .inl (fun _ => 0))))]
set_option maxRecDepth 100000 in
set_option maxHeartbeats 8000000 in
theorem k_X5_init (l : Launch) (g : Gm) (h0 : Nat) : KJ l g yX5_init cX5_init 1 1 60 3 328 h0 [] (.inr (5, [.null, .null, .null, .int 0, .int 0])) (kX5_init_w g h0) := by
  refine KJ_of (by decide) rfl rfl (Nat.le_of_ble_eq_true rfl) (lo := [(0, .ref h0)]) rfl (fun x A C I E hA0 hxl => ?_)
  obtain ⟨T0, eT0⟩ : ∃ z : va_W, z = [] := ⟨_, rfl⟩
  rw [show [(h0, (.inr (5, [.null, .null, .null, .int 0, .int 0]) : va_E))] = ((h0, .inr (5, [.null, .null, .null, .int 0, .int 0])) :: T0) from by rw [eT0]]
  refine K_aload_n C 0 dX5_init_0 rfl 0 rfl ?_
  refine K_objInit C ml_RX5_3 oi_i oi_c (Nat.le_of_ble_eq_true rfl) (Nat.le_of_ble_eq_true rfl) dX5_init_1 ?_
  refine K_aload_n C 0 dX5_init_4 rfl 0 rfl ?_
  refine K_sipush C dX5_init_5 (bp16 (by decide) (by decide)) ?_
  refine K_newarr C (atype := .int) (ty := .int) (n := 160) (t := 0) (a0 := (160, .inl (fun _ => 0))) (pre := [(h0, .inr (5, [.null, .null, .null, .int 0, .int 0]))]) (tl := T0) ac_int rfl (fun _ h => by cases h) rfl (fun _ => rfl) (by decide) (by decide) (Nat.le_of_ble_eq_true rfl) (Nat.le_of_ble_eq_true rfl) rfl dX5_init_8 (fun q1 => ?_)
  obtain ⟨T1, eT1⟩ : ∃ z, z = (q1, .inl (gca g 0, (160, .inl (fun _ => 0)))) :: T0 := ⟨_, rfl⟩
  rw [show [(h0, .inr (5, [.null, .null, .null, .int 0, .int 0]))] ++ (q1, .inl (gca g 0, (160, .inl (fun _ => 0)))) :: T0 = ((h0, .inr (5, [.null, .null, .null, .int 0, .int 0])) :: T1) from by rw [eT1]; rfl]
  refine K_putF C I (i := 0) fl_RX5_9 fpf_RX5_0 rfl rfl rfl (Nat.le_of_ble_eq_true rfl) dX5_init_10 ?_
  show KW x g 1 A 1 160 ((h0, .inr (5, [.ref q1, .null, .null, .int 0, .int 0])) :: T1) 13 [(0, .ref h0)] []
  refine K_aload_n C 0 dX5_init_13 rfl 0 rfl ?_
  refine K_sipush C dX5_init_14 (bp16 (by decide) (by decide)) ?_
  refine K_newarr C (atype := .int) (ty := .int) (n := 160) (t := 0) (a0 := (160, .inl (fun _ => 0))) (pre := [(h0, .inr (5, [.ref q1, .null, .null, .int 0, .int 0]))]) (tl := T1) ac_int rfl (fun _ h => by cases h) rfl (fun _ => rfl) (by decide) (by decide) (Nat.le_of_ble_eq_true rfl) (Nat.le_of_ble_eq_true rfl) rfl dX5_init_17 (fun q2 => ?_)
  obtain ⟨T2, eT2⟩ : ∃ z, z = (q2, .inl (gca g 0, (160, .inl (fun _ => 0)))) :: T1 := ⟨_, rfl⟩
  rw [show [(h0, .inr (5, [.ref q1, .null, .null, .int 0, .int 0]))] ++ (q2, .inl (gca g 0, (160, .inl (fun _ => 0)))) :: T1 = ((h0, .inr (5, [.ref q1, .null, .null, .int 0, .int 0])) :: T2) from by rw [eT2]; rfl]
  refine K_putF C I (i := 0) fl_RX5_15 fpf_RX5_1 rfl rfl rfl (Nat.le_of_ble_eq_true rfl) dX5_init_19 ?_
  show KW x g 1 A 2 320 ((h0, .inr (5, [.ref q1, .ref q2, .null, .int 0, .int 0])) :: T2) 22 [(0, .ref h0)] []
  refine K_aload_n C 0 dX5_init_22 rfl 0 rfl ?_
  refine K_bipush C dX5_init_23 (bp8 (by decide) (by decide)) ?_
  refine K_newarr C (atype := .int) (ty := .int) (n := 8) (t := 0) (a0 := (8, .inl (fun _ => 0))) (pre := [(h0, .inr (5, [.ref q1, .ref q2, .null, .int 0, .int 0]))]) (tl := T2) ac_int rfl (fun _ h => by cases h) rfl (fun _ => rfl) (by decide) (by decide) (Nat.le_of_ble_eq_true rfl) (Nat.le_of_ble_eq_true rfl) rfl dX5_init_25 (fun q3 => ?_)
  obtain ⟨T3, eT3⟩ : ∃ z, z = (q3, .inl (gca g 0, (8, .inl (fun _ => 0)))) :: T2 := ⟨_, rfl⟩
  rw [show [(h0, .inr (5, [.ref q1, .ref q2, .null, .int 0, .int 0]))] ++ (q3, .inl (gca g 0, (8, .inl (fun _ => 0)))) :: T2 = ((h0, .inr (5, [.ref q1, .ref q2, .null, .int 0, .int 0])) :: T3) from by rw [eT3]; rfl]
  refine K_putF C I (i := 0) fl_RX5_18 fpf_RX5_2 rfl rfl rfl (Nat.le_of_ble_eq_true rfl) dX5_init_27 ?_
  show KW x g 1 A 3 328 ((h0, .inr (5, [.ref q1, .ref q2, .ref q3, .int 0, .int 0])) :: T3) 30 [(0, .ref h0)] []
  subst eT3 eT2 eT1 eT0
  exact K_vret C E (q3, q2, q1) (List.Perm.of_eq rfl) (Nat.le_of_ble_eq_true rfl) (Nat.le_of_ble_eq_true rfl) dX5_init_30
def kX7_init_w (g : Gm) (h0 p1 p2 p3 p4 : Nat) (u : Nat × Nat × Nat × Nat × Nat) : va_W := match u with
  | (q5, q4, q3, q2, q1) => [(h0, .inr (7, [.ref p1, .ref p2, .ref p3, .ref p4, .ref q1, .ref q2, .ref q3, .ref q4, .ref q5, vi (-1)])), (q5, .inl (gca g 0, (120, .inl (fun _ => 0)))), (q4, .inl (gca g 0, (120, .inl (fun _ => 0)))), (q3, .inl (gca g 0, (120, .inl (fun _ => 0)))), (q2, .inl (gca g 0, (120, .inl (fun _ => 0)))), (q1, .inl (gca g 0, (120, .inl (fun _ => 0))))]
set_option maxRecDepth 100000 in
set_option maxHeartbeats 8000000 in
theorem k_X7_init (l : Launch) (g : Gm) (h0 p1 p2 p3 p4 : Nat) : KJ l g yX7_init cX7_init 5 1 60 5 600 h0 [.ref p1, .ref p2, .ref p3, .ref p4] (.inr (7, [.null, .null, .null, .null, .null, .null, .null, .null, .null, .int 0])) (kX7_init_w g h0 p1 p2 p3 p4) := by
  refine KJ_of (by decide) rfl rfl (Nat.le_of_ble_eq_true rfl) (lo := [(0, .ref h0), (1, .ref p1), (2, .ref p2), (3, .ref p3), (4, .ref p4)]) rfl (fun x A C I E hA0 hxl => ?_)
  obtain ⟨T0, eT0⟩ : ∃ z : va_W, z = [] := ⟨_, rfl⟩
  rw [show [(h0, (.inr (7, [.null, .null, .null, .null, .null, .null, .null, .null, .null, .int 0]) : va_E))] = ((h0, .inr (7, [.null, .null, .null, .null, .null, .null, .null, .null, .null, .int 0])) :: T0) from by rw [eT0]]
  refine K_aload_n C 0 dX7_init_0 rfl 0 rfl ?_
  refine K_objInit C ml_RX7_3 oi_i oi_c (Nat.le_of_ble_eq_true rfl) (Nat.le_of_ble_eq_true rfl) dX7_init_1 ?_
  refine K_aload_n C 0 dX7_init_4 rfl 0 rfl ?_
  refine K_bipush C dX7_init_5 (bp8 (by decide) (by decide)) ?_
  refine K_newarr C (atype := .int) (ty := .int) (n := 120) (t := 0) (a0 := (120, .inl (fun _ => 0))) (pre := [(h0, .inr (7, [.null, .null, .null, .null, .null, .null, .null, .null, .null, .int 0]))]) (tl := T0) ac_int rfl (fun _ h => by cases h) rfl (fun _ => rfl) (by decide) (by decide) (Nat.le_of_ble_eq_true rfl) (Nat.le_of_ble_eq_true rfl) rfl dX7_init_7 (fun q1 => ?_)
  obtain ⟨T1, eT1⟩ : ∃ z, z = (q1, .inl (gca g 0, (120, .inl (fun _ => 0)))) :: T0 := ⟨_, rfl⟩
  rw [show [(h0, .inr (7, [.null, .null, .null, .null, .null, .null, .null, .null, .null, .int 0]))] ++ (q1, .inl (gca g 0, (120, .inl (fun _ => 0)))) :: T0 = ((h0, .inr (7, [.null, .null, .null, .null, .null, .null, .null, .null, .null, .int 0])) :: T1) from by rw [eT1]; rfl]
  refine K_putF C I (i := 0) fl_RX7_9 fpf_RX7_4 rfl rfl rfl (Nat.le_of_ble_eq_true rfl) dX7_init_9 ?_
  show KW x g 5 A 1 120 ((h0, .inr (7, [.null, .null, .null, .null, .ref q1, .null, .null, .null, .null, .int 0])) :: T1) 12 [(0, .ref h0), (1, .ref p1), (2, .ref p2), (3, .ref p3), (4, .ref p4)] []
  refine K_aload_n C 0 dX7_init_12 rfl 0 rfl ?_
  refine K_bipush C dX7_init_13 (bp8 (by decide) (by decide)) ?_
  refine K_newarr C (atype := .int) (ty := .int) (n := 120) (t := 0) (a0 := (120, .inl (fun _ => 0))) (pre := [(h0, .inr (7, [.null, .null, .null, .null, .ref q1, .null, .null, .null, .null, .int 0]))]) (tl := T1) ac_int rfl (fun _ h => by cases h) rfl (fun _ => rfl) (by decide) (by decide) (Nat.le_of_ble_eq_true rfl) (Nat.le_of_ble_eq_true rfl) rfl dX7_init_15 (fun q2 => ?_)
  obtain ⟨T2, eT2⟩ : ∃ z, z = (q2, .inl (gca g 0, (120, .inl (fun _ => 0)))) :: T1 := ⟨_, rfl⟩
  rw [show [(h0, .inr (7, [.null, .null, .null, .null, .ref q1, .null, .null, .null, .null, .int 0]))] ++ (q2, .inl (gca g 0, (120, .inl (fun _ => 0)))) :: T1 = ((h0, .inr (7, [.null, .null, .null, .null, .ref q1, .null, .null, .null, .null, .int 0])) :: T2) from by rw [eT2]; rfl]
  refine K_putF C I (i := 0) fl_RX7_15 fpf_RX7_5 rfl rfl rfl (Nat.le_of_ble_eq_true rfl) dX7_init_17 ?_
  show KW x g 5 A 2 240 ((h0, .inr (7, [.null, .null, .null, .null, .ref q1, .ref q2, .null, .null, .null, .int 0])) :: T2) 20 [(0, .ref h0), (1, .ref p1), (2, .ref p2), (3, .ref p3), (4, .ref p4)] []
  refine K_aload_n C 0 dX7_init_20 rfl 0 rfl ?_
  refine K_bipush C dX7_init_21 (bp8 (by decide) (by decide)) ?_
  refine K_newarr C (atype := .int) (ty := .int) (n := 120) (t := 0) (a0 := (120, .inl (fun _ => 0))) (pre := [(h0, .inr (7, [.null, .null, .null, .null, .ref q1, .ref q2, .null, .null, .null, .int 0]))]) (tl := T2) ac_int rfl (fun _ h => by cases h) rfl (fun _ => rfl) (by decide) (by decide) (Nat.le_of_ble_eq_true rfl) (Nat.le_of_ble_eq_true rfl) rfl dX7_init_23 (fun q3 => ?_)
  obtain ⟨T3, eT3⟩ : ∃ z, z = (q3, .inl (gca g 0, (120, .inl (fun _ => 0)))) :: T2 := ⟨_, rfl⟩
  rw [show [(h0, .inr (7, [.null, .null, .null, .null, .ref q1, .ref q2, .null, .null, .null, .int 0]))] ++ (q3, .inl (gca g 0, (120, .inl (fun _ => 0)))) :: T2 = ((h0, .inr (7, [.null, .null, .null, .null, .ref q1, .ref q2, .null, .null, .null, .int 0])) :: T3) from by rw [eT3]; rfl]
  refine K_putF C I (i := 0) fl_RX7_18 fpf_RX7_6 rfl rfl rfl (Nat.le_of_ble_eq_true rfl) dX7_init_25 ?_
  show KW x g 5 A 3 360 ((h0, .inr (7, [.null, .null, .null, .null, .ref q1, .ref q2, .ref q3, .null, .null, .int 0])) :: T3) 28 [(0, .ref h0), (1, .ref p1), (2, .ref p2), (3, .ref p3), (4, .ref p4)] []
  refine K_aload_n C 0 dX7_init_28 rfl 0 rfl ?_
  refine K_bipush C dX7_init_29 (bp8 (by decide) (by decide)) ?_
  refine K_newarr C (atype := .int) (ty := .int) (n := 120) (t := 0) (a0 := (120, .inl (fun _ => 0))) (pre := [(h0, .inr (7, [.null, .null, .null, .null, .ref q1, .ref q2, .ref q3, .null, .null, .int 0]))]) (tl := T3) ac_int rfl (fun _ h => by cases h) rfl (fun _ => rfl) (by decide) (by decide) (Nat.le_of_ble_eq_true rfl) (Nat.le_of_ble_eq_true rfl) rfl dX7_init_31 (fun q4 => ?_)
  obtain ⟨T4, eT4⟩ : ∃ z, z = (q4, .inl (gca g 0, (120, .inl (fun _ => 0)))) :: T3 := ⟨_, rfl⟩
  rw [show [(h0, .inr (7, [.null, .null, .null, .null, .ref q1, .ref q2, .ref q3, .null, .null, .int 0]))] ++ (q4, .inl (gca g 0, (120, .inl (fun _ => 0)))) :: T3 = ((h0, .inr (7, [.null, .null, .null, .null, .ref q1, .ref q2, .ref q3, .null, .null, .int 0])) :: T4) from by rw [eT4]; rfl]
  refine K_putF C I (i := 0) fl_RX7_21 fpf_RX7_7 rfl rfl rfl (Nat.le_of_ble_eq_true rfl) dX7_init_33 ?_
  show KW x g 5 A 4 480 ((h0, .inr (7, [.null, .null, .null, .null, .ref q1, .ref q2, .ref q3, .ref q4, .null, .int 0])) :: T4) 36 [(0, .ref h0), (1, .ref p1), (2, .ref p2), (3, .ref p3), (4, .ref p4)] []
  refine K_aload_n C 0 dX7_init_36 rfl 0 rfl ?_
  refine K_bipush C dX7_init_37 (bp8 (by decide) (by decide)) ?_
  refine K_newarr C (atype := .int) (ty := .int) (n := 120) (t := 0) (a0 := (120, .inl (fun _ => 0))) (pre := [(h0, .inr (7, [.null, .null, .null, .null, .ref q1, .ref q2, .ref q3, .ref q4, .null, .int 0]))]) (tl := T4) ac_int rfl (fun _ h => by cases h) rfl (fun _ => rfl) (by decide) (by decide) (Nat.le_of_ble_eq_true rfl) (Nat.le_of_ble_eq_true rfl) rfl dX7_init_39 (fun q5 => ?_)
  obtain ⟨T5, eT5⟩ : ∃ z, z = (q5, .inl (gca g 0, (120, .inl (fun _ => 0)))) :: T4 := ⟨_, rfl⟩
  rw [show [(h0, .inr (7, [.null, .null, .null, .null, .ref q1, .ref q2, .ref q3, .ref q4, .null, .int 0]))] ++ (q5, .inl (gca g 0, (120, .inl (fun _ => 0)))) :: T4 = ((h0, .inr (7, [.null, .null, .null, .null, .ref q1, .ref q2, .ref q3, .ref q4, .null, .int 0])) :: T5) from by rw [eT5]; rfl]
  refine K_putF C I (i := 0) fl_RX7_24 fpf_RX7_8 rfl rfl rfl (Nat.le_of_ble_eq_true rfl) dX7_init_41 ?_
  show KW x g 5 A 5 600 ((h0, .inr (7, [.null, .null, .null, .null, .ref q1, .ref q2, .ref q3, .ref q4, .ref q5, .int 0])) :: T5) 44 [(0, .ref h0), (1, .ref p1), (2, .ref p2), (3, .ref p3), (4, .ref p4)] []
  refine K_aload_n C 0 dX7_init_44 rfl 0 rfl ?_
  refine K_iconst C dX7_init_45 ?_
  refine K_putI C (i := 0) fl_RX7_27 fp_RX7_9 rfl rfl rfl (Nat.le_of_ble_eq_true rfl) dX7_init_46 ?_
  show KW x g 5 A 5 600 ((h0, .inr (7, [.null, .null, .null, .null, .ref q1, .ref q2, .ref q3, .ref q4, .ref q5, vi (-1)])) :: T5) 49 [(0, .ref h0), (1, .ref p1), (2, .ref p2), (3, .ref p3), (4, .ref p4)] []
  refine K_aload_n C 0 dX7_init_49 rfl 0 rfl ?_
  refine K_aload_n C 1 dX7_init_50 rfl 1 rfl ?_
  refine K_putF C I (i := 0) fl_RX7_31 fpf_RX7_0 rfl rfl rfl (Nat.le_of_ble_eq_true rfl) dX7_init_51 ?_
  show KW x g 5 A 5 600 ((h0, .inr (7, [.ref p1, .null, .null, .null, .ref q1, .ref q2, .ref q3, .ref q4, .ref q5, vi (-1)])) :: T5) 54 [(0, .ref h0), (1, .ref p1), (2, .ref p2), (3, .ref p3), (4, .ref p4)] []
  refine K_aload_n C 0 dX7_init_54 rfl 0 rfl ?_
  refine K_aload_n C 2 dX7_init_55 rfl 2 rfl ?_
  refine K_putF C I (i := 0) fl_RX7_35 fpf_RX7_1 rfl rfl rfl (Nat.le_of_ble_eq_true rfl) dX7_init_56 ?_
  show KW x g 5 A 5 600 ((h0, .inr (7, [.ref p1, .ref p2, .null, .null, .ref q1, .ref q2, .ref q3, .ref q4, .ref q5, vi (-1)])) :: T5) 59 [(0, .ref h0), (1, .ref p1), (2, .ref p2), (3, .ref p3), (4, .ref p4)] []
  refine K_aload_n C 0 dX7_init_59 rfl 0 rfl ?_
  refine K_aload_n C 3 dX7_init_60 rfl 3 rfl ?_
  refine K_putF C I (i := 0) fl_RX7_39 fpf_RX7_2 rfl rfl rfl (Nat.le_of_ble_eq_true rfl) dX7_init_61 ?_
  show KW x g 5 A 5 600 ((h0, .inr (7, [.ref p1, .ref p2, .ref p3, .null, .ref q1, .ref q2, .ref q3, .ref q4, .ref q5, vi (-1)])) :: T5) 64 [(0, .ref h0), (1, .ref p1), (2, .ref p2), (3, .ref p3), (4, .ref p4)] []
  refine K_aload_n C 0 dX7_init_64 rfl 0 rfl ?_
  refine K_aload C 4 dX7_init_65 4 rfl ?_
  refine K_putF C I (i := 0) fl_RX7_43 fpf_RX7_3 rfl rfl rfl (Nat.le_of_ble_eq_true rfl) dX7_init_67 ?_
  show KW x g 5 A 5 600 ((h0, .inr (7, [.ref p1, .ref p2, .ref p3, .ref p4, .ref q1, .ref q2, .ref q3, .ref q4, .ref q5, vi (-1)])) :: T5) 70 [(0, .ref h0), (1, .ref p1), (2, .ref p2), (3, .ref p3), (4, .ref p4)] []
  subst eT5 eT4 eT3 eT2 eT1 eT0
  exact K_vret C E (q5, q4, q3, q2, q1) (List.Perm.of_eq rfl) (Nat.le_of_ble_eq_true rfl) (Nat.le_of_ble_eq_true rfl) dX7_init_70
def kX10_init_w (g : Gm) (h0 p1 p2 p3 : Nat) (u : Nat × Nat × Nat) : va_W := match u with
  | (q3, q2, q1) => [(h0, .inr (10, [.ref p1, .ref p2, .ref p3, .ref q1, .ref q2, .ref q3, .int 0])), (q3, .inl (gca g 3, (120, .inl (fun _ => 0)))), (q2, .inl (gca g 0, (60, .inl (fun _ => 0)))), (q1, .inl (gca g 0, (60, .inl (fun _ => 0))))]
set_option maxRecDepth 100000 in
set_option maxHeartbeats 8000000 in
theorem k_X10_init (l : Launch) (g : Gm) (h0 p1 p2 p3 : Nat) : KJ l g yX10_init cX10_init 4 1 60 3 240 h0 [.ref p1, .ref p2, .ref p3] (.inr (10, [.null, .null, .null, .null, .null, .null, .int 0])) (kX10_init_w g h0 p1 p2 p3) := by
  refine KJ_of (by decide) rfl rfl (Nat.le_of_ble_eq_true rfl) (lo := [(0, .ref h0), (1, .ref p1), (2, .ref p2), (3, .ref p3)]) rfl (fun x A C I E hA0 hxl => ?_)
  obtain ⟨T0, eT0⟩ : ∃ z : va_W, z = [] := ⟨_, rfl⟩
  rw [show [(h0, (.inr (10, [.null, .null, .null, .null, .null, .null, .int 0]) : va_E))] = ((h0, .inr (10, [.null, .null, .null, .null, .null, .null, .int 0])) :: T0) from by rw [eT0]]
  refine K_aload_n C 0 dX10_init_0 rfl 0 rfl ?_
  refine K_objInit C ml_RX10_3 oi_i oi_c (Nat.le_of_ble_eq_true rfl) (Nat.le_of_ble_eq_true rfl) dX10_init_1 ?_
  refine K_aload_n C 0 dX10_init_4 rfl 0 rfl ?_
  refine K_bipush C dX10_init_5 (bp8 (by decide) (by decide)) ?_
  refine K_newarr C (atype := .int) (ty := .int) (n := 60) (t := 0) (a0 := (60, .inl (fun _ => 0))) (pre := [(h0, .inr (10, [.null, .null, .null, .null, .null, .null, .int 0]))]) (tl := T0) ac_int rfl (fun _ h => by cases h) rfl (fun _ => rfl) (by decide) (by decide) (Nat.le_of_ble_eq_true rfl) (Nat.le_of_ble_eq_true rfl) rfl dX10_init_7 (fun q1 => ?_)
  obtain ⟨T1, eT1⟩ : ∃ z, z = (q1, .inl (gca g 0, (60, .inl (fun _ => 0)))) :: T0 := ⟨_, rfl⟩
  rw [show [(h0, .inr (10, [.null, .null, .null, .null, .null, .null, .int 0]))] ++ (q1, .inl (gca g 0, (60, .inl (fun _ => 0)))) :: T0 = ((h0, .inr (10, [.null, .null, .null, .null, .null, .null, .int 0])) :: T1) from by rw [eT1]; rfl]
  refine K_putF C I (i := 0) fl_RX10_9 fpf_RX10_3 rfl rfl rfl (Nat.le_of_ble_eq_true rfl) dX10_init_9 ?_
  show KW x g 4 A 1 60 ((h0, .inr (10, [.null, .null, .null, .ref q1, .null, .null, .int 0])) :: T1) 12 [(0, .ref h0), (1, .ref p1), (2, .ref p2), (3, .ref p3)] []
  refine K_aload_n C 0 dX10_init_12 rfl 0 rfl ?_
  refine K_bipush C dX10_init_13 (bp8 (by decide) (by decide)) ?_
  refine K_newarr C (atype := .int) (ty := .int) (n := 60) (t := 0) (a0 := (60, .inl (fun _ => 0))) (pre := [(h0, .inr (10, [.null, .null, .null, .ref q1, .null, .null, .int 0]))]) (tl := T1) ac_int rfl (fun _ h => by cases h) rfl (fun _ => rfl) (by decide) (by decide) (Nat.le_of_ble_eq_true rfl) (Nat.le_of_ble_eq_true rfl) rfl dX10_init_15 (fun q2 => ?_)
  obtain ⟨T2, eT2⟩ : ∃ z, z = (q2, .inl (gca g 0, (60, .inl (fun _ => 0)))) :: T1 := ⟨_, rfl⟩
  rw [show [(h0, .inr (10, [.null, .null, .null, .ref q1, .null, .null, .int 0]))] ++ (q2, .inl (gca g 0, (60, .inl (fun _ => 0)))) :: T1 = ((h0, .inr (10, [.null, .null, .null, .ref q1, .null, .null, .int 0])) :: T2) from by rw [eT2]; rfl]
  refine K_putF C I (i := 0) fl_RX10_15 fpf_RX10_4 rfl rfl rfl (Nat.le_of_ble_eq_true rfl) dX10_init_17 ?_
  show KW x g 4 A 2 120 ((h0, .inr (10, [.null, .null, .null, .ref q1, .ref q2, .null, .int 0])) :: T2) 20 [(0, .ref h0), (1, .ref p1), (2, .ref p2), (3, .ref p3)] []
  refine K_aload_n C 0 dX10_init_20 rfl 0 rfl ?_
  refine K_bipush C dX10_init_21 (bp8 (by decide) (by decide)) ?_
  refine K_newarr C (atype := .boolean) (ty := .boolean) (n := 120) (t := 3) (a0 := (120, .inl (fun _ => 0))) (pre := [(h0, .inr (10, [.null, .null, .null, .ref q1, .ref q2, .null, .int 0]))]) (tl := T2) ac_boolean rfl (fun _ h => by cases h) rfl (fun _ => rfl) (by decide) (by decide) (Nat.le_of_ble_eq_true rfl) (Nat.le_of_ble_eq_true rfl) rfl dX10_init_23 (fun q3 => ?_)
  obtain ⟨T3, eT3⟩ : ∃ z, z = (q3, .inl (gca g 3, (120, .inl (fun _ => 0)))) :: T2 := ⟨_, rfl⟩
  rw [show [(h0, .inr (10, [.null, .null, .null, .ref q1, .ref q2, .null, .int 0]))] ++ (q3, .inl (gca g 3, (120, .inl (fun _ => 0)))) :: T2 = ((h0, .inr (10, [.null, .null, .null, .ref q1, .ref q2, .null, .int 0])) :: T3) from by rw [eT3]; rfl]
  refine K_putF C I (i := 0) fl_RX10_18 fpf_RX10_5 rfl rfl rfl (Nat.le_of_ble_eq_true rfl) dX10_init_25 ?_
  show KW x g 4 A 3 240 ((h0, .inr (10, [.null, .null, .null, .ref q1, .ref q2, .ref q3, .int 0])) :: T3) 28 [(0, .ref h0), (1, .ref p1), (2, .ref p2), (3, .ref p3)] []
  refine K_aload_n C 0 dX10_init_28 rfl 0 rfl ?_
  refine K_aload_n C 1 dX10_init_29 rfl 1 rfl ?_
  refine K_putF C I (i := 0) fl_RX10_22 fpf_RX10_0 rfl rfl rfl (Nat.le_of_ble_eq_true rfl) dX10_init_30 ?_
  show KW x g 4 A 3 240 ((h0, .inr (10, [.ref p1, .null, .null, .ref q1, .ref q2, .ref q3, .int 0])) :: T3) 33 [(0, .ref h0), (1, .ref p1), (2, .ref p2), (3, .ref p3)] []
  refine K_aload_n C 0 dX10_init_33 rfl 0 rfl ?_
  refine K_aload_n C 2 dX10_init_34 rfl 2 rfl ?_
  refine K_putF C I (i := 0) fl_RX10_26 fpf_RX10_1 rfl rfl rfl (Nat.le_of_ble_eq_true rfl) dX10_init_35 ?_
  show KW x g 4 A 3 240 ((h0, .inr (10, [.ref p1, .ref p2, .null, .ref q1, .ref q2, .ref q3, .int 0])) :: T3) 38 [(0, .ref h0), (1, .ref p1), (2, .ref p2), (3, .ref p3)] []
  refine K_aload_n C 0 dX10_init_38 rfl 0 rfl ?_
  refine K_aload_n C 3 dX10_init_39 rfl 3 rfl ?_
  refine K_putF C I (i := 0) fl_RX10_30 fpf_RX10_2 rfl rfl rfl (Nat.le_of_ble_eq_true rfl) dX10_init_40 ?_
  show KW x g 4 A 3 240 ((h0, .inr (10, [.ref p1, .ref p2, .ref p3, .ref q1, .ref q2, .ref q3, .int 0])) :: T3) 43 [(0, .ref h0), (1, .ref p1), (2, .ref p2), (3, .ref p3)] []
  subst eT3 eT2 eT1 eT0
  exact K_vret C E (q3, q2, q1) (List.Perm.of_eq rfl) (Nat.le_of_ble_eq_true rfl) (Nat.le_of_ble_eq_true rfl) dX10_init_43
def kX9_init_w (g : Gm) (h0 : Nat) (u : Nat × Nat × Nat × Nat × Nat × Nat) : va_W := match u with
  | (q2, q3, q4, q5, q6, q1) => [(h0, .inr (9, [.int 0, .int 0, .ref q1, .ref q2])), (q2, .inr (1, [.ref q6, .ref q5, .ref q4, .ref q3, .int 0])), (q3, .inl (gca g 0, (120, .inl (fun _ => 0)))), (q4, .inl (gca g 0, (120, .inl (fun _ => 0)))), (q5, .inl (gca g 0, (120, .inl (fun _ => 0)))), (q6, .inl (gca g 0, (120, .inl (fun _ => 0)))), (q1, .inl (gca g 1, (100, .inr (.inl (fun _ => 0)))))]
set_option maxRecDepth 100000 in
set_option maxHeartbeats 8000000 in
theorem k_X9_init (l : Launch) (g : Gm) (h0 : Nat) : KJ l g yX9_init cX9_init 1 2 80 6 585 h0 [] (.inr (9, [.int 0, .int 0, .null, .null])) (kX9_init_w g h0) := by
  refine KJ_of (by decide) rfl rfl (Nat.le_of_ble_eq_true rfl) (lo := [(0, .ref h0)]) rfl (fun x A C I E hA0 hxl => ?_)
  obtain ⟨T0, eT0⟩ : ∃ z : va_W, z = [] := ⟨_, rfl⟩
  rw [show [(h0, (.inr (9, [.int 0, .int 0, .null, .null]) : va_E))] = ((h0, .inr (9, [.int 0, .int 0, .null, .null])) :: T0) from by rw [eT0]]
  refine K_aload_n C 0 dX9_init_0 rfl 0 rfl ?_
  refine K_objInit C ml_RX9_3 oi_i oi_c (Nat.le_of_ble_eq_true rfl) (Nat.le_of_ble_eq_true rfl) dX9_init_1 ?_
  refine K_aload_n C 0 dX9_init_4 rfl 0 rfl ?_
  refine K_bipush C dX9_init_5 (bp8 (by decide) (by decide)) ?_
  refine K_newarr C (atype := .long) (ty := .long) (n := 100) (t := 1) (a0 := (100, .inr (.inl (fun _ => 0)))) (pre := [(h0, .inr (9, [.int 0, .int 0, .null, .null]))]) (tl := T0) ac_long rfl (fun _ h => by cases h) rfl (fun _ => rfl) (by decide) (by decide) (Nat.le_of_ble_eq_true rfl) (Nat.le_of_ble_eq_true rfl) rfl dX9_init_7 (fun q1 => ?_)
  obtain ⟨T1, eT1⟩ : ∃ z, z = (q1, .inl (gca g 1, (100, .inr (.inl (fun _ => 0))))) :: T0 := ⟨_, rfl⟩
  rw [show [(h0, .inr (9, [.int 0, .int 0, .null, .null]))] ++ (q1, .inl (gca g 1, (100, .inr (.inl (fun _ => 0))))) :: T0 = ((h0, .inr (9, [.int 0, .int 0, .null, .null])) :: T1) from by rw [eT1]; rfl]
  refine K_putF C I (i := 0) fl_RX9_9 fpf_RX9_2 rfl rfl rfl (Nat.le_of_ble_eq_true rfl) dX9_init_9 ?_
  show KW x g 1 A 1 100 ((h0, .inr (9, [.int 0, .int 0, .ref q1, .null])) :: T1) 12 [(0, .ref h0)] []
  refine K_aload_n C 0 dX9_init_12 rfl 0 rfl ?_
  refine K_new C (ci := 1) (fs := [.null, .null, .null, .null, .int 0]) (pre := [(h0, .inr (9, [.int 0, .int 0, .ref q1, .null]))]) (tl := T1) inW_RX1 tyX1 tyX1_ok cl_RX9_15 is_RX1 in_RX1 rfl nf_RX1 (Nat.le_of_ble_eq_true rfl) (Nat.le_of_ble_eq_true rfl) rfl dX9_init_13 (fun q2 => ?_)
  show KW x g 1 A 2 105 ((h0, .inr (9, [.int 0, .int 0, .ref q1, .null])) :: (q2, .inr (1, [.null, .null, .null, .null, .int 0])) :: T1) 16 [(0, .ref h0)] [.ref q2, .ref h0]
  refine K_dup C rfl dX9_init_16 ?_
  refine K_initN C mwi_X1_init rfl (nest_in 8 rfl) (k_X1_init x.2.1 g q2) (pre := [(h0, .inr (9, [.int 0, .int 0, .ref q1, .null]))]) (tl := T1) rfl (Nat.le_of_ble_eq_true rfl) (Nat.le_of_ble_eq_true rfl) rfl rfl (Nat.le_of_ble_eq_true rfl) (Nat.le_of_ble_eq_true rfl) (Nat.le_of_ble_eq_true rfl) dX9_init_17 (fun u => ?_)
  obtain ⟨q3, q4, q5, q6⟩ := u
  obtain ⟨T2, eT2⟩ : ∃ z, z = [(q2, .inr (1, [.ref q6, .ref q5, .ref q4, .ref q3, .int 0])), (q3, .inl (gca g 0, (120, .inl (fun _ => 0)))), (q4, .inl (gca g 0, (120, .inl (fun _ => 0)))), (q5, .inl (gca g 0, (120, .inl (fun _ => 0)))), (q6, .inl (gca g 0, (120, .inl (fun _ => 0))))] ++ T1 := ⟨_, rfl⟩
  rw [show [(h0, .inr (9, [.int 0, .int 0, .ref q1, .null]))] ++ (kX1_init_w g q2 (q3, q4, q5, q6) ++ T1) = ((h0, .inr (9, [.int 0, .int 0, .ref q1, .null])) :: T2) from by rw [eT2]; rfl]
  refine K_putF C I (i := 0) fl_RX9_18 fpf_RX9_3 rfl rfl rfl (Nat.le_of_ble_eq_true rfl) dX9_init_20 ?_
  show KW x g 1 A 6 585 ((h0, .inr (9, [.int 0, .int 0, .ref q1, .ref q2])) :: T2) 23 [(0, .ref h0)] []
  subst eT2 eT1 eT0
  exact K_vret C E (q2, q3, q4, q5, q6, q1) (List.Perm.of_eq rfl) (Nat.le_of_ble_eq_true rfl) (Nat.le_of_ble_eq_true rfl) dX9_init_23
def adL (l : List Nat) (i : Nat) : Nat := l.getD i 0
def gAt (g : Gm) (ad : Nat → Nat) : Gm := (g.1, g.2.1, g.2.2.1, ad)
def ad0 (h0 : Nat) (ad : Nat → Nat) : Nat → Nat := fun i => if i = 0 then h0 else ad i
theorem ad0_adL (h0 : Nat) (l : List Nat) : ad0 h0 (adL (h0 :: l)) = adL (h0 :: l) := by
  funext i
  unfold ad0
  by_cases h : i = 0
  · rw [if_pos h, h]; rfl
  · rw [if_neg h]
def σR0 : Sg := fun _ _ => 0
def τR0 : Sg := ((fX12_begin σR0).getD (0, σR0)).2
theorem model_begins : fX12_begin σR0 = some (0, τR0) := by
  have h : ((fX12_begin σR0).map Prod.fst) = some 0 := by decide +kernel
  unfold τR0
  cases e : fX12_begin σR0 with
  | none => rw [e] at h; cases h
  | some v =>
    obtain ⟨a, b⟩ := v
    rw [e] at h
    have h9 : a = 0 := Option.some.inj h
    rw [h9]
    rfl
def σC0 : Sg := fun i k => if i = 0 ∧ k = 9 then 2 else if i = 48 ∧ k = 9 then -1 else 0
set_option maxRecDepth 100000 in
set_option maxHeartbeats 8000000 in
theorem k_X11_init (l : Launch) (g : Gm) (h0 : Nat) : KJ l g yX11_init cX11_init 2 3 101 100 7340 h0 [] (.inr (11, [.null, .null, .null, .null, .null, .null, .null, .null, .null, .int 0, .int 0])) (fun ad : Nat → Nat => wd yC (gAt g (ad0 h0 ad)) σC0) := by
  refine KJ_of (by decide) rfl rfl (Nat.le_of_ble_eq_true rfl) (lo := [(0, .ref h0)]) rfl (fun x A C I E hA0 hxl => ?_)
  obtain ⟨T0, eT0⟩ : ∃ z : va_W, z = [] := ⟨_, rfl⟩
  rw [show [(h0, (.inr (11, [.null, .null, .null, .null, .null, .null, .null, .null, .null, .int 0, .int 0]) : va_E))] = ((h0, .inr (11, [.null, .null, .null, .null, .null, .null, .null, .null, .null, .int 0, .int 0])) :: T0) from by rw [eT0]]
  refine K_aload_n C 0 dX11_init_0 rfl 0 rfl ?_
  refine K_objInit C ml_RX11_1 oi_i oi_c (Nat.le_of_ble_eq_true rfl) (Nat.le_of_ble_eq_true rfl) dX11_init_1 ?_
  refine K_aload_n C 0 dX11_init_4 rfl 0 rfl ?_
  refine K_new C (ci := 8) (fs := [.null, .null, .null, .null, .null, .null]) (pre := [(h0, .inr (11, [.null, .null, .null, .null, .null, .null, .null, .null, .null, .int 0, .int 0]))]) (tl := T0) inW_RX8 tyX8 tyX8_ok cl_RX11_7 is_RX8 in_RX8 rfl nf_RX8 (Nat.le_of_ble_eq_true rfl) (Nat.le_of_ble_eq_true rfl) rfl dX11_init_5 (fun q1 => ?_)
  show KW x g 2 A 1 6 ((h0, .inr (11, [.null, .null, .null, .null, .null, .null, .null, .null, .null, .int 0, .int 0])) :: (q1, .inr (8, [.null, .null, .null, .null, .null, .null])) :: T0) 8 [(0, .ref h0)] [.ref q1, .ref h0]
  refine K_dup C rfl dX11_init_8 ?_
  refine K_initN C mwi_X8_init rfl (nest_in 0 rfl) (k_X8_init x.2.1 g q1) (pre := [(h0, .inr (11, [.null, .null, .null, .null, .null, .null, .null, .null, .null, .int 0, .int 0]))]) (tl := T0) rfl (Nat.le_of_ble_eq_true rfl) (Nat.le_of_ble_eq_true rfl) rfl rfl (Nat.le_of_ble_eq_true rfl) (Nat.le_of_ble_eq_true rfl) (Nat.le_of_ble_eq_true rfl) dX11_init_9 (fun u => ?_)
  obtain ⟨q2, q3, q4, q5, q6, q7, q8, q9, q10, q11, q12, q13, q14, q15, q16, q17, q18⟩ := u
  obtain ⟨T1, eT1⟩ : ∃ z, z = [(q1, .inr (8, [.ref q18, .ref q17, .ref q16, .ref q15, .ref q8, .ref q2])), (q2, .inr (0, [.ref q7, .ref q6, .ref q5, .ref q4, .ref q3])), (q3, .inl (gca g 0, (96, .inl (fun _ => 0)))), (q4, .inl (gca g 0, (96, .inl (fun _ => 0)))), (q5, .inl (gca g 3, (96, .inl (fun _ => 0)))), (q6, .inl (gca g 0, (20, .inl (fun _ => 0)))), (q7, .inl (gca g 0, (20, .inl (fun _ => 0)))), (q8, .inr (2, [.ref q14, .ref q13, .ref q12, .ref q11, .ref q10, .ref q9])), (q9, .inl (gca g 0, (12, .inl (fun _ => 0)))), (q10, .inl (gca g 0, (12, .inl (fun _ => 0)))), (q11, .inl (gca g 0, (12, .inl (fun _ => 0)))), (q12, .inl (gca g 0, (12, .inl (fun _ => 0)))), (q13, .inl (gca g 0, (12, .inl (fun _ => 0)))), (q14, .inl (gca g 0, (12, .inl (fun _ => 0)))), (q15, .inl (gca g 0, (6, .inl (fun _ => 0)))), (q16, .inl (gca g 0, (6, .inl (fun _ => 0)))), (q17, .inl (gca g 0, (6, .inl (fun _ => 0)))), (q18, .inl (gca g 2, (1024, .inl (fun _ => 0))))] ++ T0 := ⟨_, rfl⟩
  rw [show [(h0, .inr (11, [.null, .null, .null, .null, .null, .null, .null, .null, .null, .int 0, .int 0]))] ++ (kX8_init_w g q1 (q2, q3, q4, q5, q6, q7, q8, q9, q10, q11, q12, q13, q14, q15, q16, q17, q18) ++ T0) = ((h0, .inr (11, [.null, .null, .null, .null, .null, .null, .null, .null, .null, .int 0, .int 0])) :: T1) from by rw [eT1]; rfl]
  refine K_putF C I (i := 0) fl_RX11_10 fpf_RX11_0 rfl rfl rfl (Nat.le_of_ble_eq_true rfl) dX11_init_12 ?_
  show KW x g 2 A 18 1459 ((h0, .inr (11, [.ref q1, .null, .null, .null, .null, .null, .null, .null, .null, .int 0, .int 0])) :: T1) 15 [(0, .ref h0)] []
  refine K_aload_n C 0 dX11_init_15 rfl 0 rfl ?_
  refine K_new C (ci := 1) (fs := [.null, .null, .null, .null, .int 0]) (pre := [(h0, .inr (11, [.ref q1, .null, .null, .null, .null, .null, .null, .null, .null, .int 0, .int 0]))]) (tl := T1) inW_RX1 tyX1 tyX1_ok cl_RX11_16 is_RX1 in_RX1 rfl nf_RX1 (Nat.le_of_ble_eq_true rfl) (Nat.le_of_ble_eq_true rfl) rfl dX11_init_16 (fun q19 => ?_)
  show KW x g 2 A 19 1464 ((h0, .inr (11, [.ref q1, .null, .null, .null, .null, .null, .null, .null, .null, .int 0, .int 0])) :: (q19, .inr (1, [.null, .null, .null, .null, .int 0])) :: T1) 19 [(0, .ref h0)] [.ref q19, .ref h0]
  refine K_dup C rfl dX11_init_19 ?_
  refine K_initN C mwi_X1_init rfl (nest_in 3 rfl) (k_X1_init x.2.1 g q19) (pre := [(h0, .inr (11, [.ref q1, .null, .null, .null, .null, .null, .null, .null, .null, .int 0, .int 0]))]) (tl := T1) rfl (Nat.le_of_ble_eq_true rfl) (Nat.le_of_ble_eq_true rfl) rfl rfl (Nat.le_of_ble_eq_true rfl) (Nat.le_of_ble_eq_true rfl) (Nat.le_of_ble_eq_true rfl) dX11_init_20 (fun u => ?_)
  obtain ⟨q20, q21, q22, q23⟩ := u
  obtain ⟨T2, eT2⟩ : ∃ z, z = [(q19, .inr (1, [.ref q23, .ref q22, .ref q21, .ref q20, .int 0])), (q20, .inl (gca g 0, (120, .inl (fun _ => 0)))), (q21, .inl (gca g 0, (120, .inl (fun _ => 0)))), (q22, .inl (gca g 0, (120, .inl (fun _ => 0)))), (q23, .inl (gca g 0, (120, .inl (fun _ => 0))))] ++ T1 := ⟨_, rfl⟩
  rw [show [(h0, .inr (11, [.ref q1, .null, .null, .null, .null, .null, .null, .null, .null, .int 0, .int 0]))] ++ (kX1_init_w g q19 (q20, q21, q22, q23) ++ T1) = ((h0, .inr (11, [.ref q1, .null, .null, .null, .null, .null, .null, .null, .null, .int 0, .int 0])) :: T2) from by rw [eT2]; rfl]
  refine K_putF C I (i := 0) fl_RX11_19 fpf_RX11_1 rfl rfl rfl (Nat.le_of_ble_eq_true rfl) dX11_init_23 ?_
  show KW x g 2 A 23 1944 ((h0, .inr (11, [.ref q1, .ref q19, .null, .null, .null, .null, .null, .null, .null, .int 0, .int 0])) :: T2) 26 [(0, .ref h0)] []
  refine K_aload_n C 0 dX11_init_26 rfl 0 rfl ?_
  refine K_new C (ci := 6) (fs := [.null, .null, .null, .null, .int 0, .int 0, .int 0]) (pre := [(h0, .inr (11, [.ref q1, .ref q19, .null, .null, .null, .null, .null, .null, .null, .int 0, .int 0]))]) (tl := T2) inW_RX6 tyX6 tyX6_ok cl_RX11_23 is_RX6 in_RX6 rfl nf_RX6 (Nat.le_of_ble_eq_true rfl) (Nat.le_of_ble_eq_true rfl) rfl dX11_init_27 (fun q24 => ?_)
  show KW x g 2 A 24 1951 ((h0, .inr (11, [.ref q1, .ref q19, .null, .null, .null, .null, .null, .null, .null, .int 0, .int 0])) :: (q24, .inr (6, [.null, .null, .null, .null, .int 0, .int 0, .int 0])) :: T2) 30 [(0, .ref h0)] [.ref q24, .ref h0]
  refine K_dup C rfl dX11_init_30 ?_
  refine K_aload_n C 0 dX11_init_31 rfl 0 rfl ?_
  refine K_get C (i := 0) fl_RX11_10 rfl rfl dX11_init_32 ?_
  refine K_init C mwi_X6_init rfl ml_RX11_25 (k_X6_init x.2.1 g q24 q1) (pre := [(h0, .inr (11, [.ref q1, .ref q19, .null, .null, .null, .null, .null, .null, .null, .int 0, .int 0]))]) (tl := T2) rfl (Nat.le_of_ble_eq_true rfl) (Nat.le_of_ble_eq_true rfl) rfl rfl (Nat.le_of_ble_eq_true rfl) (Nat.le_of_ble_eq_true rfl) (Nat.le_of_ble_eq_true rfl) dX11_init_35 (fun u => ?_)
  obtain ⟨q25, q26, q27, q28, q29, q30, q31⟩ := u
  obtain ⟨T3, eT3⟩ : ∃ z, z = [(q24, .inr (6, [.ref q1, .ref q27, .ref q26, .ref q25, .int 0, .int 0, .int 0])), (q25, .inl (gca g 0, (3, .inl (fun _ => 0)))), (q26, .inl (gca g 0, (3, .inl (fun _ => 0)))), (q27, .inr (1, [.ref q31, .ref q30, .ref q29, .ref q28, .int 0])), (q28, .inl (gca g 0, (120, .inl (fun _ => 0)))), (q29, .inl (gca g 0, (120, .inl (fun _ => 0)))), (q30, .inl (gca g 0, (120, .inl (fun _ => 0)))), (q31, .inl (gca g 0, (120, .inl (fun _ => 0))))] ++ T2 := ⟨_, rfl⟩
  rw [show [(h0, .inr (11, [.ref q1, .ref q19, .null, .null, .null, .null, .null, .null, .null, .int 0, .int 0]))] ++ (kX6_init_w g q24 q1 (q25, q26, q27, q28, q29, q30, q31) ++ T2) = ((h0, .inr (11, [.ref q1, .ref q19, .null, .null, .null, .null, .null, .null, .null, .int 0, .int 0])) :: T3) from by rw [eT3]; rfl]
  refine K_putF C I (i := 0) fl_RX11_28 fpf_RX11_2 rfl rfl rfl (Nat.le_of_ble_eq_true rfl) dX11_init_38 ?_
  show KW x g 2 A 31 2442 ((h0, .inr (11, [.ref q1, .ref q19, .ref q24, .null, .null, .null, .null, .null, .null, .int 0, .int 0])) :: T3) 41 [(0, .ref h0)] []
  refine K_aload_n C 0 dX11_init_41 rfl 0 rfl ?_
  refine K_new C (ci := 3) (fs := [.null, .null, .null, .null, .null, .null, .null, .null, .null, .int 0, .int 0, .int 0]) (pre := [(h0, .inr (11, [.ref q1, .ref q19, .ref q24, .null, .null, .null, .null, .null, .null, .int 0, .int 0]))]) (tl := T3) inW_RX3 tyX3 tyX3_ok cl_RX11_32 is_RX3 in_RX3 rfl nf_RX3 (Nat.le_of_ble_eq_true rfl) (Nat.le_of_ble_eq_true rfl) rfl dX11_init_42 (fun q32 => ?_)
  show KW x g 2 A 32 2454 ((h0, .inr (11, [.ref q1, .ref q19, .ref q24, .null, .null, .null, .null, .null, .null, .int 0, .int 0])) :: (q32, .inr (3, [.null, .null, .null, .null, .null, .null, .null, .null, .null, .int 0, .int 0, .int 0])) :: T3) 45 [(0, .ref h0)] [.ref q32, .ref h0]
  refine K_dup C rfl dX11_init_45 ?_
  refine K_aload_n C 0 dX11_init_46 rfl 0 rfl ?_
  refine K_get C (i := 0) fl_RX11_10 rfl rfl dX11_init_47 ?_
  refine K_aload_n C 0 dX11_init_50 rfl 0 rfl ?_
  refine K_get C (i := 0) fl_RX11_19 rfl rfl dX11_init_51 ?_
  refine K_init C mwi_X3_init rfl ml_RX11_34 (k_X3_init x.2.1 g q32 q1 q19) (pre := [(h0, .inr (11, [.ref q1, .ref q19, .ref q24, .null, .null, .null, .null, .null, .null, .int 0, .int 0]))]) (tl := T3) rfl (Nat.le_of_ble_eq_true rfl) (Nat.le_of_ble_eq_true rfl) rfl rfl (Nat.le_of_ble_eq_true rfl) (Nat.le_of_ble_eq_true rfl) (Nat.le_of_ble_eq_true rfl) dX11_init_54 (fun u => ?_)
  obtain ⟨q33, q34, q35, q36, q37, q38, q39⟩ := u
  obtain ⟨T4, eT4⟩ : ∃ z, z = [(q32, .inr (3, [.ref q1, .ref q19, .ref q39, .ref q38, .ref q37, .ref q36, .ref q35, .ref q34, .ref q33, .int 0, .int 0, .int 0])), (q33, .inl (gca g 0, (8, .inl (fun _ => 0)))), (q34, .inl (gca g 0, (8, .inl (fun _ => 0)))), (q35, .inl (gca g 0, (6, .inl (fun _ => 0)))), (q36, .inl (gca g 0, (6, .inl (fun _ => 0)))), (q37, .inl (gca g 0, (8, .inl (fun _ => 0)))), (q38, .inl (gca g 3, (48, .inl (fun _ => 0)))), (q39, .inl (gca g 0, (8, .inl (fun _ => 0))))] ++ T3 := ⟨_, rfl⟩
  rw [show [(h0, .inr (11, [.ref q1, .ref q19, .ref q24, .null, .null, .null, .null, .null, .null, .int 0, .int 0]))] ++ (kX3_init_w g q32 q1 q19 (q33, q34, q35, q36, q37, q38, q39) ++ T3) = ((h0, .inr (11, [.ref q1, .ref q19, .ref q24, .null, .null, .null, .null, .null, .null, .int 0, .int 0])) :: T4) from by rw [eT4]; rfl]
  refine K_putF C I (i := 0) fl_RX11_37 fpf_RX11_3 rfl rfl rfl (Nat.le_of_ble_eq_true rfl) dX11_init_57 ?_
  show KW x g 2 A 39 2546 ((h0, .inr (11, [.ref q1, .ref q19, .ref q24, .ref q32, .null, .null, .null, .null, .null, .int 0, .int 0])) :: T4) 60 [(0, .ref h0)] []
  refine K_aload_n C 0 dX11_init_60 rfl 0 rfl ?_
  refine K_new C (ci := 4) (fs := [.null, .null, .null, .int 0]) (pre := [(h0, .inr (11, [.ref q1, .ref q19, .ref q24, .ref q32, .null, .null, .null, .null, .null, .int 0, .int 0]))]) (tl := T4) inW_RX4 tyX4 tyX4_ok cl_RX11_41 is_RX4 in_RX4 rfl nf_RX4 (Nat.le_of_ble_eq_true rfl) (Nat.le_of_ble_eq_true rfl) rfl dX11_init_61 (fun q40 => ?_)
  show KW x g 2 A 40 2550 ((h0, .inr (11, [.ref q1, .ref q19, .ref q24, .ref q32, .null, .null, .null, .null, .null, .int 0, .int 0])) :: (q40, .inr (4, [.null, .null, .null, .int 0])) :: T4) 64 [(0, .ref h0)] [.ref q40, .ref h0]
  refine K_dup C rfl dX11_init_64 ?_
  refine K_initN C mwi_X4_init rfl (nest_in 5 rfl) (k_X4_init x.2.1 g q40) (pre := [(h0, .inr (11, [.ref q1, .ref q19, .ref q24, .ref q32, .null, .null, .null, .null, .null, .int 0, .int 0]))]) (tl := T4) rfl (Nat.le_of_ble_eq_true rfl) (Nat.le_of_ble_eq_true rfl) rfl rfl (Nat.le_of_ble_eq_true rfl) (Nat.le_of_ble_eq_true rfl) (Nat.le_of_ble_eq_true rfl) dX11_init_65 (fun u => ?_)
  obtain ⟨q41, q42, q43⟩ := u
  obtain ⟨T5, eT5⟩ : ∃ z, z = [(q40, .inr (4, [.ref q43, .ref q42, .ref q41, .int 0])), (q41, .inl (gca g 0, (20, .inl (fun _ => 0)))), (q42, .inl (gca g 0, (20, .inl (fun _ => 0)))), (q43, .inl (gca g 0, (20, .inl (fun _ => 0))))] ++ T4 := ⟨_, rfl⟩
  rw [show [(h0, .inr (11, [.ref q1, .ref q19, .ref q24, .ref q32, .null, .null, .null, .null, .null, .int 0, .int 0]))] ++ (kX4_init_w g q40 (q41, q42, q43) ++ T4) = ((h0, .inr (11, [.ref q1, .ref q19, .ref q24, .ref q32, .null, .null, .null, .null, .null, .int 0, .int 0])) :: T5) from by rw [eT5]; rfl]
  refine K_putF C I (i := 0) fl_RX11_44 fpf_RX11_4 rfl rfl rfl (Nat.le_of_ble_eq_true rfl) dX11_init_68 ?_
  show KW x g 2 A 43 2610 ((h0, .inr (11, [.ref q1, .ref q19, .ref q24, .ref q32, .ref q40, .null, .null, .null, .null, .int 0, .int 0])) :: T5) 71 [(0, .ref h0)] []
  refine K_aload_n C 0 dX11_init_71 rfl 0 rfl ?_
  refine K_new C (ci := 5) (fs := [.null, .null, .null, .int 0, .int 0]) (pre := [(h0, .inr (11, [.ref q1, .ref q19, .ref q24, .ref q32, .ref q40, .null, .null, .null, .null, .int 0, .int 0]))]) (tl := T5) inW_RX5 tyX5 tyX5_ok cl_RX11_48 is_RX5 in_RX5 rfl nf_RX5 (Nat.le_of_ble_eq_true rfl) (Nat.le_of_ble_eq_true rfl) rfl dX11_init_72 (fun q44 => ?_)
  show KW x g 2 A 44 2615 ((h0, .inr (11, [.ref q1, .ref q19, .ref q24, .ref q32, .ref q40, .null, .null, .null, .null, .int 0, .int 0])) :: (q44, .inr (5, [.null, .null, .null, .int 0, .int 0])) :: T5) 75 [(0, .ref h0)] [.ref q44, .ref h0]
  refine K_dup C rfl dX11_init_75 ?_
  refine K_initN C mwi_X5_init rfl (nest_in 6 rfl) (k_X5_init x.2.1 g q44) (pre := [(h0, .inr (11, [.ref q1, .ref q19, .ref q24, .ref q32, .ref q40, .null, .null, .null, .null, .int 0, .int 0]))]) (tl := T5) rfl (Nat.le_of_ble_eq_true rfl) (Nat.le_of_ble_eq_true rfl) rfl rfl (Nat.le_of_ble_eq_true rfl) (Nat.le_of_ble_eq_true rfl) (Nat.le_of_ble_eq_true rfl) dX11_init_76 (fun u => ?_)
  obtain ⟨q45, q46, q47⟩ := u
  obtain ⟨T6, eT6⟩ : ∃ z, z = [(q44, .inr (5, [.ref q47, .ref q46, .ref q45, .int 0, .int 0])), (q45, .inl (gca g 0, (8, .inl (fun _ => 0)))), (q46, .inl (gca g 0, (160, .inl (fun _ => 0)))), (q47, .inl (gca g 0, (160, .inl (fun _ => 0))))] ++ T5 := ⟨_, rfl⟩
  rw [show [(h0, .inr (11, [.ref q1, .ref q19, .ref q24, .ref q32, .ref q40, .null, .null, .null, .null, .int 0, .int 0]))] ++ (kX5_init_w g q44 (q45, q46, q47) ++ T5) = ((h0, .inr (11, [.ref q1, .ref q19, .ref q24, .ref q32, .ref q40, .null, .null, .null, .null, .int 0, .int 0])) :: T6) from by rw [eT6]; rfl]
  refine K_putF C I (i := 0) fl_RX11_51 fpf_RX11_5 rfl rfl rfl (Nat.le_of_ble_eq_true rfl) dX11_init_79 ?_
  show KW x g 2 A 47 2943 ((h0, .inr (11, [.ref q1, .ref q19, .ref q24, .ref q32, .ref q40, .ref q44, .null, .null, .null, .int 0, .int 0])) :: T6) 82 [(0, .ref h0)] []
  refine K_aload_n C 0 dX11_init_82 rfl 0 rfl ?_
  refine K_new C (ci := 7) (fs := [.null, .null, .null, .null, .null, .null, .null, .null, .null, .int 0]) (pre := [(h0, .inr (11, [.ref q1, .ref q19, .ref q24, .ref q32, .ref q40, .ref q44, .null, .null, .null, .int 0, .int 0]))]) (tl := T6) inW_RX7 tyX7 tyX7_ok cl_RX11_55 is_RX7 in_RX7 rfl nf_RX7 (Nat.le_of_ble_eq_true rfl) (Nat.le_of_ble_eq_true rfl) rfl dX11_init_83 (fun q48 => ?_)
  show KW x g 2 A 48 2953 ((h0, .inr (11, [.ref q1, .ref q19, .ref q24, .ref q32, .ref q40, .ref q44, .null, .null, .null, .int 0, .int 0])) :: (q48, .inr (7, [.null, .null, .null, .null, .null, .null, .null, .null, .null, .int 0])) :: T6) 86 [(0, .ref h0)] [.ref q48, .ref h0]
  refine K_dup C rfl dX11_init_86 ?_
  refine K_aload_n C 0 dX11_init_87 rfl 0 rfl ?_
  refine K_get C (i := 0) fl_RX11_10 rfl rfl dX11_init_88 ?_
  refine K_aload_n C 0 dX11_init_91 rfl 0 rfl ?_
  refine K_get C (i := 0) fl_RX11_19 rfl rfl dX11_init_92 ?_
  refine K_aload_n C 0 dX11_init_95 rfl 0 rfl ?_
  refine K_get C (i := 0) fl_RX11_44 rfl rfl dX11_init_96 ?_
  refine K_aload_n C 0 dX11_init_99 rfl 0 rfl ?_
  refine K_get C (i := 0) fl_RX11_51 rfl rfl dX11_init_100 ?_
  refine K_init C mwi_X7_init rfl ml_RX11_57 (k_X7_init x.2.1 g q48 q1 q19 q40 q44) (pre := [(h0, .inr (11, [.ref q1, .ref q19, .ref q24, .ref q32, .ref q40, .ref q44, .null, .null, .null, .int 0, .int 0]))]) (tl := T6) rfl (Nat.le_of_ble_eq_true rfl) (Nat.le_of_ble_eq_true rfl) rfl rfl (Nat.le_of_ble_eq_true rfl) (Nat.le_of_ble_eq_true rfl) (Nat.le_of_ble_eq_true rfl) dX11_init_103 (fun u => ?_)
  obtain ⟨q49, q50, q51, q52, q53⟩ := u
  obtain ⟨T7, eT7⟩ : ∃ z, z = [(q48, .inr (7, [.ref q1, .ref q19, .ref q40, .ref q44, .ref q53, .ref q52, .ref q51, .ref q50, .ref q49, vi (-1)])), (q49, .inl (gca g 0, (120, .inl (fun _ => 0)))), (q50, .inl (gca g 0, (120, .inl (fun _ => 0)))), (q51, .inl (gca g 0, (120, .inl (fun _ => 0)))), (q52, .inl (gca g 0, (120, .inl (fun _ => 0)))), (q53, .inl (gca g 0, (120, .inl (fun _ => 0))))] ++ T6 := ⟨_, rfl⟩
  rw [show [(h0, .inr (11, [.ref q1, .ref q19, .ref q24, .ref q32, .ref q40, .ref q44, .null, .null, .null, .int 0, .int 0]))] ++ (kX7_init_w g q48 q1 q19 q40 q44 (q49, q50, q51, q52, q53) ++ T6) = ((h0, .inr (11, [.ref q1, .ref q19, .ref q24, .ref q32, .ref q40, .ref q44, .null, .null, .null, .int 0, .int 0])) :: T7) from by rw [eT7]; rfl]
  refine K_putF C I (i := 0) fl_RX11_60 fpf_RX11_6 rfl rfl rfl (Nat.le_of_ble_eq_true rfl) dX11_init_106 ?_
  show KW x g 2 A 53 3553 ((h0, .inr (11, [.ref q1, .ref q19, .ref q24, .ref q32, .ref q40, .ref q44, .ref q48, .null, .null, .int 0, .int 0])) :: T7) 109 [(0, .ref h0)] []
  refine K_aload_n C 0 dX11_init_109 rfl 0 rfl ?_
  refine K_new C (ci := 10) (fs := [.null, .null, .null, .null, .null, .null, .int 0]) (pre := [(h0, .inr (11, [.ref q1, .ref q19, .ref q24, .ref q32, .ref q40, .ref q44, .ref q48, .null, .null, .int 0, .int 0]))]) (tl := T7) inW_RX10 tyX10 tyX10_ok cl_RX11_64 is_RX10 in_RX10 rfl nf_RX10 (Nat.le_of_ble_eq_true rfl) (Nat.le_of_ble_eq_true rfl) rfl dX11_init_110 (fun q54 => ?_)
  show KW x g 2 A 54 3560 ((h0, .inr (11, [.ref q1, .ref q19, .ref q24, .ref q32, .ref q40, .ref q44, .ref q48, .null, .null, .int 0, .int 0])) :: (q54, .inr (10, [.null, .null, .null, .null, .null, .null, .int 0])) :: T7) 113 [(0, .ref h0)] [.ref q54, .ref h0]
  refine K_dup C rfl dX11_init_113 ?_
  refine K_aload_n C 0 dX11_init_114 rfl 0 rfl ?_
  refine K_get C (i := 0) fl_RX11_10 rfl rfl dX11_init_115 ?_
  refine K_aload_n C 0 dX11_init_118 rfl 0 rfl ?_
  refine K_get C (i := 0) fl_RX11_19 rfl rfl dX11_init_119 ?_
  refine K_aload_n C 0 dX11_init_122 rfl 0 rfl ?_
  refine K_get C (i := 0) fl_RX11_60 rfl rfl dX11_init_123 ?_
  refine K_init C mwi_X10_init rfl ml_RX11_66 (k_X10_init x.2.1 g q54 q1 q19 q48) (pre := [(h0, .inr (11, [.ref q1, .ref q19, .ref q24, .ref q32, .ref q40, .ref q44, .ref q48, .null, .null, .int 0, .int 0]))]) (tl := T7) rfl (Nat.le_of_ble_eq_true rfl) (Nat.le_of_ble_eq_true rfl) rfl rfl (Nat.le_of_ble_eq_true rfl) (Nat.le_of_ble_eq_true rfl) (Nat.le_of_ble_eq_true rfl) dX11_init_126 (fun u => ?_)
  obtain ⟨q55, q56, q57⟩ := u
  obtain ⟨T8, eT8⟩ : ∃ z, z = [(q54, .inr (10, [.ref q1, .ref q19, .ref q48, .ref q57, .ref q56, .ref q55, .int 0])), (q55, .inl (gca g 3, (120, .inl (fun _ => 0)))), (q56, .inl (gca g 0, (60, .inl (fun _ => 0)))), (q57, .inl (gca g 0, (60, .inl (fun _ => 0))))] ++ T7 := ⟨_, rfl⟩
  rw [show [(h0, .inr (11, [.ref q1, .ref q19, .ref q24, .ref q32, .ref q40, .ref q44, .ref q48, .null, .null, .int 0, .int 0]))] ++ (kX10_init_w g q54 q1 q19 q48 (q55, q56, q57) ++ T7) = ((h0, .inr (11, [.ref q1, .ref q19, .ref q24, .ref q32, .ref q40, .ref q44, .ref q48, .null, .null, .int 0, .int 0])) :: T8) from by rw [eT8]; rfl]
  refine K_putF C I (i := 0) fl_RX11_69 fpf_RX11_7 rfl rfl rfl (Nat.le_of_ble_eq_true rfl) dX11_init_129 ?_
  show KW x g 2 A 57 3800 ((h0, .inr (11, [.ref q1, .ref q19, .ref q24, .ref q32, .ref q40, .ref q44, .ref q48, .ref q54, .null, .int 0, .int 0])) :: T8) 132 [(0, .ref h0)] []
  refine K_aload_n C 0 dX11_init_132 rfl 0 rfl ?_
  refine K_bipush C dX11_init_133 (bp8 (by decide) (by decide)) ?_
  refine K_newq C (n := 6) (pre := [(h0, .inr (11, [.ref q1, .ref q19, .ref q24, .ref q32, .ref q40, .ref q44, .ref q48, .ref q54, .null, .int 0, .int 0]))]) (tl := T8) cl_RX11_73 (by decide) (Nat.le_of_ble_eq_true rfl) (Nat.le_of_ble_eq_true rfl) rfl dX11_init_135 (fun q58 => ?_)
  show KW x g 2 A 58 3806 ((h0, .inr (11, [.ref q1, .ref q19, .ref q24, .ref q32, .ref q40, .ref q44, .ref q48, .ref q54, .null, .int 0, .int 0])) :: (q58, .inl (gca g 4, (6, .inr (.inr (.inr (.inr (fun _ => none))))))) :: T8) 138 [(0, .ref h0)] [.ref q58, .ref h0]
  refine K_putF C I (i := 0) fl_RX11_75 fpf_RX11_8 rfl rfl rfl (Nat.le_of_ble_eq_true rfl) dX11_init_138 ?_
  show KW x g 2 A 58 3806 ((h0, .inr (11, [.ref q1, .ref q19, .ref q24, .ref q32, .ref q40, .ref q44, .ref q48, .ref q54, .ref q58, .int 0, .int 0])) :: (q58, .inl (gca g 4, (6, .inr (.inr (.inr (.inr (fun _ => none))))))) :: T8) 141 [(0, .ref h0)] []
  refine K_iconst C dX11_init_141 ?_
  refine K_istore_n (lo2 := [(1, vi 0), (0, .ref h0)]) C 1 dX11_init_142 rfl (by decide) rfl ?_
  refine K_iload_n C 1 dX11_init_143 rfl 0 rfl ?_
  refine K_bipush C dX11_init_144 (bp8 (by decide) (by decide)) ?_
  refine K_icmp_ge C ⟨by decide, by decide⟩ ⟨by decide, by decide⟩ (tgt := 168) dX11_init_146 (by decide) (fun z => absurd z (by decide)) (fun _ => ?_)
  refine K_aload_n C 0 dX11_init_149 rfl 1 rfl ?_
  refine K_get C (i := 0) fl_RX11_75 rfl rfl dX11_init_150 ?_
  refine K_iload_n C 1 dX11_init_153 rfl 0 rfl ?_
  refine K_new C (ci := 9) (fs := [.int 0, .int 0, .null, .null]) (pre := [(h0, .inr (11, [.ref q1, .ref q19, .ref q24, .ref q32, .ref q40, .ref q44, .ref q48, .ref q54, .ref q58, .int 0, .int 0])), (q58, .inl (gca g 4, (6, .inr (.inr (.inr (.inr (fun _ => none)))))))]) (tl := T8) inW_RX9 tyX9 tyX9_ok cl_RX11_73 is_RX9 in_RX9 rfl nf_RX9 (Nat.le_of_ble_eq_true rfl) (Nat.le_of_ble_eq_true rfl) rfl dX11_init_154 (fun q59 => ?_)
  show KW x g 2 A 59 3810 ((h0, .inr (11, [.ref q1, .ref q19, .ref q24, .ref q32, .ref q40, .ref q44, .ref q48, .ref q54, .ref q58, .int 0, .int 0])) :: (q58, .inl (gca g 4, (6, .inr (.inr (.inr (.inr (fun _ => none))))))) :: (q59, .inr (9, [.int 0, .int 0, .null, .null])) :: T8) 157 [(1, vi 0), (0, .ref h0)] [.ref q59, vi 0, .ref q58]
  refine K_dup C rfl dX11_init_157 ?_
  refine K_initN C mwi_X9_init rfl (nest_in 7 rfl) (k_X9_init x.2.1 g q59) (pre := [(h0, .inr (11, [.ref q1, .ref q19, .ref q24, .ref q32, .ref q40, .ref q44, .ref q48, .ref q54, .ref q58, .int 0, .int 0])), (q58, .inl (gca g 4, (6, .inr (.inr (.inr (.inr (fun _ => none)))))))]) (tl := T8) rfl (Nat.le_of_ble_eq_true rfl) (Nat.le_of_ble_eq_true rfl) rfl rfl (Nat.le_of_ble_eq_true rfl) (Nat.le_of_ble_eq_true rfl) (Nat.le_of_ble_eq_true rfl) dX11_init_158 (fun u => ?_)
  obtain ⟨q60, q61, q62, q63, q64, q65⟩ := u
  obtain ⟨T9, eT9⟩ : ∃ z, z = [(q59, .inr (9, [.int 0, .int 0, .ref q65, .ref q60])), (q60, .inr (1, [.ref q64, .ref q63, .ref q62, .ref q61, .int 0])), (q61, .inl (gca g 0, (120, .inl (fun _ => 0)))), (q62, .inl (gca g 0, (120, .inl (fun _ => 0)))), (q63, .inl (gca g 0, (120, .inl (fun _ => 0)))), (q64, .inl (gca g 0, (120, .inl (fun _ => 0)))), (q65, .inl (gca g 1, (100, .inr (.inl (fun _ => 0)))))] ++ T8 := ⟨_, rfl⟩
  rw [show [(h0, .inr (11, [.ref q1, .ref q19, .ref q24, .ref q32, .ref q40, .ref q44, .ref q48, .ref q54, .ref q58, .int 0, .int 0])), (q58, .inl (gca g 4, (6, .inr (.inr (.inr (.inr (fun _ => none)))))))] ++ (kX9_init_w g q59 (q60, q61, q62, q63, q64, q65) ++ T8) = ((h0, .inr (11, [.ref q1, .ref q19, .ref q24, .ref q32, .ref q40, .ref q44, .ref q48, .ref q54, .ref q58, .int 0, .int 0])) :: (q58, .inl (gca g 4, (6, .inr (.inr (.inr (.inr (fun _ => none))))))) :: T9) from by rw [eT9]; rfl]
  refine K_astq C (q0 := 1) (i := 0) (n := 6) (f := (fun _ => none)) (v := q59) (T := TX9) (N := 4) (ci := 9) (vs := [.int 0, .int 0, .ref q65, .ref q60]) rfl (by rw [eT9]; simp) rfl (by decide) (by decide) (by decide) dX11_init_161 ?_
  show KW x g 2 A 65 4395 ((h0, .inr (11, [.ref q1, .ref q19, .ref q24, .ref q32, .ref q40, .ref q44, .ref q48, .ref q54, .ref q58, .int 0, .int 0])) :: (q58, .inl (gca g 4, (6, .inr (.inr (.inr (.inr (va_up (fun _ => none) 0 (some q59)))))))) :: T9) 162 [(1, vi 0), (0, .ref h0)] []
  refine K_iinc C 1 0 dX11_init_162 rfl (by decide) ?_
  show KW x g 2 A 65 4395 ((h0, .inr (11, [.ref q1, .ref q19, .ref q24, .ref q32, .ref q40, .ref q44, .ref q48, .ref q54, .ref q58, .int 0, .int 0])) :: (q58, .inl (gca g 4, (6, .inr (.inr (.inr (.inr (va_up (fun _ => none) 0 (some q59)))))))) :: T9) 165 [(1, vi 1), (0, .ref h0)] []
  refine K_goto C (tgt := 143) dX11_init_165 (by decide) ?_
  refine K_iload_n C 1 dX11_init_143 rfl 0 rfl ?_
  refine K_bipush C dX11_init_144 (bp8 (by decide) (by decide)) ?_
  refine K_icmp_ge C ⟨by decide, by decide⟩ ⟨by decide, by decide⟩ (tgt := 168) dX11_init_146 (by decide) (fun z => absurd z (by decide)) (fun _ => ?_)
  refine K_aload_n C 0 dX11_init_149 rfl 1 rfl ?_
  refine K_get C (i := 0) fl_RX11_75 rfl rfl dX11_init_150 ?_
  refine K_iload_n C 1 dX11_init_153 rfl 0 rfl ?_
  refine K_new C (ci := 9) (fs := [.int 0, .int 0, .null, .null]) (pre := [(h0, .inr (11, [.ref q1, .ref q19, .ref q24, .ref q32, .ref q40, .ref q44, .ref q48, .ref q54, .ref q58, .int 0, .int 0])), (q58, .inl (gca g 4, (6, .inr (.inr (.inr (.inr (va_up (fun _ => none) 0 (some q59))))))))]) (tl := T9) inW_RX9 tyX9 tyX9_ok cl_RX11_73 is_RX9 in_RX9 rfl nf_RX9 (Nat.le_of_ble_eq_true rfl) (Nat.le_of_ble_eq_true rfl) rfl dX11_init_154 (fun q66 => ?_)
  show KW x g 2 A 66 4399 ((h0, .inr (11, [.ref q1, .ref q19, .ref q24, .ref q32, .ref q40, .ref q44, .ref q48, .ref q54, .ref q58, .int 0, .int 0])) :: (q58, .inl (gca g 4, (6, .inr (.inr (.inr (.inr (va_up (fun _ => none) 0 (some q59)))))))) :: (q66, .inr (9, [.int 0, .int 0, .null, .null])) :: T9) 157 [(1, vi 1), (0, .ref h0)] [.ref q66, vi 1, .ref q58]
  refine K_dup C rfl dX11_init_157 ?_
  refine K_initN C mwi_X9_init rfl (nest_in 7 rfl) (k_X9_init x.2.1 g q66) (pre := [(h0, .inr (11, [.ref q1, .ref q19, .ref q24, .ref q32, .ref q40, .ref q44, .ref q48, .ref q54, .ref q58, .int 0, .int 0])), (q58, .inl (gca g 4, (6, .inr (.inr (.inr (.inr (va_up (fun _ => none) 0 (some q59))))))))]) (tl := T9) rfl (Nat.le_of_ble_eq_true rfl) (Nat.le_of_ble_eq_true rfl) rfl rfl (Nat.le_of_ble_eq_true rfl) (Nat.le_of_ble_eq_true rfl) (Nat.le_of_ble_eq_true rfl) dX11_init_158 (fun u => ?_)
  obtain ⟨q67, q68, q69, q70, q71, q72⟩ := u
  obtain ⟨T10, eT10⟩ : ∃ z, z = [(q66, .inr (9, [.int 0, .int 0, .ref q72, .ref q67])), (q67, .inr (1, [.ref q71, .ref q70, .ref q69, .ref q68, .int 0])), (q68, .inl (gca g 0, (120, .inl (fun _ => 0)))), (q69, .inl (gca g 0, (120, .inl (fun _ => 0)))), (q70, .inl (gca g 0, (120, .inl (fun _ => 0)))), (q71, .inl (gca g 0, (120, .inl (fun _ => 0)))), (q72, .inl (gca g 1, (100, .inr (.inl (fun _ => 0)))))] ++ T9 := ⟨_, rfl⟩
  rw [show [(h0, .inr (11, [.ref q1, .ref q19, .ref q24, .ref q32, .ref q40, .ref q44, .ref q48, .ref q54, .ref q58, .int 0, .int 0])), (q58, .inl (gca g 4, (6, .inr (.inr (.inr (.inr (va_up (fun _ => none) 0 (some q59))))))))] ++ (kX9_init_w g q66 (q67, q68, q69, q70, q71, q72) ++ T9) = ((h0, .inr (11, [.ref q1, .ref q19, .ref q24, .ref q32, .ref q40, .ref q44, .ref q48, .ref q54, .ref q58, .int 0, .int 0])) :: (q58, .inl (gca g 4, (6, .inr (.inr (.inr (.inr (va_up (fun _ => none) 0 (some q59)))))))) :: T10) from by rw [eT10]; rfl]
  refine K_astq C (q0 := 1) (i := 1) (n := 6) (f := (va_up (fun _ => none) 0 (some q59))) (v := q66) (T := TX9) (N := 4) (ci := 9) (vs := [.int 0, .int 0, .ref q72, .ref q67]) rfl (by rw [eT10]; simp) rfl (by decide) (by decide) (by decide) dX11_init_161 ?_
  show KW x g 2 A 72 4984 ((h0, .inr (11, [.ref q1, .ref q19, .ref q24, .ref q32, .ref q40, .ref q44, .ref q48, .ref q54, .ref q58, .int 0, .int 0])) :: (q58, .inl (gca g 4, (6, .inr (.inr (.inr (.inr (va_up (va_up (fun _ => none) 0 (some q59)) 1 (some q66)))))))) :: T10) 162 [(1, vi 1), (0, .ref h0)] []
  refine K_iinc C 1 0 dX11_init_162 rfl (by decide) ?_
  show KW x g 2 A 72 4984 ((h0, .inr (11, [.ref q1, .ref q19, .ref q24, .ref q32, .ref q40, .ref q44, .ref q48, .ref q54, .ref q58, .int 0, .int 0])) :: (q58, .inl (gca g 4, (6, .inr (.inr (.inr (.inr (va_up (va_up (fun _ => none) 0 (some q59)) 1 (some q66)))))))) :: T10) 165 [(1, vi 2), (0, .ref h0)] []
  refine K_goto C (tgt := 143) dX11_init_165 (by decide) ?_
  refine K_iload_n C 1 dX11_init_143 rfl 0 rfl ?_
  refine K_bipush C dX11_init_144 (bp8 (by decide) (by decide)) ?_
  refine K_icmp_ge C ⟨by decide, by decide⟩ ⟨by decide, by decide⟩ (tgt := 168) dX11_init_146 (by decide) (fun z => absurd z (by decide)) (fun _ => ?_)
  refine K_aload_n C 0 dX11_init_149 rfl 1 rfl ?_
  refine K_get C (i := 0) fl_RX11_75 rfl rfl dX11_init_150 ?_
  refine K_iload_n C 1 dX11_init_153 rfl 0 rfl ?_
  refine K_new C (ci := 9) (fs := [.int 0, .int 0, .null, .null]) (pre := [(h0, .inr (11, [.ref q1, .ref q19, .ref q24, .ref q32, .ref q40, .ref q44, .ref q48, .ref q54, .ref q58, .int 0, .int 0])), (q58, .inl (gca g 4, (6, .inr (.inr (.inr (.inr (va_up (va_up (fun _ => none) 0 (some q59)) 1 (some q66))))))))]) (tl := T10) inW_RX9 tyX9 tyX9_ok cl_RX11_73 is_RX9 in_RX9 rfl nf_RX9 (Nat.le_of_ble_eq_true rfl) (Nat.le_of_ble_eq_true rfl) rfl dX11_init_154 (fun q73 => ?_)
  show KW x g 2 A 73 4988 ((h0, .inr (11, [.ref q1, .ref q19, .ref q24, .ref q32, .ref q40, .ref q44, .ref q48, .ref q54, .ref q58, .int 0, .int 0])) :: (q58, .inl (gca g 4, (6, .inr (.inr (.inr (.inr (va_up (va_up (fun _ => none) 0 (some q59)) 1 (some q66)))))))) :: (q73, .inr (9, [.int 0, .int 0, .null, .null])) :: T10) 157 [(1, vi 2), (0, .ref h0)] [.ref q73, vi 2, .ref q58]
  refine K_dup C rfl dX11_init_157 ?_
  refine K_initN C mwi_X9_init rfl (nest_in 7 rfl) (k_X9_init x.2.1 g q73) (pre := [(h0, .inr (11, [.ref q1, .ref q19, .ref q24, .ref q32, .ref q40, .ref q44, .ref q48, .ref q54, .ref q58, .int 0, .int 0])), (q58, .inl (gca g 4, (6, .inr (.inr (.inr (.inr (va_up (va_up (fun _ => none) 0 (some q59)) 1 (some q66))))))))]) (tl := T10) rfl (Nat.le_of_ble_eq_true rfl) (Nat.le_of_ble_eq_true rfl) rfl rfl (Nat.le_of_ble_eq_true rfl) (Nat.le_of_ble_eq_true rfl) (Nat.le_of_ble_eq_true rfl) dX11_init_158 (fun u => ?_)
  obtain ⟨q74, q75, q76, q77, q78, q79⟩ := u
  obtain ⟨T11, eT11⟩ : ∃ z, z = [(q73, .inr (9, [.int 0, .int 0, .ref q79, .ref q74])), (q74, .inr (1, [.ref q78, .ref q77, .ref q76, .ref q75, .int 0])), (q75, .inl (gca g 0, (120, .inl (fun _ => 0)))), (q76, .inl (gca g 0, (120, .inl (fun _ => 0)))), (q77, .inl (gca g 0, (120, .inl (fun _ => 0)))), (q78, .inl (gca g 0, (120, .inl (fun _ => 0)))), (q79, .inl (gca g 1, (100, .inr (.inl (fun _ => 0)))))] ++ T10 := ⟨_, rfl⟩
  rw [show [(h0, .inr (11, [.ref q1, .ref q19, .ref q24, .ref q32, .ref q40, .ref q44, .ref q48, .ref q54, .ref q58, .int 0, .int 0])), (q58, .inl (gca g 4, (6, .inr (.inr (.inr (.inr (va_up (va_up (fun _ => none) 0 (some q59)) 1 (some q66))))))))] ++ (kX9_init_w g q73 (q74, q75, q76, q77, q78, q79) ++ T10) = ((h0, .inr (11, [.ref q1, .ref q19, .ref q24, .ref q32, .ref q40, .ref q44, .ref q48, .ref q54, .ref q58, .int 0, .int 0])) :: (q58, .inl (gca g 4, (6, .inr (.inr (.inr (.inr (va_up (va_up (fun _ => none) 0 (some q59)) 1 (some q66)))))))) :: T11) from by rw [eT11]; rfl]
  refine K_astq C (q0 := 1) (i := 2) (n := 6) (f := (va_up (va_up (fun _ => none) 0 (some q59)) 1 (some q66))) (v := q73) (T := TX9) (N := 4) (ci := 9) (vs := [.int 0, .int 0, .ref q79, .ref q74]) rfl (by rw [eT11]; simp) rfl (by decide) (by decide) (by decide) dX11_init_161 ?_
  show KW x g 2 A 79 5573 ((h0, .inr (11, [.ref q1, .ref q19, .ref q24, .ref q32, .ref q40, .ref q44, .ref q48, .ref q54, .ref q58, .int 0, .int 0])) :: (q58, .inl (gca g 4, (6, .inr (.inr (.inr (.inr (va_up (va_up (va_up (fun _ => none) 0 (some q59)) 1 (some q66)) 2 (some q73)))))))) :: T11) 162 [(1, vi 2), (0, .ref h0)] []
  refine K_iinc C 1 0 dX11_init_162 rfl (by decide) ?_
  show KW x g 2 A 79 5573 ((h0, .inr (11, [.ref q1, .ref q19, .ref q24, .ref q32, .ref q40, .ref q44, .ref q48, .ref q54, .ref q58, .int 0, .int 0])) :: (q58, .inl (gca g 4, (6, .inr (.inr (.inr (.inr (va_up (va_up (va_up (fun _ => none) 0 (some q59)) 1 (some q66)) 2 (some q73)))))))) :: T11) 165 [(1, vi 3), (0, .ref h0)] []
  refine K_goto C (tgt := 143) dX11_init_165 (by decide) ?_
  refine K_iload_n C 1 dX11_init_143 rfl 0 rfl ?_
  refine K_bipush C dX11_init_144 (bp8 (by decide) (by decide)) ?_
  refine K_icmp_ge C ⟨by decide, by decide⟩ ⟨by decide, by decide⟩ (tgt := 168) dX11_init_146 (by decide) (fun z => absurd z (by decide)) (fun _ => ?_)
  refine K_aload_n C 0 dX11_init_149 rfl 1 rfl ?_
  refine K_get C (i := 0) fl_RX11_75 rfl rfl dX11_init_150 ?_
  refine K_iload_n C 1 dX11_init_153 rfl 0 rfl ?_
  refine K_new C (ci := 9) (fs := [.int 0, .int 0, .null, .null]) (pre := [(h0, .inr (11, [.ref q1, .ref q19, .ref q24, .ref q32, .ref q40, .ref q44, .ref q48, .ref q54, .ref q58, .int 0, .int 0])), (q58, .inl (gca g 4, (6, .inr (.inr (.inr (.inr (va_up (va_up (va_up (fun _ => none) 0 (some q59)) 1 (some q66)) 2 (some q73))))))))]) (tl := T11) inW_RX9 tyX9 tyX9_ok cl_RX11_73 is_RX9 in_RX9 rfl nf_RX9 (Nat.le_of_ble_eq_true rfl) (Nat.le_of_ble_eq_true rfl) rfl dX11_init_154 (fun q80 => ?_)
  show KW x g 2 A 80 5577 ((h0, .inr (11, [.ref q1, .ref q19, .ref q24, .ref q32, .ref q40, .ref q44, .ref q48, .ref q54, .ref q58, .int 0, .int 0])) :: (q58, .inl (gca g 4, (6, .inr (.inr (.inr (.inr (va_up (va_up (va_up (fun _ => none) 0 (some q59)) 1 (some q66)) 2 (some q73)))))))) :: (q80, .inr (9, [.int 0, .int 0, .null, .null])) :: T11) 157 [(1, vi 3), (0, .ref h0)] [.ref q80, vi 3, .ref q58]
  refine K_dup C rfl dX11_init_157 ?_
  refine K_initN C mwi_X9_init rfl (nest_in 7 rfl) (k_X9_init x.2.1 g q80) (pre := [(h0, .inr (11, [.ref q1, .ref q19, .ref q24, .ref q32, .ref q40, .ref q44, .ref q48, .ref q54, .ref q58, .int 0, .int 0])), (q58, .inl (gca g 4, (6, .inr (.inr (.inr (.inr (va_up (va_up (va_up (fun _ => none) 0 (some q59)) 1 (some q66)) 2 (some q73))))))))]) (tl := T11) rfl (Nat.le_of_ble_eq_true rfl) (Nat.le_of_ble_eq_true rfl) rfl rfl (Nat.le_of_ble_eq_true rfl) (Nat.le_of_ble_eq_true rfl) (Nat.le_of_ble_eq_true rfl) dX11_init_158 (fun u => ?_)
  obtain ⟨q81, q82, q83, q84, q85, q86⟩ := u
  obtain ⟨T12, eT12⟩ : ∃ z, z = [(q80, .inr (9, [.int 0, .int 0, .ref q86, .ref q81])), (q81, .inr (1, [.ref q85, .ref q84, .ref q83, .ref q82, .int 0])), (q82, .inl (gca g 0, (120, .inl (fun _ => 0)))), (q83, .inl (gca g 0, (120, .inl (fun _ => 0)))), (q84, .inl (gca g 0, (120, .inl (fun _ => 0)))), (q85, .inl (gca g 0, (120, .inl (fun _ => 0)))), (q86, .inl (gca g 1, (100, .inr (.inl (fun _ => 0)))))] ++ T11 := ⟨_, rfl⟩
  rw [show [(h0, .inr (11, [.ref q1, .ref q19, .ref q24, .ref q32, .ref q40, .ref q44, .ref q48, .ref q54, .ref q58, .int 0, .int 0])), (q58, .inl (gca g 4, (6, .inr (.inr (.inr (.inr (va_up (va_up (va_up (fun _ => none) 0 (some q59)) 1 (some q66)) 2 (some q73))))))))] ++ (kX9_init_w g q80 (q81, q82, q83, q84, q85, q86) ++ T11) = ((h0, .inr (11, [.ref q1, .ref q19, .ref q24, .ref q32, .ref q40, .ref q44, .ref q48, .ref q54, .ref q58, .int 0, .int 0])) :: (q58, .inl (gca g 4, (6, .inr (.inr (.inr (.inr (va_up (va_up (va_up (fun _ => none) 0 (some q59)) 1 (some q66)) 2 (some q73)))))))) :: T12) from by rw [eT12]; rfl]
  refine K_astq C (q0 := 1) (i := 3) (n := 6) (f := (va_up (va_up (va_up (fun _ => none) 0 (some q59)) 1 (some q66)) 2 (some q73))) (v := q80) (T := TX9) (N := 4) (ci := 9) (vs := [.int 0, .int 0, .ref q86, .ref q81]) rfl (by rw [eT12]; simp) rfl (by decide) (by decide) (by decide) dX11_init_161 ?_
  show KW x g 2 A 86 6162 ((h0, .inr (11, [.ref q1, .ref q19, .ref q24, .ref q32, .ref q40, .ref q44, .ref q48, .ref q54, .ref q58, .int 0, .int 0])) :: (q58, .inl (gca g 4, (6, .inr (.inr (.inr (.inr (va_up (va_up (va_up (va_up (fun _ => none) 0 (some q59)) 1 (some q66)) 2 (some q73)) 3 (some q80)))))))) :: T12) 162 [(1, vi 3), (0, .ref h0)] []
  refine K_iinc C 1 0 dX11_init_162 rfl (by decide) ?_
  show KW x g 2 A 86 6162 ((h0, .inr (11, [.ref q1, .ref q19, .ref q24, .ref q32, .ref q40, .ref q44, .ref q48, .ref q54, .ref q58, .int 0, .int 0])) :: (q58, .inl (gca g 4, (6, .inr (.inr (.inr (.inr (va_up (va_up (va_up (va_up (fun _ => none) 0 (some q59)) 1 (some q66)) 2 (some q73)) 3 (some q80)))))))) :: T12) 165 [(1, vi 4), (0, .ref h0)] []
  refine K_goto C (tgt := 143) dX11_init_165 (by decide) ?_
  refine K_iload_n C 1 dX11_init_143 rfl 0 rfl ?_
  refine K_bipush C dX11_init_144 (bp8 (by decide) (by decide)) ?_
  refine K_icmp_ge C ⟨by decide, by decide⟩ ⟨by decide, by decide⟩ (tgt := 168) dX11_init_146 (by decide) (fun z => absurd z (by decide)) (fun _ => ?_)
  refine K_aload_n C 0 dX11_init_149 rfl 1 rfl ?_
  refine K_get C (i := 0) fl_RX11_75 rfl rfl dX11_init_150 ?_
  refine K_iload_n C 1 dX11_init_153 rfl 0 rfl ?_
  refine K_new C (ci := 9) (fs := [.int 0, .int 0, .null, .null]) (pre := [(h0, .inr (11, [.ref q1, .ref q19, .ref q24, .ref q32, .ref q40, .ref q44, .ref q48, .ref q54, .ref q58, .int 0, .int 0])), (q58, .inl (gca g 4, (6, .inr (.inr (.inr (.inr (va_up (va_up (va_up (va_up (fun _ => none) 0 (some q59)) 1 (some q66)) 2 (some q73)) 3 (some q80))))))))]) (tl := T12) inW_RX9 tyX9 tyX9_ok cl_RX11_73 is_RX9 in_RX9 rfl nf_RX9 (Nat.le_of_ble_eq_true rfl) (Nat.le_of_ble_eq_true rfl) rfl dX11_init_154 (fun q87 => ?_)
  show KW x g 2 A 87 6166 ((h0, .inr (11, [.ref q1, .ref q19, .ref q24, .ref q32, .ref q40, .ref q44, .ref q48, .ref q54, .ref q58, .int 0, .int 0])) :: (q58, .inl (gca g 4, (6, .inr (.inr (.inr (.inr (va_up (va_up (va_up (va_up (fun _ => none) 0 (some q59)) 1 (some q66)) 2 (some q73)) 3 (some q80)))))))) :: (q87, .inr (9, [.int 0, .int 0, .null, .null])) :: T12) 157 [(1, vi 4), (0, .ref h0)] [.ref q87, vi 4, .ref q58]
  refine K_dup C rfl dX11_init_157 ?_
  refine K_initN C mwi_X9_init rfl (nest_in 7 rfl) (k_X9_init x.2.1 g q87) (pre := [(h0, .inr (11, [.ref q1, .ref q19, .ref q24, .ref q32, .ref q40, .ref q44, .ref q48, .ref q54, .ref q58, .int 0, .int 0])), (q58, .inl (gca g 4, (6, .inr (.inr (.inr (.inr (va_up (va_up (va_up (va_up (fun _ => none) 0 (some q59)) 1 (some q66)) 2 (some q73)) 3 (some q80))))))))]) (tl := T12) rfl (Nat.le_of_ble_eq_true rfl) (Nat.le_of_ble_eq_true rfl) rfl rfl (Nat.le_of_ble_eq_true rfl) (Nat.le_of_ble_eq_true rfl) (Nat.le_of_ble_eq_true rfl) dX11_init_158 (fun u => ?_)
  obtain ⟨q88, q89, q90, q91, q92, q93⟩ := u
  obtain ⟨T13, eT13⟩ : ∃ z, z = [(q87, .inr (9, [.int 0, .int 0, .ref q93, .ref q88])), (q88, .inr (1, [.ref q92, .ref q91, .ref q90, .ref q89, .int 0])), (q89, .inl (gca g 0, (120, .inl (fun _ => 0)))), (q90, .inl (gca g 0, (120, .inl (fun _ => 0)))), (q91, .inl (gca g 0, (120, .inl (fun _ => 0)))), (q92, .inl (gca g 0, (120, .inl (fun _ => 0)))), (q93, .inl (gca g 1, (100, .inr (.inl (fun _ => 0)))))] ++ T12 := ⟨_, rfl⟩
  rw [show [(h0, .inr (11, [.ref q1, .ref q19, .ref q24, .ref q32, .ref q40, .ref q44, .ref q48, .ref q54, .ref q58, .int 0, .int 0])), (q58, .inl (gca g 4, (6, .inr (.inr (.inr (.inr (va_up (va_up (va_up (va_up (fun _ => none) 0 (some q59)) 1 (some q66)) 2 (some q73)) 3 (some q80))))))))] ++ (kX9_init_w g q87 (q88, q89, q90, q91, q92, q93) ++ T12) = ((h0, .inr (11, [.ref q1, .ref q19, .ref q24, .ref q32, .ref q40, .ref q44, .ref q48, .ref q54, .ref q58, .int 0, .int 0])) :: (q58, .inl (gca g 4, (6, .inr (.inr (.inr (.inr (va_up (va_up (va_up (va_up (fun _ => none) 0 (some q59)) 1 (some q66)) 2 (some q73)) 3 (some q80)))))))) :: T13) from by rw [eT13]; rfl]
  refine K_astq C (q0 := 1) (i := 4) (n := 6) (f := (va_up (va_up (va_up (va_up (fun _ => none) 0 (some q59)) 1 (some q66)) 2 (some q73)) 3 (some q80))) (v := q87) (T := TX9) (N := 4) (ci := 9) (vs := [.int 0, .int 0, .ref q93, .ref q88]) rfl (by rw [eT13]; simp) rfl (by decide) (by decide) (by decide) dX11_init_161 ?_
  show KW x g 2 A 93 6751 ((h0, .inr (11, [.ref q1, .ref q19, .ref q24, .ref q32, .ref q40, .ref q44, .ref q48, .ref q54, .ref q58, .int 0, .int 0])) :: (q58, .inl (gca g 4, (6, .inr (.inr (.inr (.inr (va_up (va_up (va_up (va_up (va_up (fun _ => none) 0 (some q59)) 1 (some q66)) 2 (some q73)) 3 (some q80)) 4 (some q87)))))))) :: T13) 162 [(1, vi 4), (0, .ref h0)] []
  refine K_iinc C 1 0 dX11_init_162 rfl (by decide) ?_
  show KW x g 2 A 93 6751 ((h0, .inr (11, [.ref q1, .ref q19, .ref q24, .ref q32, .ref q40, .ref q44, .ref q48, .ref q54, .ref q58, .int 0, .int 0])) :: (q58, .inl (gca g 4, (6, .inr (.inr (.inr (.inr (va_up (va_up (va_up (va_up (va_up (fun _ => none) 0 (some q59)) 1 (some q66)) 2 (some q73)) 3 (some q80)) 4 (some q87)))))))) :: T13) 165 [(1, vi 5), (0, .ref h0)] []
  refine K_goto C (tgt := 143) dX11_init_165 (by decide) ?_
  refine K_iload_n C 1 dX11_init_143 rfl 0 rfl ?_
  refine K_bipush C dX11_init_144 (bp8 (by decide) (by decide)) ?_
  refine K_icmp_ge C ⟨by decide, by decide⟩ ⟨by decide, by decide⟩ (tgt := 168) dX11_init_146 (by decide) (fun z => absurd z (by decide)) (fun _ => ?_)
  refine K_aload_n C 0 dX11_init_149 rfl 1 rfl ?_
  refine K_get C (i := 0) fl_RX11_75 rfl rfl dX11_init_150 ?_
  refine K_iload_n C 1 dX11_init_153 rfl 0 rfl ?_
  refine K_new C (ci := 9) (fs := [.int 0, .int 0, .null, .null]) (pre := [(h0, .inr (11, [.ref q1, .ref q19, .ref q24, .ref q32, .ref q40, .ref q44, .ref q48, .ref q54, .ref q58, .int 0, .int 0])), (q58, .inl (gca g 4, (6, .inr (.inr (.inr (.inr (va_up (va_up (va_up (va_up (va_up (fun _ => none) 0 (some q59)) 1 (some q66)) 2 (some q73)) 3 (some q80)) 4 (some q87))))))))]) (tl := T13) inW_RX9 tyX9 tyX9_ok cl_RX11_73 is_RX9 in_RX9 rfl nf_RX9 (Nat.le_of_ble_eq_true rfl) (Nat.le_of_ble_eq_true rfl) rfl dX11_init_154 (fun q94 => ?_)
  show KW x g 2 A 94 6755 ((h0, .inr (11, [.ref q1, .ref q19, .ref q24, .ref q32, .ref q40, .ref q44, .ref q48, .ref q54, .ref q58, .int 0, .int 0])) :: (q58, .inl (gca g 4, (6, .inr (.inr (.inr (.inr (va_up (va_up (va_up (va_up (va_up (fun _ => none) 0 (some q59)) 1 (some q66)) 2 (some q73)) 3 (some q80)) 4 (some q87)))))))) :: (q94, .inr (9, [.int 0, .int 0, .null, .null])) :: T13) 157 [(1, vi 5), (0, .ref h0)] [.ref q94, vi 5, .ref q58]
  refine K_dup C rfl dX11_init_157 ?_
  refine K_initN C mwi_X9_init rfl (nest_in 7 rfl) (k_X9_init x.2.1 g q94) (pre := [(h0, .inr (11, [.ref q1, .ref q19, .ref q24, .ref q32, .ref q40, .ref q44, .ref q48, .ref q54, .ref q58, .int 0, .int 0])), (q58, .inl (gca g 4, (6, .inr (.inr (.inr (.inr (va_up (va_up (va_up (va_up (va_up (fun _ => none) 0 (some q59)) 1 (some q66)) 2 (some q73)) 3 (some q80)) 4 (some q87))))))))]) (tl := T13) rfl (Nat.le_of_ble_eq_true rfl) (Nat.le_of_ble_eq_true rfl) rfl rfl (Nat.le_of_ble_eq_true rfl) (Nat.le_of_ble_eq_true rfl) (Nat.le_of_ble_eq_true rfl) dX11_init_158 (fun u => ?_)
  obtain ⟨q95, q96, q97, q98, q99, q100⟩ := u
  obtain ⟨T14, eT14⟩ : ∃ z, z = [(q94, .inr (9, [.int 0, .int 0, .ref q100, .ref q95])), (q95, .inr (1, [.ref q99, .ref q98, .ref q97, .ref q96, .int 0])), (q96, .inl (gca g 0, (120, .inl (fun _ => 0)))), (q97, .inl (gca g 0, (120, .inl (fun _ => 0)))), (q98, .inl (gca g 0, (120, .inl (fun _ => 0)))), (q99, .inl (gca g 0, (120, .inl (fun _ => 0)))), (q100, .inl (gca g 1, (100, .inr (.inl (fun _ => 0)))))] ++ T13 := ⟨_, rfl⟩
  rw [show [(h0, .inr (11, [.ref q1, .ref q19, .ref q24, .ref q32, .ref q40, .ref q44, .ref q48, .ref q54, .ref q58, .int 0, .int 0])), (q58, .inl (gca g 4, (6, .inr (.inr (.inr (.inr (va_up (va_up (va_up (va_up (va_up (fun _ => none) 0 (some q59)) 1 (some q66)) 2 (some q73)) 3 (some q80)) 4 (some q87))))))))] ++ (kX9_init_w g q94 (q95, q96, q97, q98, q99, q100) ++ T13) = ((h0, .inr (11, [.ref q1, .ref q19, .ref q24, .ref q32, .ref q40, .ref q44, .ref q48, .ref q54, .ref q58, .int 0, .int 0])) :: (q58, .inl (gca g 4, (6, .inr (.inr (.inr (.inr (va_up (va_up (va_up (va_up (va_up (fun _ => none) 0 (some q59)) 1 (some q66)) 2 (some q73)) 3 (some q80)) 4 (some q87)))))))) :: T14) from by rw [eT14]; rfl]
  refine K_astq C (q0 := 1) (i := 5) (n := 6) (f := (va_up (va_up (va_up (va_up (va_up (fun _ => none) 0 (some q59)) 1 (some q66)) 2 (some q73)) 3 (some q80)) 4 (some q87))) (v := q94) (T := TX9) (N := 4) (ci := 9) (vs := [.int 0, .int 0, .ref q100, .ref q95]) rfl (by rw [eT14]; simp) rfl (by decide) (by decide) (by decide) dX11_init_161 ?_
  show KW x g 2 A 100 7340 ((h0, .inr (11, [.ref q1, .ref q19, .ref q24, .ref q32, .ref q40, .ref q44, .ref q48, .ref q54, .ref q58, .int 0, .int 0])) :: (q58, .inl (gca g 4, (6, .inr (.inr (.inr (.inr (va_up (va_up (va_up (va_up (va_up (va_up (fun _ => none) 0 (some q59)) 1 (some q66)) 2 (some q73)) 3 (some q80)) 4 (some q87)) 5 (some q94)))))))) :: T14) 162 [(1, vi 5), (0, .ref h0)] []
  refine K_iinc C 1 0 dX11_init_162 rfl (by decide) ?_
  show KW x g 2 A 100 7340 ((h0, .inr (11, [.ref q1, .ref q19, .ref q24, .ref q32, .ref q40, .ref q44, .ref q48, .ref q54, .ref q58, .int 0, .int 0])) :: (q58, .inl (gca g 4, (6, .inr (.inr (.inr (.inr (va_up (va_up (va_up (va_up (va_up (va_up (fun _ => none) 0 (some q59)) 1 (some q66)) 2 (some q73)) 3 (some q80)) 4 (some q87)) 5 (some q94)))))))) :: T14) 165 [(1, vi 6), (0, .ref h0)] []
  refine K_goto C (tgt := 143) dX11_init_165 (by decide) ?_
  refine K_iload_n C 1 dX11_init_143 rfl 0 rfl ?_
  refine K_bipush C dX11_init_144 (bp8 (by decide) (by decide)) ?_
  refine K_icmp_ge C ⟨by decide, by decide⟩ ⟨by decide, by decide⟩ (tgt := 168) dX11_init_146 (by decide) (fun _ => ?_) (fun z => absurd z (by decide))
  refine K_aload_n C 0 dX11_init_168 rfl 1 rfl ?_
  refine K_iconst C dX11_init_169 ?_
  refine K_putI C (i := 0) fl_RX11_80 fp_RX11_9 rfl rfl rfl (Nat.le_of_ble_eq_true rfl) dX11_init_170 ?_
  show KW x g 2 A 100 7340 ((h0, .inr (11, [.ref q1, .ref q19, .ref q24, .ref q32, .ref q40, .ref q44, .ref q48, .ref q54, .ref q58, vi 2, .int 0])) :: (q58, .inl (gca g 4, (6, .inr (.inr (.inr (.inr (va_up (va_up (va_up (va_up (va_up (va_up (fun _ => none) 0 (some q59)) 1 (some q66)) 2 (some q73)) 3 (some q80)) 4 (some q87)) 5 (some q94)))))))) :: T14) 173 [(1, vi 6), (0, .ref h0)] []
  refine K_aload_n C 0 dX11_init_173 rfl 1 rfl ?_
  refine K_iconst C dX11_init_174 ?_
  refine K_putI C (i := 0) fl_RX11_84 fp_RX11_10 rfl rfl rfl (Nat.le_of_ble_eq_true rfl) dX11_init_175 ?_
  show KW x g 2 A 100 7340 ((h0, .inr (11, [.ref q1, .ref q19, .ref q24, .ref q32, .ref q40, .ref q44, .ref q48, .ref q54, .ref q58, vi 2, vi 0])) :: (q58, .inl (gca g 4, (6, .inr (.inr (.inr (.inr (va_up (va_up (va_up (va_up (va_up (va_up (fun _ => none) 0 (some q59)) 1 (some q66)) 2 (some q73)) 3 (some q80)) 4 (some q87)) 5 (some q94)))))))) :: T14) 178 [(1, vi 6), (0, .ref h0)] []
  subst eT14 eT13 eT12 eT11 eT10 eT9 eT8 eT7 eT6 eT5 eT4 eT3 eT2 eT1 eT0
  refine K_extq (q0 := 1) (fun k => some (gad (gAt g (adL [h0, q1, q18, q17, q16, q15, q8, q14, q13, q12, q11, q10, q9, q2, q7, q6, q5, q4, q3, q19, q23, q22, q21, q20, q24, q27, q31, q30, q29, q28, q26, q25, q32, q39, q38, q37, q36, q35, q34, q33, q40, q43, q42, q41, q44, q47, q46, q45, q48, q53, q52, q51, q50, q49, q54, q57, q56, q55, q58, q59, q65, q60, q64, q63, q62, q61, q66, q72, q67, q71, q70, q69, q68, q73, q79, q74, q78, q77, q76, q75, q80, q86, q81, q85, q84, q83, q82, q87, q93, q88, q92, q91, q90, q89, q94, q100, q95, q99, q98, q97, q96])) (59 + 7 * k))) rfl (fun j hj => by match j, hj with | 0, _ => rfl | 1, _ => rfl | 2, _ => rfl | 3, _ => rfl | 4, _ => rfl | 5, _ => rfl | n + 6, h => exact absurd h (by omega)) ?_
  exact K_vretP C E (adL [h0, q1, q18, q17, q16, q15, q8, q14, q13, q12, q11, q10, q9, q2, q7, q6, q5, q4, q3, q19, q23, q22, q21, q20, q24, q27, q31, q30, q29, q28, q26, q25, q32, q39, q38, q37, q36, q35, q34, q33, q40, q43, q42, q41, q44, q47, q46, q45, q48, q53, q52, q51, q50, q49, q54, q57, q56, q55, q58, q59, q65, q60, q64, q63, q62, q61, q66, q72, q67, q71, q70, q69, q68, q73, q79, q74, q78, q77, q76, q75, q80, q86, q81, q85, q84, q83, q82, q87, q93, q88, q92, q91, q90, q89, q94, q100, q95, q99, q98, q97, q96]) [0, 83, 100, 99, 98, 97, 90, 96, 95, 94, 93, 92, 91, 84, 89, 88, 87, 86, 85, 78, 82, 81, 80, 79, 70, 73, 77, 76, 75, 74, 72, 71, 62, 69, 68, 67, 66, 65, 64, 63, 58, 61, 60, 59, 54, 57, 56, 55, 48, 53, 52, 51, 50, 49, 44, 47, 46, 45, 1, 37, 43, 38, 42, 41, 40, 39, 30, 36, 31, 35, 34, 33, 32, 23, 29, 24, 28, 27, 26, 25, 16, 22, 17, 21, 20, 19, 18, 9, 15, 10, 14, 13, 12, 11, 2, 8, 3, 7, 6, 5, 4] rfl (Eq.trans (b := (wd yC (gAt g (adL [h0, q1, q18, q17, q16, q15, q8, q14, q13, q12, q11, q10, q9, q2, q7, q6, q5, q4, q3, q19, q23, q22, q21, q20, q24, q27, q31, q30, q29, q28, q26, q25, q32, q39, q38, q37, q36, q35, q34, q33, q40, q43, q42, q41, q44, q47, q46, q45, q48, q53, q52, q51, q50, q49, q54, q57, q56, q55, q58, q59, q65, q60, q64, q63, q62, q61, q66, q72, q67, q71, q70, q69, q68, q73, q79, q74, q78, q77, q76, q75, q80, q86, q81, q85, q84, q83, q82, q87, q93, q88, q92, q91, q90, q89, q94, q100, q95, q99, q98, q97, q96])) σC0).map some) rfl (congrArg (fun a => (wd yC (gAt g a) σC0).map some) (ad0_adL h0 _).symm)) (Nat.le_of_ble_eq_true rfl) (Nat.le_of_ble_eq_true rfl) dX11_init_178
theorem wfR0 : wfS yR σR0 := fun _ _ _ => ⟨by show (-2147483648 : Int) ≤ 0; decide, by show (0 : Int) ≤ 2147483647; decide⟩
set_option maxRecDepth 100000 in
set_option maxHeartbeats 8000000 in
theorem k_X12_init (l : Launch) (g : Gm) (h0 : Nat) : KJ l g yX12_init cX12_init 2 1 60 44 7391 h0 [] (.inr (12, [.null, .null, .null, .null, .null, .null, .null, .null, .null, .null, .null, .null, .null, .null, .null, .null, .null, .null, .null, .null, .null, .null, .null, .null, .null, .null, .null, .null, .null, .null, .null, .int 0, .int 0, .int 0, .int 0, .int 0, .int 0, .int 0, .int 0, .int 0, .int 0, .null, .null, .null, .null, .null, .null, .int 0, .int 0, .null, .null, .null, .null, .null, .int 0, .null, .null])) (fun ad : Nat → Nat => wd yR (gAt g (ad0 h0 ad)) τR0) := by
  refine KJ_of (by decide) rfl rfl (Nat.le_of_ble_eq_true rfl) (lo := [(0, .ref h0)]) rfl (fun x A C I E hA0 hxl => ?_)
  obtain ⟨T0, eT0⟩ : ∃ z : va_W, z = [] := ⟨_, rfl⟩
  rw [show [(h0, (.inr (12, [.null, .null, .null, .null, .null, .null, .null, .null, .null, .null, .null, .null, .null, .null, .null, .null, .null, .null, .null, .null, .null, .null, .null, .null, .null, .null, .null, .null, .null, .null, .null, .int 0, .int 0, .int 0, .int 0, .int 0, .int 0, .int 0, .int 0, .int 0, .int 0, .null, .null, .null, .null, .null, .null, .int 0, .int 0, .null, .null, .null, .null, .null, .int 0, .null, .null]) : va_E))] = ((h0, .inr (12, [.null, .null, .null, .null, .null, .null, .null, .null, .null, .null, .null, .null, .null, .null, .null, .null, .null, .null, .null, .null, .null, .null, .null, .null, .null, .null, .null, .null, .null, .null, .null, .int 0, .int 0, .int 0, .int 0, .int 0, .int 0, .int 0, .int 0, .int 0, .int 0, .null, .null, .null, .null, .null, .null, .int 0, .int 0, .null, .null, .null, .null, .null, .int 0, .null, .null])) :: T0) from by rw [eT0]]
  refine K_aload_n C 0 dX12_init_0 rfl 0 rfl ?_
  refine K_objInit C ml_RX12_1 oi_i oi_c (Nat.le_of_ble_eq_true rfl) (Nat.le_of_ble_eq_true rfl) dX12_init_1 ?_
  refine K_aload_n C 0 dX12_init_4 rfl 0 rfl ?_
  refine K_sipush C dX12_init_5 (bp16 (by decide) (by decide)) ?_
  refine K_newarr C (atype := .int) (ty := .int) (n := 1024) (t := 0) (a0 := (1024, .inl (fun _ => 0))) (pre := [(h0, .inr (12, [.null, .null, .null, .null, .null, .null, .null, .null, .null, .null, .null, .null, .null, .null, .null, .null, .null, .null, .null, .null, .null, .null, .null, .null, .null, .null, .null, .null, .null, .null, .null, .int 0, .int 0, .int 0, .int 0, .int 0, .int 0, .int 0, .int 0, .int 0, .int 0, .null, .null, .null, .null, .null, .null, .int 0, .int 0, .null, .null, .null, .null, .null, .int 0, .null, .null]))]) (tl := T0) ac_int rfl (fun _ h => by cases h) rfl (fun _ => rfl) (by decide) (by decide) (Nat.le_of_ble_eq_true rfl) (Nat.le_of_ble_eq_true rfl) rfl dX12_init_8 (fun q1 => ?_)
  obtain ⟨T1, eT1⟩ : ∃ z, z = (q1, .inl (gca g 0, (1024, .inl (fun _ => 0)))) :: T0 := ⟨_, rfl⟩
  rw [show [(h0, .inr (12, [.null, .null, .null, .null, .null, .null, .null, .null, .null, .null, .null, .null, .null, .null, .null, .null, .null, .null, .null, .null, .null, .null, .null, .null, .null, .null, .null, .null, .null, .null, .null, .int 0, .int 0, .int 0, .int 0, .int 0, .int 0, .int 0, .int 0, .int 0, .int 0, .null, .null, .null, .null, .null, .null, .int 0, .int 0, .null, .null, .null, .null, .null, .int 0, .null, .null]))] ++ (q1, .inl (gca g 0, (1024, .inl (fun _ => 0)))) :: T0 = ((h0, .inr (12, [.null, .null, .null, .null, .null, .null, .null, .null, .null, .null, .null, .null, .null, .null, .null, .null, .null, .null, .null, .null, .null, .null, .null, .null, .null, .null, .null, .null, .null, .null, .null, .int 0, .int 0, .int 0, .int 0, .int 0, .int 0, .int 0, .int 0, .int 0, .int 0, .null, .null, .null, .null, .null, .null, .int 0, .int 0, .null, .null, .null, .null, .null, .int 0, .null, .null])) :: T1) from by rw [eT1]; rfl]
  refine K_putF C I (i := 0) fl_RX12_9 fpf_RX12_0 rfl rfl rfl (Nat.le_of_ble_eq_true rfl) dX12_init_10 ?_
  show KW x g 2 A 1 1024 ((h0, .inr (12, [.ref q1, .null, .null, .null, .null, .null, .null, .null, .null, .null, .null, .null, .null, .null, .null, .null, .null, .null, .null, .null, .null, .null, .null, .null, .null, .null, .null, .null, .null, .null, .null, .int 0, .int 0, .int 0, .int 0, .int 0, .int 0, .int 0, .int 0, .int 0, .int 0, .null, .null, .null, .null, .null, .null, .int 0, .int 0, .null, .null, .null, .null, .null, .int 0, .null, .null])) :: T1) 13 [(0, .ref h0)] []
  refine K_aload_n C 0 dX12_init_13 rfl 0 rfl ?_
  refine K_bipush C dX12_init_14 (bp8 (by decide) (by decide)) ?_
  refine K_newarr C (atype := .int) (ty := .int) (n := 12) (t := 0) (a0 := (12, .inl (fun _ => 0))) (pre := [(h0, .inr (12, [.ref q1, .null, .null, .null, .null, .null, .null, .null, .null, .null, .null, .null, .null, .null, .null, .null, .null, .null, .null, .null, .null, .null, .null, .null, .null, .null, .null, .null, .null, .null, .null, .int 0, .int 0, .int 0, .int 0, .int 0, .int 0, .int 0, .int 0, .int 0, .int 0, .null, .null, .null, .null, .null, .null, .int 0, .int 0, .null, .null, .null, .null, .null, .int 0, .null, .null]))]) (tl := T1) ac_int rfl (fun _ h => by cases h) rfl (fun _ => rfl) (by decide) (by decide) (Nat.le_of_ble_eq_true rfl) (Nat.le_of_ble_eq_true rfl) rfl dX12_init_16 (fun q2 => ?_)
  obtain ⟨T2, eT2⟩ : ∃ z, z = (q2, .inl (gca g 0, (12, .inl (fun _ => 0)))) :: T1 := ⟨_, rfl⟩
  rw [show [(h0, .inr (12, [.ref q1, .null, .null, .null, .null, .null, .null, .null, .null, .null, .null, .null, .null, .null, .null, .null, .null, .null, .null, .null, .null, .null, .null, .null, .null, .null, .null, .null, .null, .null, .null, .int 0, .int 0, .int 0, .int 0, .int 0, .int 0, .int 0, .int 0, .int 0, .int 0, .null, .null, .null, .null, .null, .null, .int 0, .int 0, .null, .null, .null, .null, .null, .int 0, .null, .null]))] ++ (q2, .inl (gca g 0, (12, .inl (fun _ => 0)))) :: T1 = ((h0, .inr (12, [.ref q1, .null, .null, .null, .null, .null, .null, .null, .null, .null, .null, .null, .null, .null, .null, .null, .null, .null, .null, .null, .null, .null, .null, .null, .null, .null, .null, .null, .null, .null, .null, .int 0, .int 0, .int 0, .int 0, .int 0, .int 0, .int 0, .int 0, .int 0, .int 0, .null, .null, .null, .null, .null, .null, .int 0, .int 0, .null, .null, .null, .null, .null, .int 0, .null, .null])) :: T2) from by rw [eT2]; rfl]
  refine K_putF C I (i := 0) fl_RX12_13 fpf_RX12_1 rfl rfl rfl (Nat.le_of_ble_eq_true rfl) dX12_init_18 ?_
  show KW x g 2 A 2 1036 ((h0, .inr (12, [.ref q1, .ref q2, .null, .null, .null, .null, .null, .null, .null, .null, .null, .null, .null, .null, .null, .null, .null, .null, .null, .null, .null, .null, .null, .null, .null, .null, .null, .null, .null, .null, .null, .int 0, .int 0, .int 0, .int 0, .int 0, .int 0, .int 0, .int 0, .int 0, .int 0, .null, .null, .null, .null, .null, .null, .int 0, .int 0, .null, .null, .null, .null, .null, .int 0, .null, .null])) :: T2) 21 [(0, .ref h0)] []
  refine K_aload_n C 0 dX12_init_21 rfl 0 rfl ?_
  refine K_bipush C dX12_init_22 (bp8 (by decide) (by decide)) ?_
  refine K_newarr C (atype := .int) (ty := .int) (n := 12) (t := 0) (a0 := (12, .inl (fun _ => 0))) (pre := [(h0, .inr (12, [.ref q1, .ref q2, .null, .null, .null, .null, .null, .null, .null, .null, .null, .null, .null, .null, .null, .null, .null, .null, .null, .null, .null, .null, .null, .null, .null, .null, .null, .null, .null, .null, .null, .int 0, .int 0, .int 0, .int 0, .int 0, .int 0, .int 0, .int 0, .int 0, .int 0, .null, .null, .null, .null, .null, .null, .int 0, .int 0, .null, .null, .null, .null, .null, .int 0, .null, .null]))]) (tl := T2) ac_int rfl (fun _ h => by cases h) rfl (fun _ => rfl) (by decide) (by decide) (Nat.le_of_ble_eq_true rfl) (Nat.le_of_ble_eq_true rfl) rfl dX12_init_24 (fun q3 => ?_)
  obtain ⟨T3, eT3⟩ : ∃ z, z = (q3, .inl (gca g 0, (12, .inl (fun _ => 0)))) :: T2 := ⟨_, rfl⟩
  rw [show [(h0, .inr (12, [.ref q1, .ref q2, .null, .null, .null, .null, .null, .null, .null, .null, .null, .null, .null, .null, .null, .null, .null, .null, .null, .null, .null, .null, .null, .null, .null, .null, .null, .null, .null, .null, .null, .int 0, .int 0, .int 0, .int 0, .int 0, .int 0, .int 0, .int 0, .int 0, .int 0, .null, .null, .null, .null, .null, .null, .int 0, .int 0, .null, .null, .null, .null, .null, .int 0, .null, .null]))] ++ (q3, .inl (gca g 0, (12, .inl (fun _ => 0)))) :: T2 = ((h0, .inr (12, [.ref q1, .ref q2, .null, .null, .null, .null, .null, .null, .null, .null, .null, .null, .null, .null, .null, .null, .null, .null, .null, .null, .null, .null, .null, .null, .null, .null, .null, .null, .null, .null, .null, .int 0, .int 0, .int 0, .int 0, .int 0, .int 0, .int 0, .int 0, .int 0, .int 0, .null, .null, .null, .null, .null, .null, .int 0, .int 0, .null, .null, .null, .null, .null, .int 0, .null, .null])) :: T3) from by rw [eT3]; rfl]
  refine K_putF C I (i := 0) fl_RX12_16 fpf_RX12_2 rfl rfl rfl (Nat.le_of_ble_eq_true rfl) dX12_init_26 ?_
  show KW x g 2 A 3 1048 ((h0, .inr (12, [.ref q1, .ref q2, .ref q3, .null, .null, .null, .null, .null, .null, .null, .null, .null, .null, .null, .null, .null, .null, .null, .null, .null, .null, .null, .null, .null, .null, .null, .null, .null, .null, .null, .null, .int 0, .int 0, .int 0, .int 0, .int 0, .int 0, .int 0, .int 0, .int 0, .int 0, .null, .null, .null, .null, .null, .null, .int 0, .int 0, .null, .null, .null, .null, .null, .int 0, .null, .null])) :: T3) 29 [(0, .ref h0)] []
  refine K_aload_n C 0 dX12_init_29 rfl 0 rfl ?_
  refine K_bipush C dX12_init_30 (bp8 (by decide) (by decide)) ?_
  refine K_newarr C (atype := .int) (ty := .int) (n := 12) (t := 0) (a0 := (12, .inl (fun _ => 0))) (pre := [(h0, .inr (12, [.ref q1, .ref q2, .ref q3, .null, .null, .null, .null, .null, .null, .null, .null, .null, .null, .null, .null, .null, .null, .null, .null, .null, .null, .null, .null, .null, .null, .null, .null, .null, .null, .null, .null, .int 0, .int 0, .int 0, .int 0, .int 0, .int 0, .int 0, .int 0, .int 0, .int 0, .null, .null, .null, .null, .null, .null, .int 0, .int 0, .null, .null, .null, .null, .null, .int 0, .null, .null]))]) (tl := T3) ac_int rfl (fun _ h => by cases h) rfl (fun _ => rfl) (by decide) (by decide) (Nat.le_of_ble_eq_true rfl) (Nat.le_of_ble_eq_true rfl) rfl dX12_init_32 (fun q4 => ?_)
  obtain ⟨T4, eT4⟩ : ∃ z, z = (q4, .inl (gca g 0, (12, .inl (fun _ => 0)))) :: T3 := ⟨_, rfl⟩
  rw [show [(h0, .inr (12, [.ref q1, .ref q2, .ref q3, .null, .null, .null, .null, .null, .null, .null, .null, .null, .null, .null, .null, .null, .null, .null, .null, .null, .null, .null, .null, .null, .null, .null, .null, .null, .null, .null, .null, .int 0, .int 0, .int 0, .int 0, .int 0, .int 0, .int 0, .int 0, .int 0, .int 0, .null, .null, .null, .null, .null, .null, .int 0, .int 0, .null, .null, .null, .null, .null, .int 0, .null, .null]))] ++ (q4, .inl (gca g 0, (12, .inl (fun _ => 0)))) :: T3 = ((h0, .inr (12, [.ref q1, .ref q2, .ref q3, .null, .null, .null, .null, .null, .null, .null, .null, .null, .null, .null, .null, .null, .null, .null, .null, .null, .null, .null, .null, .null, .null, .null, .null, .null, .null, .null, .null, .int 0, .int 0, .int 0, .int 0, .int 0, .int 0, .int 0, .int 0, .int 0, .int 0, .null, .null, .null, .null, .null, .null, .int 0, .int 0, .null, .null, .null, .null, .null, .int 0, .null, .null])) :: T4) from by rw [eT4]; rfl]
  refine K_putF C I (i := 0) fl_RX12_19 fpf_RX12_3 rfl rfl rfl (Nat.le_of_ble_eq_true rfl) dX12_init_34 ?_
  show KW x g 2 A 4 1060 ((h0, .inr (12, [.ref q1, .ref q2, .ref q3, .ref q4, .null, .null, .null, .null, .null, .null, .null, .null, .null, .null, .null, .null, .null, .null, .null, .null, .null, .null, .null, .null, .null, .null, .null, .null, .null, .null, .null, .int 0, .int 0, .int 0, .int 0, .int 0, .int 0, .int 0, .int 0, .int 0, .int 0, .null, .null, .null, .null, .null, .null, .int 0, .int 0, .null, .null, .null, .null, .null, .int 0, .null, .null])) :: T4) 37 [(0, .ref h0)] []
  refine K_aload_n C 0 dX12_init_37 rfl 0 rfl ?_
  refine K_bipush C dX12_init_38 (bp8 (by decide) (by decide)) ?_
  refine K_newarr C (atype := .int) (ty := .int) (n := 12) (t := 0) (a0 := (12, .inl (fun _ => 0))) (pre := [(h0, .inr (12, [.ref q1, .ref q2, .ref q3, .ref q4, .null, .null, .null, .null, .null, .null, .null, .null, .null, .null, .null, .null, .null, .null, .null, .null, .null, .null, .null, .null, .null, .null, .null, .null, .null, .null, .null, .int 0, .int 0, .int 0, .int 0, .int 0, .int 0, .int 0, .int 0, .int 0, .int 0, .null, .null, .null, .null, .null, .null, .int 0, .int 0, .null, .null, .null, .null, .null, .int 0, .null, .null]))]) (tl := T4) ac_int rfl (fun _ h => by cases h) rfl (fun _ => rfl) (by decide) (by decide) (Nat.le_of_ble_eq_true rfl) (Nat.le_of_ble_eq_true rfl) rfl dX12_init_40 (fun q5 => ?_)
  obtain ⟨T5, eT5⟩ : ∃ z, z = (q5, .inl (gca g 0, (12, .inl (fun _ => 0)))) :: T4 := ⟨_, rfl⟩
  rw [show [(h0, .inr (12, [.ref q1, .ref q2, .ref q3, .ref q4, .null, .null, .null, .null, .null, .null, .null, .null, .null, .null, .null, .null, .null, .null, .null, .null, .null, .null, .null, .null, .null, .null, .null, .null, .null, .null, .null, .int 0, .int 0, .int 0, .int 0, .int 0, .int 0, .int 0, .int 0, .int 0, .int 0, .null, .null, .null, .null, .null, .null, .int 0, .int 0, .null, .null, .null, .null, .null, .int 0, .null, .null]))] ++ (q5, .inl (gca g 0, (12, .inl (fun _ => 0)))) :: T4 = ((h0, .inr (12, [.ref q1, .ref q2, .ref q3, .ref q4, .null, .null, .null, .null, .null, .null, .null, .null, .null, .null, .null, .null, .null, .null, .null, .null, .null, .null, .null, .null, .null, .null, .null, .null, .null, .null, .null, .int 0, .int 0, .int 0, .int 0, .int 0, .int 0, .int 0, .int 0, .int 0, .int 0, .null, .null, .null, .null, .null, .null, .int 0, .int 0, .null, .null, .null, .null, .null, .int 0, .null, .null])) :: T5) from by rw [eT5]; rfl]
  refine K_putF C I (i := 0) fl_RX12_22 fpf_RX12_4 rfl rfl rfl (Nat.le_of_ble_eq_true rfl) dX12_init_42 ?_
  show KW x g 2 A 5 1072 ((h0, .inr (12, [.ref q1, .ref q2, .ref q3, .ref q4, .ref q5, .null, .null, .null, .null, .null, .null, .null, .null, .null, .null, .null, .null, .null, .null, .null, .null, .null, .null, .null, .null, .null, .null, .null, .null, .null, .null, .int 0, .int 0, .int 0, .int 0, .int 0, .int 0, .int 0, .int 0, .int 0, .int 0, .null, .null, .null, .null, .null, .null, .int 0, .int 0, .null, .null, .null, .null, .null, .int 0, .null, .null])) :: T5) 45 [(0, .ref h0)] []
  refine K_aload_n C 0 dX12_init_45 rfl 0 rfl ?_
  refine K_bipush C dX12_init_46 (bp8 (by decide) (by decide)) ?_
  refine K_newarr C (atype := .int) (ty := .int) (n := 12) (t := 0) (a0 := (12, .inl (fun _ => 0))) (pre := [(h0, .inr (12, [.ref q1, .ref q2, .ref q3, .ref q4, .ref q5, .null, .null, .null, .null, .null, .null, .null, .null, .null, .null, .null, .null, .null, .null, .null, .null, .null, .null, .null, .null, .null, .null, .null, .null, .null, .null, .int 0, .int 0, .int 0, .int 0, .int 0, .int 0, .int 0, .int 0, .int 0, .int 0, .null, .null, .null, .null, .null, .null, .int 0, .int 0, .null, .null, .null, .null, .null, .int 0, .null, .null]))]) (tl := T5) ac_int rfl (fun _ h => by cases h) rfl (fun _ => rfl) (by decide) (by decide) (Nat.le_of_ble_eq_true rfl) (Nat.le_of_ble_eq_true rfl) rfl dX12_init_48 (fun q6 => ?_)
  obtain ⟨T6, eT6⟩ : ∃ z, z = (q6, .inl (gca g 0, (12, .inl (fun _ => 0)))) :: T5 := ⟨_, rfl⟩
  rw [show [(h0, .inr (12, [.ref q1, .ref q2, .ref q3, .ref q4, .ref q5, .null, .null, .null, .null, .null, .null, .null, .null, .null, .null, .null, .null, .null, .null, .null, .null, .null, .null, .null, .null, .null, .null, .null, .null, .null, .null, .int 0, .int 0, .int 0, .int 0, .int 0, .int 0, .int 0, .int 0, .int 0, .int 0, .null, .null, .null, .null, .null, .null, .int 0, .int 0, .null, .null, .null, .null, .null, .int 0, .null, .null]))] ++ (q6, .inl (gca g 0, (12, .inl (fun _ => 0)))) :: T5 = ((h0, .inr (12, [.ref q1, .ref q2, .ref q3, .ref q4, .ref q5, .null, .null, .null, .null, .null, .null, .null, .null, .null, .null, .null, .null, .null, .null, .null, .null, .null, .null, .null, .null, .null, .null, .null, .null, .null, .null, .int 0, .int 0, .int 0, .int 0, .int 0, .int 0, .int 0, .int 0, .int 0, .int 0, .null, .null, .null, .null, .null, .null, .int 0, .int 0, .null, .null, .null, .null, .null, .int 0, .null, .null])) :: T6) from by rw [eT6]; rfl]
  refine K_putF C I (i := 0) fl_RX12_25 fpf_RX12_5 rfl rfl rfl (Nat.le_of_ble_eq_true rfl) dX12_init_50 ?_
  show KW x g 2 A 6 1084 ((h0, .inr (12, [.ref q1, .ref q2, .ref q3, .ref q4, .ref q5, .ref q6, .null, .null, .null, .null, .null, .null, .null, .null, .null, .null, .null, .null, .null, .null, .null, .null, .null, .null, .null, .null, .null, .null, .null, .null, .null, .int 0, .int 0, .int 0, .int 0, .int 0, .int 0, .int 0, .int 0, .int 0, .int 0, .null, .null, .null, .null, .null, .null, .int 0, .int 0, .null, .null, .null, .null, .null, .int 0, .null, .null])) :: T6) 53 [(0, .ref h0)] []
  refine K_aload_n C 0 dX12_init_53 rfl 0 rfl ?_
  refine K_bipush C dX12_init_54 (bp8 (by decide) (by decide)) ?_
  refine K_newarr C (atype := .int) (ty := .int) (n := 12) (t := 0) (a0 := (12, .inl (fun _ => 0))) (pre := [(h0, .inr (12, [.ref q1, .ref q2, .ref q3, .ref q4, .ref q5, .ref q6, .null, .null, .null, .null, .null, .null, .null, .null, .null, .null, .null, .null, .null, .null, .null, .null, .null, .null, .null, .null, .null, .null, .null, .null, .null, .int 0, .int 0, .int 0, .int 0, .int 0, .int 0, .int 0, .int 0, .int 0, .int 0, .null, .null, .null, .null, .null, .null, .int 0, .int 0, .null, .null, .null, .null, .null, .int 0, .null, .null]))]) (tl := T6) ac_int rfl (fun _ h => by cases h) rfl (fun _ => rfl) (by decide) (by decide) (Nat.le_of_ble_eq_true rfl) (Nat.le_of_ble_eq_true rfl) rfl dX12_init_56 (fun q7 => ?_)
  obtain ⟨T7, eT7⟩ : ∃ z, z = (q7, .inl (gca g 0, (12, .inl (fun _ => 0)))) :: T6 := ⟨_, rfl⟩
  rw [show [(h0, .inr (12, [.ref q1, .ref q2, .ref q3, .ref q4, .ref q5, .ref q6, .null, .null, .null, .null, .null, .null, .null, .null, .null, .null, .null, .null, .null, .null, .null, .null, .null, .null, .null, .null, .null, .null, .null, .null, .null, .int 0, .int 0, .int 0, .int 0, .int 0, .int 0, .int 0, .int 0, .int 0, .int 0, .null, .null, .null, .null, .null, .null, .int 0, .int 0, .null, .null, .null, .null, .null, .int 0, .null, .null]))] ++ (q7, .inl (gca g 0, (12, .inl (fun _ => 0)))) :: T6 = ((h0, .inr (12, [.ref q1, .ref q2, .ref q3, .ref q4, .ref q5, .ref q6, .null, .null, .null, .null, .null, .null, .null, .null, .null, .null, .null, .null, .null, .null, .null, .null, .null, .null, .null, .null, .null, .null, .null, .null, .null, .int 0, .int 0, .int 0, .int 0, .int 0, .int 0, .int 0, .int 0, .int 0, .int 0, .null, .null, .null, .null, .null, .null, .int 0, .int 0, .null, .null, .null, .null, .null, .int 0, .null, .null])) :: T7) from by rw [eT7]; rfl]
  refine K_putF C I (i := 0) fl_RX12_28 fpf_RX12_6 rfl rfl rfl (Nat.le_of_ble_eq_true rfl) dX12_init_58 ?_
  show KW x g 2 A 7 1096 ((h0, .inr (12, [.ref q1, .ref q2, .ref q3, .ref q4, .ref q5, .ref q6, .ref q7, .null, .null, .null, .null, .null, .null, .null, .null, .null, .null, .null, .null, .null, .null, .null, .null, .null, .null, .null, .null, .null, .null, .null, .null, .int 0, .int 0, .int 0, .int 0, .int 0, .int 0, .int 0, .int 0, .int 0, .int 0, .null, .null, .null, .null, .null, .null, .int 0, .int 0, .null, .null, .null, .null, .null, .int 0, .null, .null])) :: T7) 61 [(0, .ref h0)] []
  refine K_aload_n C 0 dX12_init_61 rfl 0 rfl ?_
  refine K_bipush C dX12_init_62 (bp8 (by decide) (by decide)) ?_
  refine K_newarr C (atype := .int) (ty := .int) (n := 6) (t := 0) (a0 := (6, .inl (fun _ => 0))) (pre := [(h0, .inr (12, [.ref q1, .ref q2, .ref q3, .ref q4, .ref q5, .ref q6, .ref q7, .null, .null, .null, .null, .null, .null, .null, .null, .null, .null, .null, .null, .null, .null, .null, .null, .null, .null, .null, .null, .null, .null, .null, .null, .int 0, .int 0, .int 0, .int 0, .int 0, .int 0, .int 0, .int 0, .int 0, .int 0, .null, .null, .null, .null, .null, .null, .int 0, .int 0, .null, .null, .null, .null, .null, .int 0, .null, .null]))]) (tl := T7) ac_int rfl (fun _ h => by cases h) rfl (fun _ => rfl) (by decide) (by decide) (Nat.le_of_ble_eq_true rfl) (Nat.le_of_ble_eq_true rfl) rfl dX12_init_64 (fun q8 => ?_)
  obtain ⟨T8, eT8⟩ : ∃ z, z = (q8, .inl (gca g 0, (6, .inl (fun _ => 0)))) :: T7 := ⟨_, rfl⟩
  rw [show [(h0, .inr (12, [.ref q1, .ref q2, .ref q3, .ref q4, .ref q5, .ref q6, .ref q7, .null, .null, .null, .null, .null, .null, .null, .null, .null, .null, .null, .null, .null, .null, .null, .null, .null, .null, .null, .null, .null, .null, .null, .null, .int 0, .int 0, .int 0, .int 0, .int 0, .int 0, .int 0, .int 0, .int 0, .int 0, .null, .null, .null, .null, .null, .null, .int 0, .int 0, .null, .null, .null, .null, .null, .int 0, .null, .null]))] ++ (q8, .inl (gca g 0, (6, .inl (fun _ => 0)))) :: T7 = ((h0, .inr (12, [.ref q1, .ref q2, .ref q3, .ref q4, .ref q5, .ref q6, .ref q7, .null, .null, .null, .null, .null, .null, .null, .null, .null, .null, .null, .null, .null, .null, .null, .null, .null, .null, .null, .null, .null, .null, .null, .null, .int 0, .int 0, .int 0, .int 0, .int 0, .int 0, .int 0, .int 0, .int 0, .int 0, .null, .null, .null, .null, .null, .null, .int 0, .int 0, .null, .null, .null, .null, .null, .int 0, .null, .null])) :: T8) from by rw [eT8]; rfl]
  refine K_putF C I (i := 0) fl_RX12_31 fpf_RX12_7 rfl rfl rfl (Nat.le_of_ble_eq_true rfl) dX12_init_66 ?_
  show KW x g 2 A 8 1102 ((h0, .inr (12, [.ref q1, .ref q2, .ref q3, .ref q4, .ref q5, .ref q6, .ref q7, .ref q8, .null, .null, .null, .null, .null, .null, .null, .null, .null, .null, .null, .null, .null, .null, .null, .null, .null, .null, .null, .null, .null, .null, .null, .int 0, .int 0, .int 0, .int 0, .int 0, .int 0, .int 0, .int 0, .int 0, .int 0, .null, .null, .null, .null, .null, .null, .int 0, .int 0, .null, .null, .null, .null, .null, .int 0, .null, .null])) :: T8) 69 [(0, .ref h0)] []
  refine K_aload_n C 0 dX12_init_69 rfl 0 rfl ?_
  refine K_bipush C dX12_init_70 (bp8 (by decide) (by decide)) ?_
  refine K_newarr C (atype := .int) (ty := .int) (n := 6) (t := 0) (a0 := (6, .inl (fun _ => 0))) (pre := [(h0, .inr (12, [.ref q1, .ref q2, .ref q3, .ref q4, .ref q5, .ref q6, .ref q7, .ref q8, .null, .null, .null, .null, .null, .null, .null, .null, .null, .null, .null, .null, .null, .null, .null, .null, .null, .null, .null, .null, .null, .null, .null, .int 0, .int 0, .int 0, .int 0, .int 0, .int 0, .int 0, .int 0, .int 0, .int 0, .null, .null, .null, .null, .null, .null, .int 0, .int 0, .null, .null, .null, .null, .null, .int 0, .null, .null]))]) (tl := T8) ac_int rfl (fun _ h => by cases h) rfl (fun _ => rfl) (by decide) (by decide) (Nat.le_of_ble_eq_true rfl) (Nat.le_of_ble_eq_true rfl) rfl dX12_init_72 (fun q9 => ?_)
  obtain ⟨T9, eT9⟩ : ∃ z, z = (q9, .inl (gca g 0, (6, .inl (fun _ => 0)))) :: T8 := ⟨_, rfl⟩
  rw [show [(h0, .inr (12, [.ref q1, .ref q2, .ref q3, .ref q4, .ref q5, .ref q6, .ref q7, .ref q8, .null, .null, .null, .null, .null, .null, .null, .null, .null, .null, .null, .null, .null, .null, .null, .null, .null, .null, .null, .null, .null, .null, .null, .int 0, .int 0, .int 0, .int 0, .int 0, .int 0, .int 0, .int 0, .int 0, .int 0, .null, .null, .null, .null, .null, .null, .int 0, .int 0, .null, .null, .null, .null, .null, .int 0, .null, .null]))] ++ (q9, .inl (gca g 0, (6, .inl (fun _ => 0)))) :: T8 = ((h0, .inr (12, [.ref q1, .ref q2, .ref q3, .ref q4, .ref q5, .ref q6, .ref q7, .ref q8, .null, .null, .null, .null, .null, .null, .null, .null, .null, .null, .null, .null, .null, .null, .null, .null, .null, .null, .null, .null, .null, .null, .null, .int 0, .int 0, .int 0, .int 0, .int 0, .int 0, .int 0, .int 0, .int 0, .int 0, .null, .null, .null, .null, .null, .null, .int 0, .int 0, .null, .null, .null, .null, .null, .int 0, .null, .null])) :: T9) from by rw [eT9]; rfl]
  refine K_putF C I (i := 0) fl_RX12_34 fpf_RX12_8 rfl rfl rfl (Nat.le_of_ble_eq_true rfl) dX12_init_74 ?_
  show KW x g 2 A 9 1108 ((h0, .inr (12, [.ref q1, .ref q2, .ref q3, .ref q4, .ref q5, .ref q6, .ref q7, .ref q8, .ref q9, .null, .null, .null, .null, .null, .null, .null, .null, .null, .null, .null, .null, .null, .null, .null, .null, .null, .null, .null, .null, .null, .null, .int 0, .int 0, .int 0, .int 0, .int 0, .int 0, .int 0, .int 0, .int 0, .int 0, .null, .null, .null, .null, .null, .null, .int 0, .int 0, .null, .null, .null, .null, .null, .int 0, .null, .null])) :: T9) 77 [(0, .ref h0)] []
  refine K_aload_n C 0 dX12_init_77 rfl 0 rfl ?_
  refine K_bipush C dX12_init_78 (bp8 (by decide) (by decide)) ?_
  refine K_newarr C (atype := .int) (ty := .int) (n := 6) (t := 0) (a0 := (6, .inl (fun _ => 0))) (pre := [(h0, .inr (12, [.ref q1, .ref q2, .ref q3, .ref q4, .ref q5, .ref q6, .ref q7, .ref q8, .ref q9, .null, .null, .null, .null, .null, .null, .null, .null, .null, .null, .null, .null, .null, .null, .null, .null, .null, .null, .null, .null, .null, .null, .int 0, .int 0, .int 0, .int 0, .int 0, .int 0, .int 0, .int 0, .int 0, .int 0, .null, .null, .null, .null, .null, .null, .int 0, .int 0, .null, .null, .null, .null, .null, .int 0, .null, .null]))]) (tl := T9) ac_int rfl (fun _ h => by cases h) rfl (fun _ => rfl) (by decide) (by decide) (Nat.le_of_ble_eq_true rfl) (Nat.le_of_ble_eq_true rfl) rfl dX12_init_80 (fun q10 => ?_)
  obtain ⟨T10, eT10⟩ : ∃ z, z = (q10, .inl (gca g 0, (6, .inl (fun _ => 0)))) :: T9 := ⟨_, rfl⟩
  rw [show [(h0, .inr (12, [.ref q1, .ref q2, .ref q3, .ref q4, .ref q5, .ref q6, .ref q7, .ref q8, .ref q9, .null, .null, .null, .null, .null, .null, .null, .null, .null, .null, .null, .null, .null, .null, .null, .null, .null, .null, .null, .null, .null, .null, .int 0, .int 0, .int 0, .int 0, .int 0, .int 0, .int 0, .int 0, .int 0, .int 0, .null, .null, .null, .null, .null, .null, .int 0, .int 0, .null, .null, .null, .null, .null, .int 0, .null, .null]))] ++ (q10, .inl (gca g 0, (6, .inl (fun _ => 0)))) :: T9 = ((h0, .inr (12, [.ref q1, .ref q2, .ref q3, .ref q4, .ref q5, .ref q6, .ref q7, .ref q8, .ref q9, .null, .null, .null, .null, .null, .null, .null, .null, .null, .null, .null, .null, .null, .null, .null, .null, .null, .null, .null, .null, .null, .null, .int 0, .int 0, .int 0, .int 0, .int 0, .int 0, .int 0, .int 0, .int 0, .int 0, .null, .null, .null, .null, .null, .null, .int 0, .int 0, .null, .null, .null, .null, .null, .int 0, .null, .null])) :: T10) from by rw [eT10]; rfl]
  refine K_putF C I (i := 0) fl_RX12_37 fpf_RX12_9 rfl rfl rfl (Nat.le_of_ble_eq_true rfl) dX12_init_82 ?_
  show KW x g 2 A 10 1114 ((h0, .inr (12, [.ref q1, .ref q2, .ref q3, .ref q4, .ref q5, .ref q6, .ref q7, .ref q8, .ref q9, .ref q10, .null, .null, .null, .null, .null, .null, .null, .null, .null, .null, .null, .null, .null, .null, .null, .null, .null, .null, .null, .null, .null, .int 0, .int 0, .int 0, .int 0, .int 0, .int 0, .int 0, .int 0, .int 0, .int 0, .null, .null, .null, .null, .null, .null, .int 0, .int 0, .null, .null, .null, .null, .null, .int 0, .null, .null])) :: T10) 85 [(0, .ref h0)] []
  refine K_aload_n C 0 dX12_init_85 rfl 0 rfl ?_
  refine K_bipush C dX12_init_86 (bp8 (by decide) (by decide)) ?_
  refine K_newarr C (atype := .int) (ty := .int) (n := 20) (t := 0) (a0 := (20, .inl (fun _ => 0))) (pre := [(h0, .inr (12, [.ref q1, .ref q2, .ref q3, .ref q4, .ref q5, .ref q6, .ref q7, .ref q8, .ref q9, .ref q10, .null, .null, .null, .null, .null, .null, .null, .null, .null, .null, .null, .null, .null, .null, .null, .null, .null, .null, .null, .null, .null, .int 0, .int 0, .int 0, .int 0, .int 0, .int 0, .int 0, .int 0, .int 0, .int 0, .null, .null, .null, .null, .null, .null, .int 0, .int 0, .null, .null, .null, .null, .null, .int 0, .null, .null]))]) (tl := T10) ac_int rfl (fun _ h => by cases h) rfl (fun _ => rfl) (by decide) (by decide) (Nat.le_of_ble_eq_true rfl) (Nat.le_of_ble_eq_true rfl) rfl dX12_init_88 (fun q11 => ?_)
  obtain ⟨T11, eT11⟩ : ∃ z, z = (q11, .inl (gca g 0, (20, .inl (fun _ => 0)))) :: T10 := ⟨_, rfl⟩
  rw [show [(h0, .inr (12, [.ref q1, .ref q2, .ref q3, .ref q4, .ref q5, .ref q6, .ref q7, .ref q8, .ref q9, .ref q10, .null, .null, .null, .null, .null, .null, .null, .null, .null, .null, .null, .null, .null, .null, .null, .null, .null, .null, .null, .null, .null, .int 0, .int 0, .int 0, .int 0, .int 0, .int 0, .int 0, .int 0, .int 0, .int 0, .null, .null, .null, .null, .null, .null, .int 0, .int 0, .null, .null, .null, .null, .null, .int 0, .null, .null]))] ++ (q11, .inl (gca g 0, (20, .inl (fun _ => 0)))) :: T10 = ((h0, .inr (12, [.ref q1, .ref q2, .ref q3, .ref q4, .ref q5, .ref q6, .ref q7, .ref q8, .ref q9, .ref q10, .null, .null, .null, .null, .null, .null, .null, .null, .null, .null, .null, .null, .null, .null, .null, .null, .null, .null, .null, .null, .null, .int 0, .int 0, .int 0, .int 0, .int 0, .int 0, .int 0, .int 0, .int 0, .int 0, .null, .null, .null, .null, .null, .null, .int 0, .int 0, .null, .null, .null, .null, .null, .int 0, .null, .null])) :: T11) from by rw [eT11]; rfl]
  refine K_putF C I (i := 0) fl_RX12_40 fpf_RX12_10 rfl rfl rfl (Nat.le_of_ble_eq_true rfl) dX12_init_90 ?_
  show KW x g 2 A 11 1134 ((h0, .inr (12, [.ref q1, .ref q2, .ref q3, .ref q4, .ref q5, .ref q6, .ref q7, .ref q8, .ref q9, .ref q10, .ref q11, .null, .null, .null, .null, .null, .null, .null, .null, .null, .null, .null, .null, .null, .null, .null, .null, .null, .null, .null, .null, .int 0, .int 0, .int 0, .int 0, .int 0, .int 0, .int 0, .int 0, .int 0, .int 0, .null, .null, .null, .null, .null, .null, .int 0, .int 0, .null, .null, .null, .null, .null, .int 0, .null, .null])) :: T11) 93 [(0, .ref h0)] []
  refine K_aload_n C 0 dX12_init_93 rfl 0 rfl ?_
  refine K_bipush C dX12_init_94 (bp8 (by decide) (by decide)) ?_
  refine K_newarr C (atype := .int) (ty := .int) (n := 20) (t := 0) (a0 := (20, .inl (fun _ => 0))) (pre := [(h0, .inr (12, [.ref q1, .ref q2, .ref q3, .ref q4, .ref q5, .ref q6, .ref q7, .ref q8, .ref q9, .ref q10, .ref q11, .null, .null, .null, .null, .null, .null, .null, .null, .null, .null, .null, .null, .null, .null, .null, .null, .null, .null, .null, .null, .int 0, .int 0, .int 0, .int 0, .int 0, .int 0, .int 0, .int 0, .int 0, .int 0, .null, .null, .null, .null, .null, .null, .int 0, .int 0, .null, .null, .null, .null, .null, .int 0, .null, .null]))]) (tl := T11) ac_int rfl (fun _ h => by cases h) rfl (fun _ => rfl) (by decide) (by decide) (Nat.le_of_ble_eq_true rfl) (Nat.le_of_ble_eq_true rfl) rfl dX12_init_96 (fun q12 => ?_)
  obtain ⟨T12, eT12⟩ : ∃ z, z = (q12, .inl (gca g 0, (20, .inl (fun _ => 0)))) :: T11 := ⟨_, rfl⟩
  rw [show [(h0, .inr (12, [.ref q1, .ref q2, .ref q3, .ref q4, .ref q5, .ref q6, .ref q7, .ref q8, .ref q9, .ref q10, .ref q11, .null, .null, .null, .null, .null, .null, .null, .null, .null, .null, .null, .null, .null, .null, .null, .null, .null, .null, .null, .null, .int 0, .int 0, .int 0, .int 0, .int 0, .int 0, .int 0, .int 0, .int 0, .int 0, .null, .null, .null, .null, .null, .null, .int 0, .int 0, .null, .null, .null, .null, .null, .int 0, .null, .null]))] ++ (q12, .inl (gca g 0, (20, .inl (fun _ => 0)))) :: T11 = ((h0, .inr (12, [.ref q1, .ref q2, .ref q3, .ref q4, .ref q5, .ref q6, .ref q7, .ref q8, .ref q9, .ref q10, .ref q11, .null, .null, .null, .null, .null, .null, .null, .null, .null, .null, .null, .null, .null, .null, .null, .null, .null, .null, .null, .null, .int 0, .int 0, .int 0, .int 0, .int 0, .int 0, .int 0, .int 0, .int 0, .int 0, .null, .null, .null, .null, .null, .null, .int 0, .int 0, .null, .null, .null, .null, .null, .int 0, .null, .null])) :: T12) from by rw [eT12]; rfl]
  refine K_putF C I (i := 0) fl_RX12_43 fpf_RX12_11 rfl rfl rfl (Nat.le_of_ble_eq_true rfl) dX12_init_98 ?_
  show KW x g 2 A 12 1154 ((h0, .inr (12, [.ref q1, .ref q2, .ref q3, .ref q4, .ref q5, .ref q6, .ref q7, .ref q8, .ref q9, .ref q10, .ref q11, .ref q12, .null, .null, .null, .null, .null, .null, .null, .null, .null, .null, .null, .null, .null, .null, .null, .null, .null, .null, .null, .int 0, .int 0, .int 0, .int 0, .int 0, .int 0, .int 0, .int 0, .int 0, .int 0, .null, .null, .null, .null, .null, .null, .int 0, .int 0, .null, .null, .null, .null, .null, .int 0, .null, .null])) :: T12) 101 [(0, .ref h0)] []
  refine K_aload_n C 0 dX12_init_101 rfl 0 rfl ?_
  refine K_bipush C dX12_init_102 (bp8 (by decide) (by decide)) ?_
  refine K_newarr C (atype := .int) (ty := .int) (n := 120) (t := 0) (a0 := (120, .inl (fun _ => 0))) (pre := [(h0, .inr (12, [.ref q1, .ref q2, .ref q3, .ref q4, .ref q5, .ref q6, .ref q7, .ref q8, .ref q9, .ref q10, .ref q11, .ref q12, .null, .null, .null, .null, .null, .null, .null, .null, .null, .null, .null, .null, .null, .null, .null, .null, .null, .null, .null, .int 0, .int 0, .int 0, .int 0, .int 0, .int 0, .int 0, .int 0, .int 0, .int 0, .null, .null, .null, .null, .null, .null, .int 0, .int 0, .null, .null, .null, .null, .null, .int 0, .null, .null]))]) (tl := T12) ac_int rfl (fun _ h => by cases h) rfl (fun _ => rfl) (by decide) (by decide) (Nat.le_of_ble_eq_true rfl) (Nat.le_of_ble_eq_true rfl) rfl dX12_init_104 (fun q13 => ?_)
  obtain ⟨T13, eT13⟩ : ∃ z, z = (q13, .inl (gca g 0, (120, .inl (fun _ => 0)))) :: T12 := ⟨_, rfl⟩
  rw [show [(h0, .inr (12, [.ref q1, .ref q2, .ref q3, .ref q4, .ref q5, .ref q6, .ref q7, .ref q8, .ref q9, .ref q10, .ref q11, .ref q12, .null, .null, .null, .null, .null, .null, .null, .null, .null, .null, .null, .null, .null, .null, .null, .null, .null, .null, .null, .int 0, .int 0, .int 0, .int 0, .int 0, .int 0, .int 0, .int 0, .int 0, .int 0, .null, .null, .null, .null, .null, .null, .int 0, .int 0, .null, .null, .null, .null, .null, .int 0, .null, .null]))] ++ (q13, .inl (gca g 0, (120, .inl (fun _ => 0)))) :: T12 = ((h0, .inr (12, [.ref q1, .ref q2, .ref q3, .ref q4, .ref q5, .ref q6, .ref q7, .ref q8, .ref q9, .ref q10, .ref q11, .ref q12, .null, .null, .null, .null, .null, .null, .null, .null, .null, .null, .null, .null, .null, .null, .null, .null, .null, .null, .null, .int 0, .int 0, .int 0, .int 0, .int 0, .int 0, .int 0, .int 0, .int 0, .int 0, .null, .null, .null, .null, .null, .null, .int 0, .int 0, .null, .null, .null, .null, .null, .int 0, .null, .null])) :: T13) from by rw [eT13]; rfl]
  refine K_putF C I (i := 0) fl_RX12_46 fpf_RX12_12 rfl rfl rfl (Nat.le_of_ble_eq_true rfl) dX12_init_106 ?_
  show KW x g 2 A 13 1274 ((h0, .inr (12, [.ref q1, .ref q2, .ref q3, .ref q4, .ref q5, .ref q6, .ref q7, .ref q8, .ref q9, .ref q10, .ref q11, .ref q12, .ref q13, .null, .null, .null, .null, .null, .null, .null, .null, .null, .null, .null, .null, .null, .null, .null, .null, .null, .null, .int 0, .int 0, .int 0, .int 0, .int 0, .int 0, .int 0, .int 0, .int 0, .int 0, .null, .null, .null, .null, .null, .null, .int 0, .int 0, .null, .null, .null, .null, .null, .int 0, .null, .null])) :: T13) 109 [(0, .ref h0)] []
  refine K_aload_n C 0 dX12_init_109 rfl 0 rfl ?_
  refine K_bipush C dX12_init_110 (bp8 (by decide) (by decide)) ?_
  refine K_newarr C (atype := .int) (ty := .int) (n := 120) (t := 0) (a0 := (120, .inl (fun _ => 0))) (pre := [(h0, .inr (12, [.ref q1, .ref q2, .ref q3, .ref q4, .ref q5, .ref q6, .ref q7, .ref q8, .ref q9, .ref q10, .ref q11, .ref q12, .ref q13, .null, .null, .null, .null, .null, .null, .null, .null, .null, .null, .null, .null, .null, .null, .null, .null, .null, .null, .int 0, .int 0, .int 0, .int 0, .int 0, .int 0, .int 0, .int 0, .int 0, .int 0, .null, .null, .null, .null, .null, .null, .int 0, .int 0, .null, .null, .null, .null, .null, .int 0, .null, .null]))]) (tl := T13) ac_int rfl (fun _ h => by cases h) rfl (fun _ => rfl) (by decide) (by decide) (Nat.le_of_ble_eq_true rfl) (Nat.le_of_ble_eq_true rfl) rfl dX12_init_112 (fun q14 => ?_)
  obtain ⟨T14, eT14⟩ : ∃ z, z = (q14, .inl (gca g 0, (120, .inl (fun _ => 0)))) :: T13 := ⟨_, rfl⟩
  rw [show [(h0, .inr (12, [.ref q1, .ref q2, .ref q3, .ref q4, .ref q5, .ref q6, .ref q7, .ref q8, .ref q9, .ref q10, .ref q11, .ref q12, .ref q13, .null, .null, .null, .null, .null, .null, .null, .null, .null, .null, .null, .null, .null, .null, .null, .null, .null, .null, .int 0, .int 0, .int 0, .int 0, .int 0, .int 0, .int 0, .int 0, .int 0, .int 0, .null, .null, .null, .null, .null, .null, .int 0, .int 0, .null, .null, .null, .null, .null, .int 0, .null, .null]))] ++ (q14, .inl (gca g 0, (120, .inl (fun _ => 0)))) :: T13 = ((h0, .inr (12, [.ref q1, .ref q2, .ref q3, .ref q4, .ref q5, .ref q6, .ref q7, .ref q8, .ref q9, .ref q10, .ref q11, .ref q12, .ref q13, .null, .null, .null, .null, .null, .null, .null, .null, .null, .null, .null, .null, .null, .null, .null, .null, .null, .null, .int 0, .int 0, .int 0, .int 0, .int 0, .int 0, .int 0, .int 0, .int 0, .int 0, .null, .null, .null, .null, .null, .null, .int 0, .int 0, .null, .null, .null, .null, .null, .int 0, .null, .null])) :: T14) from by rw [eT14]; rfl]
  refine K_putF C I (i := 0) fl_RX12_49 fpf_RX12_13 rfl rfl rfl (Nat.le_of_ble_eq_true rfl) dX12_init_114 ?_
  show KW x g 2 A 14 1394 ((h0, .inr (12, [.ref q1, .ref q2, .ref q3, .ref q4, .ref q5, .ref q6, .ref q7, .ref q8, .ref q9, .ref q10, .ref q11, .ref q12, .ref q13, .ref q14, .null, .null, .null, .null, .null, .null, .null, .null, .null, .null, .null, .null, .null, .null, .null, .null, .null, .int 0, .int 0, .int 0, .int 0, .int 0, .int 0, .int 0, .int 0, .int 0, .int 0, .null, .null, .null, .null, .null, .null, .int 0, .int 0, .null, .null, .null, .null, .null, .int 0, .null, .null])) :: T14) 117 [(0, .ref h0)] []
  refine K_aload_n C 0 dX12_init_117 rfl 0 rfl ?_
  refine K_bipush C dX12_init_118 (bp8 (by decide) (by decide)) ?_
  refine K_newarr C (atype := .int) (ty := .int) (n := 120) (t := 0) (a0 := (120, .inl (fun _ => 0))) (pre := [(h0, .inr (12, [.ref q1, .ref q2, .ref q3, .ref q4, .ref q5, .ref q6, .ref q7, .ref q8, .ref q9, .ref q10, .ref q11, .ref q12, .ref q13, .ref q14, .null, .null, .null, .null, .null, .null, .null, .null, .null, .null, .null, .null, .null, .null, .null, .null, .null, .int 0, .int 0, .int 0, .int 0, .int 0, .int 0, .int 0, .int 0, .int 0, .int 0, .null, .null, .null, .null, .null, .null, .int 0, .int 0, .null, .null, .null, .null, .null, .int 0, .null, .null]))]) (tl := T14) ac_int rfl (fun _ h => by cases h) rfl (fun _ => rfl) (by decide) (by decide) (Nat.le_of_ble_eq_true rfl) (Nat.le_of_ble_eq_true rfl) rfl dX12_init_120 (fun q15 => ?_)
  obtain ⟨T15, eT15⟩ : ∃ z, z = (q15, .inl (gca g 0, (120, .inl (fun _ => 0)))) :: T14 := ⟨_, rfl⟩
  rw [show [(h0, .inr (12, [.ref q1, .ref q2, .ref q3, .ref q4, .ref q5, .ref q6, .ref q7, .ref q8, .ref q9, .ref q10, .ref q11, .ref q12, .ref q13, .ref q14, .null, .null, .null, .null, .null, .null, .null, .null, .null, .null, .null, .null, .null, .null, .null, .null, .null, .int 0, .int 0, .int 0, .int 0, .int 0, .int 0, .int 0, .int 0, .int 0, .int 0, .null, .null, .null, .null, .null, .null, .int 0, .int 0, .null, .null, .null, .null, .null, .int 0, .null, .null]))] ++ (q15, .inl (gca g 0, (120, .inl (fun _ => 0)))) :: T14 = ((h0, .inr (12, [.ref q1, .ref q2, .ref q3, .ref q4, .ref q5, .ref q6, .ref q7, .ref q8, .ref q9, .ref q10, .ref q11, .ref q12, .ref q13, .ref q14, .null, .null, .null, .null, .null, .null, .null, .null, .null, .null, .null, .null, .null, .null, .null, .null, .null, .int 0, .int 0, .int 0, .int 0, .int 0, .int 0, .int 0, .int 0, .int 0, .int 0, .null, .null, .null, .null, .null, .null, .int 0, .int 0, .null, .null, .null, .null, .null, .int 0, .null, .null])) :: T15) from by rw [eT15]; rfl]
  refine K_putF C I (i := 0) fl_RX12_52 fpf_RX12_14 rfl rfl rfl (Nat.le_of_ble_eq_true rfl) dX12_init_122 ?_
  show KW x g 2 A 15 1514 ((h0, .inr (12, [.ref q1, .ref q2, .ref q3, .ref q4, .ref q5, .ref q6, .ref q7, .ref q8, .ref q9, .ref q10, .ref q11, .ref q12, .ref q13, .ref q14, .ref q15, .null, .null, .null, .null, .null, .null, .null, .null, .null, .null, .null, .null, .null, .null, .null, .null, .int 0, .int 0, .int 0, .int 0, .int 0, .int 0, .int 0, .int 0, .int 0, .int 0, .null, .null, .null, .null, .null, .null, .int 0, .int 0, .null, .null, .null, .null, .null, .int 0, .null, .null])) :: T15) 125 [(0, .ref h0)] []
  refine K_aload_n C 0 dX12_init_125 rfl 0 rfl ?_
  refine K_bipush C dX12_init_126 (bp8 (by decide) (by decide)) ?_
  refine K_newarr C (atype := .int) (ty := .int) (n := 120) (t := 0) (a0 := (120, .inl (fun _ => 0))) (pre := [(h0, .inr (12, [.ref q1, .ref q2, .ref q3, .ref q4, .ref q5, .ref q6, .ref q7, .ref q8, .ref q9, .ref q10, .ref q11, .ref q12, .ref q13, .ref q14, .ref q15, .null, .null, .null, .null, .null, .null, .null, .null, .null, .null, .null, .null, .null, .null, .null, .null, .int 0, .int 0, .int 0, .int 0, .int 0, .int 0, .int 0, .int 0, .int 0, .int 0, .null, .null, .null, .null, .null, .null, .int 0, .int 0, .null, .null, .null, .null, .null, .int 0, .null, .null]))]) (tl := T15) ac_int rfl (fun _ h => by cases h) rfl (fun _ => rfl) (by decide) (by decide) (Nat.le_of_ble_eq_true rfl) (Nat.le_of_ble_eq_true rfl) rfl dX12_init_128 (fun q16 => ?_)
  obtain ⟨T16, eT16⟩ : ∃ z, z = (q16, .inl (gca g 0, (120, .inl (fun _ => 0)))) :: T15 := ⟨_, rfl⟩
  rw [show [(h0, .inr (12, [.ref q1, .ref q2, .ref q3, .ref q4, .ref q5, .ref q6, .ref q7, .ref q8, .ref q9, .ref q10, .ref q11, .ref q12, .ref q13, .ref q14, .ref q15, .null, .null, .null, .null, .null, .null, .null, .null, .null, .null, .null, .null, .null, .null, .null, .null, .int 0, .int 0, .int 0, .int 0, .int 0, .int 0, .int 0, .int 0, .int 0, .int 0, .null, .null, .null, .null, .null, .null, .int 0, .int 0, .null, .null, .null, .null, .null, .int 0, .null, .null]))] ++ (q16, .inl (gca g 0, (120, .inl (fun _ => 0)))) :: T15 = ((h0, .inr (12, [.ref q1, .ref q2, .ref q3, .ref q4, .ref q5, .ref q6, .ref q7, .ref q8, .ref q9, .ref q10, .ref q11, .ref q12, .ref q13, .ref q14, .ref q15, .null, .null, .null, .null, .null, .null, .null, .null, .null, .null, .null, .null, .null, .null, .null, .null, .int 0, .int 0, .int 0, .int 0, .int 0, .int 0, .int 0, .int 0, .int 0, .int 0, .null, .null, .null, .null, .null, .null, .int 0, .int 0, .null, .null, .null, .null, .null, .int 0, .null, .null])) :: T16) from by rw [eT16]; rfl]
  refine K_putF C I (i := 0) fl_RX12_55 fpf_RX12_15 rfl rfl rfl (Nat.le_of_ble_eq_true rfl) dX12_init_130 ?_
  show KW x g 2 A 16 1634 ((h0, .inr (12, [.ref q1, .ref q2, .ref q3, .ref q4, .ref q5, .ref q6, .ref q7, .ref q8, .ref q9, .ref q10, .ref q11, .ref q12, .ref q13, .ref q14, .ref q15, .ref q16, .null, .null, .null, .null, .null, .null, .null, .null, .null, .null, .null, .null, .null, .null, .null, .int 0, .int 0, .int 0, .int 0, .int 0, .int 0, .int 0, .int 0, .int 0, .int 0, .null, .null, .null, .null, .null, .null, .int 0, .int 0, .null, .null, .null, .null, .null, .int 0, .null, .null])) :: T16) 133 [(0, .ref h0)] []
  refine K_aload_n C 0 dX12_init_133 rfl 0 rfl ?_
  refine K_bipush C dX12_init_134 (bp8 (by decide) (by decide)) ?_
  refine K_newarr C (atype := .int) (ty := .int) (n := 120) (t := 0) (a0 := (120, .inl (fun _ => 0))) (pre := [(h0, .inr (12, [.ref q1, .ref q2, .ref q3, .ref q4, .ref q5, .ref q6, .ref q7, .ref q8, .ref q9, .ref q10, .ref q11, .ref q12, .ref q13, .ref q14, .ref q15, .ref q16, .null, .null, .null, .null, .null, .null, .null, .null, .null, .null, .null, .null, .null, .null, .null, .int 0, .int 0, .int 0, .int 0, .int 0, .int 0, .int 0, .int 0, .int 0, .int 0, .null, .null, .null, .null, .null, .null, .int 0, .int 0, .null, .null, .null, .null, .null, .int 0, .null, .null]))]) (tl := T16) ac_int rfl (fun _ h => by cases h) rfl (fun _ => rfl) (by decide) (by decide) (Nat.le_of_ble_eq_true rfl) (Nat.le_of_ble_eq_true rfl) rfl dX12_init_136 (fun q17 => ?_)
  obtain ⟨T17, eT17⟩ : ∃ z, z = (q17, .inl (gca g 0, (120, .inl (fun _ => 0)))) :: T16 := ⟨_, rfl⟩
  rw [show [(h0, .inr (12, [.ref q1, .ref q2, .ref q3, .ref q4, .ref q5, .ref q6, .ref q7, .ref q8, .ref q9, .ref q10, .ref q11, .ref q12, .ref q13, .ref q14, .ref q15, .ref q16, .null, .null, .null, .null, .null, .null, .null, .null, .null, .null, .null, .null, .null, .null, .null, .int 0, .int 0, .int 0, .int 0, .int 0, .int 0, .int 0, .int 0, .int 0, .int 0, .null, .null, .null, .null, .null, .null, .int 0, .int 0, .null, .null, .null, .null, .null, .int 0, .null, .null]))] ++ (q17, .inl (gca g 0, (120, .inl (fun _ => 0)))) :: T16 = ((h0, .inr (12, [.ref q1, .ref q2, .ref q3, .ref q4, .ref q5, .ref q6, .ref q7, .ref q8, .ref q9, .ref q10, .ref q11, .ref q12, .ref q13, .ref q14, .ref q15, .ref q16, .null, .null, .null, .null, .null, .null, .null, .null, .null, .null, .null, .null, .null, .null, .null, .int 0, .int 0, .int 0, .int 0, .int 0, .int 0, .int 0, .int 0, .int 0, .int 0, .null, .null, .null, .null, .null, .null, .int 0, .int 0, .null, .null, .null, .null, .null, .int 0, .null, .null])) :: T17) from by rw [eT17]; rfl]
  refine K_putF C I (i := 0) fl_RX12_58 fpf_RX12_16 rfl rfl rfl (Nat.le_of_ble_eq_true rfl) dX12_init_138 ?_
  show KW x g 2 A 17 1754 ((h0, .inr (12, [.ref q1, .ref q2, .ref q3, .ref q4, .ref q5, .ref q6, .ref q7, .ref q8, .ref q9, .ref q10, .ref q11, .ref q12, .ref q13, .ref q14, .ref q15, .ref q16, .ref q17, .null, .null, .null, .null, .null, .null, .null, .null, .null, .null, .null, .null, .null, .null, .int 0, .int 0, .int 0, .int 0, .int 0, .int 0, .int 0, .int 0, .int 0, .int 0, .null, .null, .null, .null, .null, .null, .int 0, .int 0, .null, .null, .null, .null, .null, .int 0, .null, .null])) :: T17) 141 [(0, .ref h0)] []
  refine K_aload_n C 0 dX12_init_141 rfl 0 rfl ?_
  refine K_bipush C dX12_init_142 (bp8 (by decide) (by decide)) ?_
  refine K_newarr C (atype := .int) (ty := .int) (n := 120) (t := 0) (a0 := (120, .inl (fun _ => 0))) (pre := [(h0, .inr (12, [.ref q1, .ref q2, .ref q3, .ref q4, .ref q5, .ref q6, .ref q7, .ref q8, .ref q9, .ref q10, .ref q11, .ref q12, .ref q13, .ref q14, .ref q15, .ref q16, .ref q17, .null, .null, .null, .null, .null, .null, .null, .null, .null, .null, .null, .null, .null, .null, .int 0, .int 0, .int 0, .int 0, .int 0, .int 0, .int 0, .int 0, .int 0, .int 0, .null, .null, .null, .null, .null, .null, .int 0, .int 0, .null, .null, .null, .null, .null, .int 0, .null, .null]))]) (tl := T17) ac_int rfl (fun _ h => by cases h) rfl (fun _ => rfl) (by decide) (by decide) (Nat.le_of_ble_eq_true rfl) (Nat.le_of_ble_eq_true rfl) rfl dX12_init_144 (fun q18 => ?_)
  obtain ⟨T18, eT18⟩ : ∃ z, z = (q18, .inl (gca g 0, (120, .inl (fun _ => 0)))) :: T17 := ⟨_, rfl⟩
  rw [show [(h0, .inr (12, [.ref q1, .ref q2, .ref q3, .ref q4, .ref q5, .ref q6, .ref q7, .ref q8, .ref q9, .ref q10, .ref q11, .ref q12, .ref q13, .ref q14, .ref q15, .ref q16, .ref q17, .null, .null, .null, .null, .null, .null, .null, .null, .null, .null, .null, .null, .null, .null, .int 0, .int 0, .int 0, .int 0, .int 0, .int 0, .int 0, .int 0, .int 0, .int 0, .null, .null, .null, .null, .null, .null, .int 0, .int 0, .null, .null, .null, .null, .null, .int 0, .null, .null]))] ++ (q18, .inl (gca g 0, (120, .inl (fun _ => 0)))) :: T17 = ((h0, .inr (12, [.ref q1, .ref q2, .ref q3, .ref q4, .ref q5, .ref q6, .ref q7, .ref q8, .ref q9, .ref q10, .ref q11, .ref q12, .ref q13, .ref q14, .ref q15, .ref q16, .ref q17, .null, .null, .null, .null, .null, .null, .null, .null, .null, .null, .null, .null, .null, .null, .int 0, .int 0, .int 0, .int 0, .int 0, .int 0, .int 0, .int 0, .int 0, .int 0, .null, .null, .null, .null, .null, .null, .int 0, .int 0, .null, .null, .null, .null, .null, .int 0, .null, .null])) :: T18) from by rw [eT18]; rfl]
  refine K_putF C I (i := 0) fl_RX12_61 fpf_RX12_17 rfl rfl rfl (Nat.le_of_ble_eq_true rfl) dX12_init_146 ?_
  show KW x g 2 A 18 1874 ((h0, .inr (12, [.ref q1, .ref q2, .ref q3, .ref q4, .ref q5, .ref q6, .ref q7, .ref q8, .ref q9, .ref q10, .ref q11, .ref q12, .ref q13, .ref q14, .ref q15, .ref q16, .ref q17, .ref q18, .null, .null, .null, .null, .null, .null, .null, .null, .null, .null, .null, .null, .null, .int 0, .int 0, .int 0, .int 0, .int 0, .int 0, .int 0, .int 0, .int 0, .int 0, .null, .null, .null, .null, .null, .null, .int 0, .int 0, .null, .null, .null, .null, .null, .int 0, .null, .null])) :: T18) 149 [(0, .ref h0)] []
  refine K_aload_n C 0 dX12_init_149 rfl 0 rfl ?_
  refine K_bipush C dX12_init_150 (bp8 (by decide) (by decide)) ?_
  refine K_newarr C (atype := .int) (ty := .int) (n := 120) (t := 0) (a0 := (120, .inl (fun _ => 0))) (pre := [(h0, .inr (12, [.ref q1, .ref q2, .ref q3, .ref q4, .ref q5, .ref q6, .ref q7, .ref q8, .ref q9, .ref q10, .ref q11, .ref q12, .ref q13, .ref q14, .ref q15, .ref q16, .ref q17, .ref q18, .null, .null, .null, .null, .null, .null, .null, .null, .null, .null, .null, .null, .null, .int 0, .int 0, .int 0, .int 0, .int 0, .int 0, .int 0, .int 0, .int 0, .int 0, .null, .null, .null, .null, .null, .null, .int 0, .int 0, .null, .null, .null, .null, .null, .int 0, .null, .null]))]) (tl := T18) ac_int rfl (fun _ h => by cases h) rfl (fun _ => rfl) (by decide) (by decide) (Nat.le_of_ble_eq_true rfl) (Nat.le_of_ble_eq_true rfl) rfl dX12_init_152 (fun q19 => ?_)
  obtain ⟨T19, eT19⟩ : ∃ z, z = (q19, .inl (gca g 0, (120, .inl (fun _ => 0)))) :: T18 := ⟨_, rfl⟩
  rw [show [(h0, .inr (12, [.ref q1, .ref q2, .ref q3, .ref q4, .ref q5, .ref q6, .ref q7, .ref q8, .ref q9, .ref q10, .ref q11, .ref q12, .ref q13, .ref q14, .ref q15, .ref q16, .ref q17, .ref q18, .null, .null, .null, .null, .null, .null, .null, .null, .null, .null, .null, .null, .null, .int 0, .int 0, .int 0, .int 0, .int 0, .int 0, .int 0, .int 0, .int 0, .int 0, .null, .null, .null, .null, .null, .null, .int 0, .int 0, .null, .null, .null, .null, .null, .int 0, .null, .null]))] ++ (q19, .inl (gca g 0, (120, .inl (fun _ => 0)))) :: T18 = ((h0, .inr (12, [.ref q1, .ref q2, .ref q3, .ref q4, .ref q5, .ref q6, .ref q7, .ref q8, .ref q9, .ref q10, .ref q11, .ref q12, .ref q13, .ref q14, .ref q15, .ref q16, .ref q17, .ref q18, .null, .null, .null, .null, .null, .null, .null, .null, .null, .null, .null, .null, .null, .int 0, .int 0, .int 0, .int 0, .int 0, .int 0, .int 0, .int 0, .int 0, .int 0, .null, .null, .null, .null, .null, .null, .int 0, .int 0, .null, .null, .null, .null, .null, .int 0, .null, .null])) :: T19) from by rw [eT19]; rfl]
  refine K_putF C I (i := 0) fl_RX12_64 fpf_RX12_18 rfl rfl rfl (Nat.le_of_ble_eq_true rfl) dX12_init_154 ?_
  show KW x g 2 A 19 1994 ((h0, .inr (12, [.ref q1, .ref q2, .ref q3, .ref q4, .ref q5, .ref q6, .ref q7, .ref q8, .ref q9, .ref q10, .ref q11, .ref q12, .ref q13, .ref q14, .ref q15, .ref q16, .ref q17, .ref q18, .ref q19, .null, .null, .null, .null, .null, .null, .null, .null, .null, .null, .null, .null, .int 0, .int 0, .int 0, .int 0, .int 0, .int 0, .int 0, .int 0, .int 0, .int 0, .null, .null, .null, .null, .null, .null, .int 0, .int 0, .null, .null, .null, .null, .null, .int 0, .null, .null])) :: T19) 157 [(0, .ref h0)] []
  refine K_aload_n C 0 dX12_init_157 rfl 0 rfl ?_
  refine K_bipush C dX12_init_158 (bp8 (by decide) (by decide)) ?_
  refine K_newarr C (atype := .int) (ty := .int) (n := 120) (t := 0) (a0 := (120, .inl (fun _ => 0))) (pre := [(h0, .inr (12, [.ref q1, .ref q2, .ref q3, .ref q4, .ref q5, .ref q6, .ref q7, .ref q8, .ref q9, .ref q10, .ref q11, .ref q12, .ref q13, .ref q14, .ref q15, .ref q16, .ref q17, .ref q18, .ref q19, .null, .null, .null, .null, .null, .null, .null, .null, .null, .null, .null, .null, .int 0, .int 0, .int 0, .int 0, .int 0, .int 0, .int 0, .int 0, .int 0, .int 0, .null, .null, .null, .null, .null, .null, .int 0, .int 0, .null, .null, .null, .null, .null, .int 0, .null, .null]))]) (tl := T19) ac_int rfl (fun _ h => by cases h) rfl (fun _ => rfl) (by decide) (by decide) (Nat.le_of_ble_eq_true rfl) (Nat.le_of_ble_eq_true rfl) rfl dX12_init_160 (fun q20 => ?_)
  obtain ⟨T20, eT20⟩ : ∃ z, z = (q20, .inl (gca g 0, (120, .inl (fun _ => 0)))) :: T19 := ⟨_, rfl⟩
  rw [show [(h0, .inr (12, [.ref q1, .ref q2, .ref q3, .ref q4, .ref q5, .ref q6, .ref q7, .ref q8, .ref q9, .ref q10, .ref q11, .ref q12, .ref q13, .ref q14, .ref q15, .ref q16, .ref q17, .ref q18, .ref q19, .null, .null, .null, .null, .null, .null, .null, .null, .null, .null, .null, .null, .int 0, .int 0, .int 0, .int 0, .int 0, .int 0, .int 0, .int 0, .int 0, .int 0, .null, .null, .null, .null, .null, .null, .int 0, .int 0, .null, .null, .null, .null, .null, .int 0, .null, .null]))] ++ (q20, .inl (gca g 0, (120, .inl (fun _ => 0)))) :: T19 = ((h0, .inr (12, [.ref q1, .ref q2, .ref q3, .ref q4, .ref q5, .ref q6, .ref q7, .ref q8, .ref q9, .ref q10, .ref q11, .ref q12, .ref q13, .ref q14, .ref q15, .ref q16, .ref q17, .ref q18, .ref q19, .null, .null, .null, .null, .null, .null, .null, .null, .null, .null, .null, .null, .int 0, .int 0, .int 0, .int 0, .int 0, .int 0, .int 0, .int 0, .int 0, .int 0, .null, .null, .null, .null, .null, .null, .int 0, .int 0, .null, .null, .null, .null, .null, .int 0, .null, .null])) :: T20) from by rw [eT20]; rfl]
  refine K_putF C I (i := 0) fl_RX12_67 fpf_RX12_19 rfl rfl rfl (Nat.le_of_ble_eq_true rfl) dX12_init_162 ?_
  show KW x g 2 A 20 2114 ((h0, .inr (12, [.ref q1, .ref q2, .ref q3, .ref q4, .ref q5, .ref q6, .ref q7, .ref q8, .ref q9, .ref q10, .ref q11, .ref q12, .ref q13, .ref q14, .ref q15, .ref q16, .ref q17, .ref q18, .ref q19, .ref q20, .null, .null, .null, .null, .null, .null, .null, .null, .null, .null, .null, .int 0, .int 0, .int 0, .int 0, .int 0, .int 0, .int 0, .int 0, .int 0, .int 0, .null, .null, .null, .null, .null, .null, .int 0, .int 0, .null, .null, .null, .null, .null, .int 0, .null, .null])) :: T20) 165 [(0, .ref h0)] []
  refine K_aload_n C 0 dX12_init_165 rfl 0 rfl ?_
  refine K_bipush C dX12_init_166 (bp8 (by decide) (by decide)) ?_
  refine K_newarr C (atype := .int) (ty := .int) (n := 120) (t := 0) (a0 := (120, .inl (fun _ => 0))) (pre := [(h0, .inr (12, [.ref q1, .ref q2, .ref q3, .ref q4, .ref q5, .ref q6, .ref q7, .ref q8, .ref q9, .ref q10, .ref q11, .ref q12, .ref q13, .ref q14, .ref q15, .ref q16, .ref q17, .ref q18, .ref q19, .ref q20, .null, .null, .null, .null, .null, .null, .null, .null, .null, .null, .null, .int 0, .int 0, .int 0, .int 0, .int 0, .int 0, .int 0, .int 0, .int 0, .int 0, .null, .null, .null, .null, .null, .null, .int 0, .int 0, .null, .null, .null, .null, .null, .int 0, .null, .null]))]) (tl := T20) ac_int rfl (fun _ h => by cases h) rfl (fun _ => rfl) (by decide) (by decide) (Nat.le_of_ble_eq_true rfl) (Nat.le_of_ble_eq_true rfl) rfl dX12_init_168 (fun q21 => ?_)
  obtain ⟨T21, eT21⟩ : ∃ z, z = (q21, .inl (gca g 0, (120, .inl (fun _ => 0)))) :: T20 := ⟨_, rfl⟩
  rw [show [(h0, .inr (12, [.ref q1, .ref q2, .ref q3, .ref q4, .ref q5, .ref q6, .ref q7, .ref q8, .ref q9, .ref q10, .ref q11, .ref q12, .ref q13, .ref q14, .ref q15, .ref q16, .ref q17, .ref q18, .ref q19, .ref q20, .null, .null, .null, .null, .null, .null, .null, .null, .null, .null, .null, .int 0, .int 0, .int 0, .int 0, .int 0, .int 0, .int 0, .int 0, .int 0, .int 0, .null, .null, .null, .null, .null, .null, .int 0, .int 0, .null, .null, .null, .null, .null, .int 0, .null, .null]))] ++ (q21, .inl (gca g 0, (120, .inl (fun _ => 0)))) :: T20 = ((h0, .inr (12, [.ref q1, .ref q2, .ref q3, .ref q4, .ref q5, .ref q6, .ref q7, .ref q8, .ref q9, .ref q10, .ref q11, .ref q12, .ref q13, .ref q14, .ref q15, .ref q16, .ref q17, .ref q18, .ref q19, .ref q20, .null, .null, .null, .null, .null, .null, .null, .null, .null, .null, .null, .int 0, .int 0, .int 0, .int 0, .int 0, .int 0, .int 0, .int 0, .int 0, .int 0, .null, .null, .null, .null, .null, .null, .int 0, .int 0, .null, .null, .null, .null, .null, .int 0, .null, .null])) :: T21) from by rw [eT21]; rfl]
  refine K_putF C I (i := 0) fl_RX12_70 fpf_RX12_20 rfl rfl rfl (Nat.le_of_ble_eq_true rfl) dX12_init_170 ?_
  show KW x g 2 A 21 2234 ((h0, .inr (12, [.ref q1, .ref q2, .ref q3, .ref q4, .ref q5, .ref q6, .ref q7, .ref q8, .ref q9, .ref q10, .ref q11, .ref q12, .ref q13, .ref q14, .ref q15, .ref q16, .ref q17, .ref q18, .ref q19, .ref q20, .ref q21, .null, .null, .null, .null, .null, .null, .null, .null, .null, .null, .int 0, .int 0, .int 0, .int 0, .int 0, .int 0, .int 0, .int 0, .int 0, .int 0, .null, .null, .null, .null, .null, .null, .int 0, .int 0, .null, .null, .null, .null, .null, .int 0, .null, .null])) :: T21) 173 [(0, .ref h0)] []
  refine K_aload_n C 0 dX12_init_173 rfl 0 rfl ?_
  refine K_bipush C dX12_init_174 (bp8 (by decide) (by decide)) ?_
  refine K_newarr C (atype := .int) (ty := .int) (n := 20) (t := 0) (a0 := (20, .inl (fun _ => 0))) (pre := [(h0, .inr (12, [.ref q1, .ref q2, .ref q3, .ref q4, .ref q5, .ref q6, .ref q7, .ref q8, .ref q9, .ref q10, .ref q11, .ref q12, .ref q13, .ref q14, .ref q15, .ref q16, .ref q17, .ref q18, .ref q19, .ref q20, .ref q21, .null, .null, .null, .null, .null, .null, .null, .null, .null, .null, .int 0, .int 0, .int 0, .int 0, .int 0, .int 0, .int 0, .int 0, .int 0, .int 0, .null, .null, .null, .null, .null, .null, .int 0, .int 0, .null, .null, .null, .null, .null, .int 0, .null, .null]))]) (tl := T21) ac_int rfl (fun _ h => by cases h) rfl (fun _ => rfl) (by decide) (by decide) (Nat.le_of_ble_eq_true rfl) (Nat.le_of_ble_eq_true rfl) rfl dX12_init_176 (fun q22 => ?_)
  obtain ⟨T22, eT22⟩ : ∃ z, z = (q22, .inl (gca g 0, (20, .inl (fun _ => 0)))) :: T21 := ⟨_, rfl⟩
  rw [show [(h0, .inr (12, [.ref q1, .ref q2, .ref q3, .ref q4, .ref q5, .ref q6, .ref q7, .ref q8, .ref q9, .ref q10, .ref q11, .ref q12, .ref q13, .ref q14, .ref q15, .ref q16, .ref q17, .ref q18, .ref q19, .ref q20, .ref q21, .null, .null, .null, .null, .null, .null, .null, .null, .null, .null, .int 0, .int 0, .int 0, .int 0, .int 0, .int 0, .int 0, .int 0, .int 0, .int 0, .null, .null, .null, .null, .null, .null, .int 0, .int 0, .null, .null, .null, .null, .null, .int 0, .null, .null]))] ++ (q22, .inl (gca g 0, (20, .inl (fun _ => 0)))) :: T21 = ((h0, .inr (12, [.ref q1, .ref q2, .ref q3, .ref q4, .ref q5, .ref q6, .ref q7, .ref q8, .ref q9, .ref q10, .ref q11, .ref q12, .ref q13, .ref q14, .ref q15, .ref q16, .ref q17, .ref q18, .ref q19, .ref q20, .ref q21, .null, .null, .null, .null, .null, .null, .null, .null, .null, .null, .int 0, .int 0, .int 0, .int 0, .int 0, .int 0, .int 0, .int 0, .int 0, .int 0, .null, .null, .null, .null, .null, .null, .int 0, .int 0, .null, .null, .null, .null, .null, .int 0, .null, .null])) :: T22) from by rw [eT22]; rfl]
  refine K_putF C I (i := 0) fl_RX12_73 fpf_RX12_21 rfl rfl rfl (Nat.le_of_ble_eq_true rfl) dX12_init_178 ?_
  show KW x g 2 A 22 2254 ((h0, .inr (12, [.ref q1, .ref q2, .ref q3, .ref q4, .ref q5, .ref q6, .ref q7, .ref q8, .ref q9, .ref q10, .ref q11, .ref q12, .ref q13, .ref q14, .ref q15, .ref q16, .ref q17, .ref q18, .ref q19, .ref q20, .ref q21, .ref q22, .null, .null, .null, .null, .null, .null, .null, .null, .null, .int 0, .int 0, .int 0, .int 0, .int 0, .int 0, .int 0, .int 0, .int 0, .int 0, .null, .null, .null, .null, .null, .null, .int 0, .int 0, .null, .null, .null, .null, .null, .int 0, .null, .null])) :: T22) 181 [(0, .ref h0)] []
  refine K_aload_n C 0 dX12_init_181 rfl 0 rfl ?_
  refine K_bipush C dX12_init_182 (bp8 (by decide) (by decide)) ?_
  refine K_newarr C (atype := .int) (ty := .int) (n := 20) (t := 0) (a0 := (20, .inl (fun _ => 0))) (pre := [(h0, .inr (12, [.ref q1, .ref q2, .ref q3, .ref q4, .ref q5, .ref q6, .ref q7, .ref q8, .ref q9, .ref q10, .ref q11, .ref q12, .ref q13, .ref q14, .ref q15, .ref q16, .ref q17, .ref q18, .ref q19, .ref q20, .ref q21, .ref q22, .null, .null, .null, .null, .null, .null, .null, .null, .null, .int 0, .int 0, .int 0, .int 0, .int 0, .int 0, .int 0, .int 0, .int 0, .int 0, .null, .null, .null, .null, .null, .null, .int 0, .int 0, .null, .null, .null, .null, .null, .int 0, .null, .null]))]) (tl := T22) ac_int rfl (fun _ h => by cases h) rfl (fun _ => rfl) (by decide) (by decide) (Nat.le_of_ble_eq_true rfl) (Nat.le_of_ble_eq_true rfl) rfl dX12_init_184 (fun q23 => ?_)
  obtain ⟨T23, eT23⟩ : ∃ z, z = (q23, .inl (gca g 0, (20, .inl (fun _ => 0)))) :: T22 := ⟨_, rfl⟩
  rw [show [(h0, .inr (12, [.ref q1, .ref q2, .ref q3, .ref q4, .ref q5, .ref q6, .ref q7, .ref q8, .ref q9, .ref q10, .ref q11, .ref q12, .ref q13, .ref q14, .ref q15, .ref q16, .ref q17, .ref q18, .ref q19, .ref q20, .ref q21, .ref q22, .null, .null, .null, .null, .null, .null, .null, .null, .null, .int 0, .int 0, .int 0, .int 0, .int 0, .int 0, .int 0, .int 0, .int 0, .int 0, .null, .null, .null, .null, .null, .null, .int 0, .int 0, .null, .null, .null, .null, .null, .int 0, .null, .null]))] ++ (q23, .inl (gca g 0, (20, .inl (fun _ => 0)))) :: T22 = ((h0, .inr (12, [.ref q1, .ref q2, .ref q3, .ref q4, .ref q5, .ref q6, .ref q7, .ref q8, .ref q9, .ref q10, .ref q11, .ref q12, .ref q13, .ref q14, .ref q15, .ref q16, .ref q17, .ref q18, .ref q19, .ref q20, .ref q21, .ref q22, .null, .null, .null, .null, .null, .null, .null, .null, .null, .int 0, .int 0, .int 0, .int 0, .int 0, .int 0, .int 0, .int 0, .int 0, .int 0, .null, .null, .null, .null, .null, .null, .int 0, .int 0, .null, .null, .null, .null, .null, .int 0, .null, .null])) :: T23) from by rw [eT23]; rfl]
  refine K_putF C I (i := 0) fl_RX12_76 fpf_RX12_22 rfl rfl rfl (Nat.le_of_ble_eq_true rfl) dX12_init_186 ?_
  show KW x g 2 A 23 2274 ((h0, .inr (12, [.ref q1, .ref q2, .ref q3, .ref q4, .ref q5, .ref q6, .ref q7, .ref q8, .ref q9, .ref q10, .ref q11, .ref q12, .ref q13, .ref q14, .ref q15, .ref q16, .ref q17, .ref q18, .ref q19, .ref q20, .ref q21, .ref q22, .ref q23, .null, .null, .null, .null, .null, .null, .null, .null, .int 0, .int 0, .int 0, .int 0, .int 0, .int 0, .int 0, .int 0, .int 0, .int 0, .null, .null, .null, .null, .null, .null, .int 0, .int 0, .null, .null, .null, .null, .null, .int 0, .null, .null])) :: T23) 189 [(0, .ref h0)] []
  refine K_aload_n C 0 dX12_init_189 rfl 0 rfl ?_
  refine K_bipush C dX12_init_190 (bp8 (by decide) (by decide)) ?_
  refine K_newarr C (atype := .int) (ty := .int) (n := 20) (t := 0) (a0 := (20, .inl (fun _ => 0))) (pre := [(h0, .inr (12, [.ref q1, .ref q2, .ref q3, .ref q4, .ref q5, .ref q6, .ref q7, .ref q8, .ref q9, .ref q10, .ref q11, .ref q12, .ref q13, .ref q14, .ref q15, .ref q16, .ref q17, .ref q18, .ref q19, .ref q20, .ref q21, .ref q22, .ref q23, .null, .null, .null, .null, .null, .null, .null, .null, .int 0, .int 0, .int 0, .int 0, .int 0, .int 0, .int 0, .int 0, .int 0, .int 0, .null, .null, .null, .null, .null, .null, .int 0, .int 0, .null, .null, .null, .null, .null, .int 0, .null, .null]))]) (tl := T23) ac_int rfl (fun _ h => by cases h) rfl (fun _ => rfl) (by decide) (by decide) (Nat.le_of_ble_eq_true rfl) (Nat.le_of_ble_eq_true rfl) rfl dX12_init_192 (fun q24 => ?_)
  obtain ⟨T24, eT24⟩ : ∃ z, z = (q24, .inl (gca g 0, (20, .inl (fun _ => 0)))) :: T23 := ⟨_, rfl⟩
  rw [show [(h0, .inr (12, [.ref q1, .ref q2, .ref q3, .ref q4, .ref q5, .ref q6, .ref q7, .ref q8, .ref q9, .ref q10, .ref q11, .ref q12, .ref q13, .ref q14, .ref q15, .ref q16, .ref q17, .ref q18, .ref q19, .ref q20, .ref q21, .ref q22, .ref q23, .null, .null, .null, .null, .null, .null, .null, .null, .int 0, .int 0, .int 0, .int 0, .int 0, .int 0, .int 0, .int 0, .int 0, .int 0, .null, .null, .null, .null, .null, .null, .int 0, .int 0, .null, .null, .null, .null, .null, .int 0, .null, .null]))] ++ (q24, .inl (gca g 0, (20, .inl (fun _ => 0)))) :: T23 = ((h0, .inr (12, [.ref q1, .ref q2, .ref q3, .ref q4, .ref q5, .ref q6, .ref q7, .ref q8, .ref q9, .ref q10, .ref q11, .ref q12, .ref q13, .ref q14, .ref q15, .ref q16, .ref q17, .ref q18, .ref q19, .ref q20, .ref q21, .ref q22, .ref q23, .null, .null, .null, .null, .null, .null, .null, .null, .int 0, .int 0, .int 0, .int 0, .int 0, .int 0, .int 0, .int 0, .int 0, .int 0, .null, .null, .null, .null, .null, .null, .int 0, .int 0, .null, .null, .null, .null, .null, .int 0, .null, .null])) :: T24) from by rw [eT24]; rfl]
  refine K_putF C I (i := 0) fl_RX12_79 fpf_RX12_23 rfl rfl rfl (Nat.le_of_ble_eq_true rfl) dX12_init_194 ?_
  show KW x g 2 A 24 2294 ((h0, .inr (12, [.ref q1, .ref q2, .ref q3, .ref q4, .ref q5, .ref q6, .ref q7, .ref q8, .ref q9, .ref q10, .ref q11, .ref q12, .ref q13, .ref q14, .ref q15, .ref q16, .ref q17, .ref q18, .ref q19, .ref q20, .ref q21, .ref q22, .ref q23, .ref q24, .null, .null, .null, .null, .null, .null, .null, .int 0, .int 0, .int 0, .int 0, .int 0, .int 0, .int 0, .int 0, .int 0, .int 0, .null, .null, .null, .null, .null, .null, .int 0, .int 0, .null, .null, .null, .null, .null, .int 0, .null, .null])) :: T24) 197 [(0, .ref h0)] []
  refine K_aload_n C 0 dX12_init_197 rfl 0 rfl ?_
  refine K_sipush C dX12_init_198 (bp16 (by decide) (by decide)) ?_
  refine K_newarr C (atype := .int) (ty := .int) (n := 800) (t := 0) (a0 := (800, .inl (fun _ => 0))) (pre := [(h0, .inr (12, [.ref q1, .ref q2, .ref q3, .ref q4, .ref q5, .ref q6, .ref q7, .ref q8, .ref q9, .ref q10, .ref q11, .ref q12, .ref q13, .ref q14, .ref q15, .ref q16, .ref q17, .ref q18, .ref q19, .ref q20, .ref q21, .ref q22, .ref q23, .ref q24, .null, .null, .null, .null, .null, .null, .null, .int 0, .int 0, .int 0, .int 0, .int 0, .int 0, .int 0, .int 0, .int 0, .int 0, .null, .null, .null, .null, .null, .null, .int 0, .int 0, .null, .null, .null, .null, .null, .int 0, .null, .null]))]) (tl := T24) ac_int rfl (fun _ h => by cases h) rfl (fun _ => rfl) (by decide) (by decide) (Nat.le_of_ble_eq_true rfl) (Nat.le_of_ble_eq_true rfl) rfl dX12_init_201 (fun q25 => ?_)
  obtain ⟨T25, eT25⟩ : ∃ z, z = (q25, .inl (gca g 0, (800, .inl (fun _ => 0)))) :: T24 := ⟨_, rfl⟩
  rw [show [(h0, .inr (12, [.ref q1, .ref q2, .ref q3, .ref q4, .ref q5, .ref q6, .ref q7, .ref q8, .ref q9, .ref q10, .ref q11, .ref q12, .ref q13, .ref q14, .ref q15, .ref q16, .ref q17, .ref q18, .ref q19, .ref q20, .ref q21, .ref q22, .ref q23, .ref q24, .null, .null, .null, .null, .null, .null, .null, .int 0, .int 0, .int 0, .int 0, .int 0, .int 0, .int 0, .int 0, .int 0, .int 0, .null, .null, .null, .null, .null, .null, .int 0, .int 0, .null, .null, .null, .null, .null, .int 0, .null, .null]))] ++ (q25, .inl (gca g 0, (800, .inl (fun _ => 0)))) :: T24 = ((h0, .inr (12, [.ref q1, .ref q2, .ref q3, .ref q4, .ref q5, .ref q6, .ref q7, .ref q8, .ref q9, .ref q10, .ref q11, .ref q12, .ref q13, .ref q14, .ref q15, .ref q16, .ref q17, .ref q18, .ref q19, .ref q20, .ref q21, .ref q22, .ref q23, .ref q24, .null, .null, .null, .null, .null, .null, .null, .int 0, .int 0, .int 0, .int 0, .int 0, .int 0, .int 0, .int 0, .int 0, .int 0, .null, .null, .null, .null, .null, .null, .int 0, .int 0, .null, .null, .null, .null, .null, .int 0, .null, .null])) :: T25) from by rw [eT25]; rfl]
  refine K_putF C I (i := 0) fl_RX12_82 fpf_RX12_24 rfl rfl rfl (Nat.le_of_ble_eq_true rfl) dX12_init_203 ?_
  show KW x g 2 A 25 3094 ((h0, .inr (12, [.ref q1, .ref q2, .ref q3, .ref q4, .ref q5, .ref q6, .ref q7, .ref q8, .ref q9, .ref q10, .ref q11, .ref q12, .ref q13, .ref q14, .ref q15, .ref q16, .ref q17, .ref q18, .ref q19, .ref q20, .ref q21, .ref q22, .ref q23, .ref q24, .ref q25, .null, .null, .null, .null, .null, .null, .int 0, .int 0, .int 0, .int 0, .int 0, .int 0, .int 0, .int 0, .int 0, .int 0, .null, .null, .null, .null, .null, .null, .int 0, .int 0, .null, .null, .null, .null, .null, .int 0, .null, .null])) :: T25) 206 [(0, .ref h0)] []
  refine K_aload_n C 0 dX12_init_206 rfl 0 rfl ?_
  refine K_bipush C dX12_init_207 (bp8 (by decide) (by decide)) ?_
  refine K_newarr C (atype := .int) (ty := .int) (n := 60) (t := 0) (a0 := (60, .inl (fun _ => 0))) (pre := [(h0, .inr (12, [.ref q1, .ref q2, .ref q3, .ref q4, .ref q5, .ref q6, .ref q7, .ref q8, .ref q9, .ref q10, .ref q11, .ref q12, .ref q13, .ref q14, .ref q15, .ref q16, .ref q17, .ref q18, .ref q19, .ref q20, .ref q21, .ref q22, .ref q23, .ref q24, .ref q25, .null, .null, .null, .null, .null, .null, .int 0, .int 0, .int 0, .int 0, .int 0, .int 0, .int 0, .int 0, .int 0, .int 0, .null, .null, .null, .null, .null, .null, .int 0, .int 0, .null, .null, .null, .null, .null, .int 0, .null, .null]))]) (tl := T25) ac_int rfl (fun _ h => by cases h) rfl (fun _ => rfl) (by decide) (by decide) (Nat.le_of_ble_eq_true rfl) (Nat.le_of_ble_eq_true rfl) rfl dX12_init_209 (fun q26 => ?_)
  obtain ⟨T26, eT26⟩ : ∃ z, z = (q26, .inl (gca g 0, (60, .inl (fun _ => 0)))) :: T25 := ⟨_, rfl⟩
  rw [show [(h0, .inr (12, [.ref q1, .ref q2, .ref q3, .ref q4, .ref q5, .ref q6, .ref q7, .ref q8, .ref q9, .ref q10, .ref q11, .ref q12, .ref q13, .ref q14, .ref q15, .ref q16, .ref q17, .ref q18, .ref q19, .ref q20, .ref q21, .ref q22, .ref q23, .ref q24, .ref q25, .null, .null, .null, .null, .null, .null, .int 0, .int 0, .int 0, .int 0, .int 0, .int 0, .int 0, .int 0, .int 0, .int 0, .null, .null, .null, .null, .null, .null, .int 0, .int 0, .null, .null, .null, .null, .null, .int 0, .null, .null]))] ++ (q26, .inl (gca g 0, (60, .inl (fun _ => 0)))) :: T25 = ((h0, .inr (12, [.ref q1, .ref q2, .ref q3, .ref q4, .ref q5, .ref q6, .ref q7, .ref q8, .ref q9, .ref q10, .ref q11, .ref q12, .ref q13, .ref q14, .ref q15, .ref q16, .ref q17, .ref q18, .ref q19, .ref q20, .ref q21, .ref q22, .ref q23, .ref q24, .ref q25, .null, .null, .null, .null, .null, .null, .int 0, .int 0, .int 0, .int 0, .int 0, .int 0, .int 0, .int 0, .int 0, .int 0, .null, .null, .null, .null, .null, .null, .int 0, .int 0, .null, .null, .null, .null, .null, .int 0, .null, .null])) :: T26) from by rw [eT26]; rfl]
  refine K_putF C I (i := 0) fl_RX12_85 fpf_RX12_25 rfl rfl rfl (Nat.le_of_ble_eq_true rfl) dX12_init_211 ?_
  show KW x g 2 A 26 3154 ((h0, .inr (12, [.ref q1, .ref q2, .ref q3, .ref q4, .ref q5, .ref q6, .ref q7, .ref q8, .ref q9, .ref q10, .ref q11, .ref q12, .ref q13, .ref q14, .ref q15, .ref q16, .ref q17, .ref q18, .ref q19, .ref q20, .ref q21, .ref q22, .ref q23, .ref q24, .ref q25, .ref q26, .null, .null, .null, .null, .null, .int 0, .int 0, .int 0, .int 0, .int 0, .int 0, .int 0, .int 0, .int 0, .int 0, .null, .null, .null, .null, .null, .null, .int 0, .int 0, .null, .null, .null, .null, .null, .int 0, .null, .null])) :: T26) 214 [(0, .ref h0)] []
  refine K_aload_n C 0 dX12_init_214 rfl 0 rfl ?_
  refine K_bipush C dX12_init_215 (bp8 (by decide) (by decide)) ?_
  refine K_newarr C (atype := .int) (ty := .int) (n := 60) (t := 0) (a0 := (60, .inl (fun _ => 0))) (pre := [(h0, .inr (12, [.ref q1, .ref q2, .ref q3, .ref q4, .ref q5, .ref q6, .ref q7, .ref q8, .ref q9, .ref q10, .ref q11, .ref q12, .ref q13, .ref q14, .ref q15, .ref q16, .ref q17, .ref q18, .ref q19, .ref q20, .ref q21, .ref q22, .ref q23, .ref q24, .ref q25, .ref q26, .null, .null, .null, .null, .null, .int 0, .int 0, .int 0, .int 0, .int 0, .int 0, .int 0, .int 0, .int 0, .int 0, .null, .null, .null, .null, .null, .null, .int 0, .int 0, .null, .null, .null, .null, .null, .int 0, .null, .null]))]) (tl := T26) ac_int rfl (fun _ h => by cases h) rfl (fun _ => rfl) (by decide) (by decide) (Nat.le_of_ble_eq_true rfl) (Nat.le_of_ble_eq_true rfl) rfl dX12_init_217 (fun q27 => ?_)
  obtain ⟨T27, eT27⟩ : ∃ z, z = (q27, .inl (gca g 0, (60, .inl (fun _ => 0)))) :: T26 := ⟨_, rfl⟩
  rw [show [(h0, .inr (12, [.ref q1, .ref q2, .ref q3, .ref q4, .ref q5, .ref q6, .ref q7, .ref q8, .ref q9, .ref q10, .ref q11, .ref q12, .ref q13, .ref q14, .ref q15, .ref q16, .ref q17, .ref q18, .ref q19, .ref q20, .ref q21, .ref q22, .ref q23, .ref q24, .ref q25, .ref q26, .null, .null, .null, .null, .null, .int 0, .int 0, .int 0, .int 0, .int 0, .int 0, .int 0, .int 0, .int 0, .int 0, .null, .null, .null, .null, .null, .null, .int 0, .int 0, .null, .null, .null, .null, .null, .int 0, .null, .null]))] ++ (q27, .inl (gca g 0, (60, .inl (fun _ => 0)))) :: T26 = ((h0, .inr (12, [.ref q1, .ref q2, .ref q3, .ref q4, .ref q5, .ref q6, .ref q7, .ref q8, .ref q9, .ref q10, .ref q11, .ref q12, .ref q13, .ref q14, .ref q15, .ref q16, .ref q17, .ref q18, .ref q19, .ref q20, .ref q21, .ref q22, .ref q23, .ref q24, .ref q25, .ref q26, .null, .null, .null, .null, .null, .int 0, .int 0, .int 0, .int 0, .int 0, .int 0, .int 0, .int 0, .int 0, .int 0, .null, .null, .null, .null, .null, .null, .int 0, .int 0, .null, .null, .null, .null, .null, .int 0, .null, .null])) :: T27) from by rw [eT27]; rfl]
  refine K_putF C I (i := 0) fl_RX12_88 fpf_RX12_26 rfl rfl rfl (Nat.le_of_ble_eq_true rfl) dX12_init_219 ?_
  show KW x g 2 A 27 3214 ((h0, .inr (12, [.ref q1, .ref q2, .ref q3, .ref q4, .ref q5, .ref q6, .ref q7, .ref q8, .ref q9, .ref q10, .ref q11, .ref q12, .ref q13, .ref q14, .ref q15, .ref q16, .ref q17, .ref q18, .ref q19, .ref q20, .ref q21, .ref q22, .ref q23, .ref q24, .ref q25, .ref q26, .ref q27, .null, .null, .null, .null, .int 0, .int 0, .int 0, .int 0, .int 0, .int 0, .int 0, .int 0, .int 0, .int 0, .null, .null, .null, .null, .null, .null, .int 0, .int 0, .null, .null, .null, .null, .null, .int 0, .null, .null])) :: T27) 222 [(0, .ref h0)] []
  refine K_aload_n C 0 dX12_init_222 rfl 0 rfl ?_
  refine K_bipush C dX12_init_223 (bp8 (by decide) (by decide)) ?_
  refine K_newarr C (atype := .int) (ty := .int) (n := 6) (t := 0) (a0 := (6, .inl (fun _ => 0))) (pre := [(h0, .inr (12, [.ref q1, .ref q2, .ref q3, .ref q4, .ref q5, .ref q6, .ref q7, .ref q8, .ref q9, .ref q10, .ref q11, .ref q12, .ref q13, .ref q14, .ref q15, .ref q16, .ref q17, .ref q18, .ref q19, .ref q20, .ref q21, .ref q22, .ref q23, .ref q24, .ref q25, .ref q26, .ref q27, .null, .null, .null, .null, .int 0, .int 0, .int 0, .int 0, .int 0, .int 0, .int 0, .int 0, .int 0, .int 0, .null, .null, .null, .null, .null, .null, .int 0, .int 0, .null, .null, .null, .null, .null, .int 0, .null, .null]))]) (tl := T27) ac_int rfl (fun _ h => by cases h) rfl (fun _ => rfl) (by decide) (by decide) (Nat.le_of_ble_eq_true rfl) (Nat.le_of_ble_eq_true rfl) rfl dX12_init_225 (fun q28 => ?_)
  obtain ⟨T28, eT28⟩ : ∃ z, z = (q28, .inl (gca g 0, (6, .inl (fun _ => 0)))) :: T27 := ⟨_, rfl⟩
  rw [show [(h0, .inr (12, [.ref q1, .ref q2, .ref q3, .ref q4, .ref q5, .ref q6, .ref q7, .ref q8, .ref q9, .ref q10, .ref q11, .ref q12, .ref q13, .ref q14, .ref q15, .ref q16, .ref q17, .ref q18, .ref q19, .ref q20, .ref q21, .ref q22, .ref q23, .ref q24, .ref q25, .ref q26, .ref q27, .null, .null, .null, .null, .int 0, .int 0, .int 0, .int 0, .int 0, .int 0, .int 0, .int 0, .int 0, .int 0, .null, .null, .null, .null, .null, .null, .int 0, .int 0, .null, .null, .null, .null, .null, .int 0, .null, .null]))] ++ (q28, .inl (gca g 0, (6, .inl (fun _ => 0)))) :: T27 = ((h0, .inr (12, [.ref q1, .ref q2, .ref q3, .ref q4, .ref q5, .ref q6, .ref q7, .ref q8, .ref q9, .ref q10, .ref q11, .ref q12, .ref q13, .ref q14, .ref q15, .ref q16, .ref q17, .ref q18, .ref q19, .ref q20, .ref q21, .ref q22, .ref q23, .ref q24, .ref q25, .ref q26, .ref q27, .null, .null, .null, .null, .int 0, .int 0, .int 0, .int 0, .int 0, .int 0, .int 0, .int 0, .int 0, .int 0, .null, .null, .null, .null, .null, .null, .int 0, .int 0, .null, .null, .null, .null, .null, .int 0, .null, .null])) :: T28) from by rw [eT28]; rfl]
  refine K_putF C I (i := 0) fl_RX12_91 fpf_RX12_27 rfl rfl rfl (Nat.le_of_ble_eq_true rfl) dX12_init_227 ?_
  show KW x g 2 A 28 3220 ((h0, .inr (12, [.ref q1, .ref q2, .ref q3, .ref q4, .ref q5, .ref q6, .ref q7, .ref q8, .ref q9, .ref q10, .ref q11, .ref q12, .ref q13, .ref q14, .ref q15, .ref q16, .ref q17, .ref q18, .ref q19, .ref q20, .ref q21, .ref q22, .ref q23, .ref q24, .ref q25, .ref q26, .ref q27, .ref q28, .null, .null, .null, .int 0, .int 0, .int 0, .int 0, .int 0, .int 0, .int 0, .int 0, .int 0, .int 0, .null, .null, .null, .null, .null, .null, .int 0, .int 0, .null, .null, .null, .null, .null, .int 0, .null, .null])) :: T28) 230 [(0, .ref h0)] []
  refine K_aload_n C 0 dX12_init_230 rfl 0 rfl ?_
  refine K_bipush C dX12_init_231 (bp8 (by decide) (by decide)) ?_
  refine K_newarr C (atype := .int) (ty := .int) (n := 6) (t := 0) (a0 := (6, .inl (fun _ => 0))) (pre := [(h0, .inr (12, [.ref q1, .ref q2, .ref q3, .ref q4, .ref q5, .ref q6, .ref q7, .ref q8, .ref q9, .ref q10, .ref q11, .ref q12, .ref q13, .ref q14, .ref q15, .ref q16, .ref q17, .ref q18, .ref q19, .ref q20, .ref q21, .ref q22, .ref q23, .ref q24, .ref q25, .ref q26, .ref q27, .ref q28, .null, .null, .null, .int 0, .int 0, .int 0, .int 0, .int 0, .int 0, .int 0, .int 0, .int 0, .int 0, .null, .null, .null, .null, .null, .null, .int 0, .int 0, .null, .null, .null, .null, .null, .int 0, .null, .null]))]) (tl := T28) ac_int rfl (fun _ h => by cases h) rfl (fun _ => rfl) (by decide) (by decide) (Nat.le_of_ble_eq_true rfl) (Nat.le_of_ble_eq_true rfl) rfl dX12_init_233 (fun q29 => ?_)
  obtain ⟨T29, eT29⟩ : ∃ z, z = (q29, .inl (gca g 0, (6, .inl (fun _ => 0)))) :: T28 := ⟨_, rfl⟩
  rw [show [(h0, .inr (12, [.ref q1, .ref q2, .ref q3, .ref q4, .ref q5, .ref q6, .ref q7, .ref q8, .ref q9, .ref q10, .ref q11, .ref q12, .ref q13, .ref q14, .ref q15, .ref q16, .ref q17, .ref q18, .ref q19, .ref q20, .ref q21, .ref q22, .ref q23, .ref q24, .ref q25, .ref q26, .ref q27, .ref q28, .null, .null, .null, .int 0, .int 0, .int 0, .int 0, .int 0, .int 0, .int 0, .int 0, .int 0, .int 0, .null, .null, .null, .null, .null, .null, .int 0, .int 0, .null, .null, .null, .null, .null, .int 0, .null, .null]))] ++ (q29, .inl (gca g 0, (6, .inl (fun _ => 0)))) :: T28 = ((h0, .inr (12, [.ref q1, .ref q2, .ref q3, .ref q4, .ref q5, .ref q6, .ref q7, .ref q8, .ref q9, .ref q10, .ref q11, .ref q12, .ref q13, .ref q14, .ref q15, .ref q16, .ref q17, .ref q18, .ref q19, .ref q20, .ref q21, .ref q22, .ref q23, .ref q24, .ref q25, .ref q26, .ref q27, .ref q28, .null, .null, .null, .int 0, .int 0, .int 0, .int 0, .int 0, .int 0, .int 0, .int 0, .int 0, .int 0, .null, .null, .null, .null, .null, .null, .int 0, .int 0, .null, .null, .null, .null, .null, .int 0, .null, .null])) :: T29) from by rw [eT29]; rfl]
  refine K_putF C I (i := 0) fl_RX12_94 fpf_RX12_28 rfl rfl rfl (Nat.le_of_ble_eq_true rfl) dX12_init_235 ?_
  show KW x g 2 A 29 3226 ((h0, .inr (12, [.ref q1, .ref q2, .ref q3, .ref q4, .ref q5, .ref q6, .ref q7, .ref q8, .ref q9, .ref q10, .ref q11, .ref q12, .ref q13, .ref q14, .ref q15, .ref q16, .ref q17, .ref q18, .ref q19, .ref q20, .ref q21, .ref q22, .ref q23, .ref q24, .ref q25, .ref q26, .ref q27, .ref q28, .ref q29, .null, .null, .int 0, .int 0, .int 0, .int 0, .int 0, .int 0, .int 0, .int 0, .int 0, .int 0, .null, .null, .null, .null, .null, .null, .int 0, .int 0, .null, .null, .null, .null, .null, .int 0, .null, .null])) :: T29) 238 [(0, .ref h0)] []
  refine K_aload_n C 0 dX12_init_238 rfl 0 rfl ?_
  refine K_sipush C dX12_init_239 (bp16 (by decide) (by decide)) ?_
  refine K_newarr C (atype := .int) (ty := .int) (n := 2880) (t := 0) (a0 := (2880, .inl (fun _ => 0))) (pre := [(h0, .inr (12, [.ref q1, .ref q2, .ref q3, .ref q4, .ref q5, .ref q6, .ref q7, .ref q8, .ref q9, .ref q10, .ref q11, .ref q12, .ref q13, .ref q14, .ref q15, .ref q16, .ref q17, .ref q18, .ref q19, .ref q20, .ref q21, .ref q22, .ref q23, .ref q24, .ref q25, .ref q26, .ref q27, .ref q28, .ref q29, .null, .null, .int 0, .int 0, .int 0, .int 0, .int 0, .int 0, .int 0, .int 0, .int 0, .int 0, .null, .null, .null, .null, .null, .null, .int 0, .int 0, .null, .null, .null, .null, .null, .int 0, .null, .null]))]) (tl := T29) ac_int rfl (fun _ h => by cases h) rfl (fun _ => rfl) (by decide) (by decide) (Nat.le_of_ble_eq_true rfl) (Nat.le_of_ble_eq_true rfl) rfl dX12_init_242 (fun q30 => ?_)
  obtain ⟨T30, eT30⟩ : ∃ z, z = (q30, .inl (gca g 0, (2880, .inl (fun _ => 0)))) :: T29 := ⟨_, rfl⟩
  rw [show [(h0, .inr (12, [.ref q1, .ref q2, .ref q3, .ref q4, .ref q5, .ref q6, .ref q7, .ref q8, .ref q9, .ref q10, .ref q11, .ref q12, .ref q13, .ref q14, .ref q15, .ref q16, .ref q17, .ref q18, .ref q19, .ref q20, .ref q21, .ref q22, .ref q23, .ref q24, .ref q25, .ref q26, .ref q27, .ref q28, .ref q29, .null, .null, .int 0, .int 0, .int 0, .int 0, .int 0, .int 0, .int 0, .int 0, .int 0, .int 0, .null, .null, .null, .null, .null, .null, .int 0, .int 0, .null, .null, .null, .null, .null, .int 0, .null, .null]))] ++ (q30, .inl (gca g 0, (2880, .inl (fun _ => 0)))) :: T29 = ((h0, .inr (12, [.ref q1, .ref q2, .ref q3, .ref q4, .ref q5, .ref q6, .ref q7, .ref q8, .ref q9, .ref q10, .ref q11, .ref q12, .ref q13, .ref q14, .ref q15, .ref q16, .ref q17, .ref q18, .ref q19, .ref q20, .ref q21, .ref q22, .ref q23, .ref q24, .ref q25, .ref q26, .ref q27, .ref q28, .ref q29, .null, .null, .int 0, .int 0, .int 0, .int 0, .int 0, .int 0, .int 0, .int 0, .int 0, .int 0, .null, .null, .null, .null, .null, .null, .int 0, .int 0, .null, .null, .null, .null, .null, .int 0, .null, .null])) :: T30) from by rw [eT30]; rfl]
  refine K_putF C I (i := 0) fl_RX12_97 fpf_RX12_29 rfl rfl rfl (Nat.le_of_ble_eq_true rfl) dX12_init_244 ?_
  show KW x g 2 A 30 6106 ((h0, .inr (12, [.ref q1, .ref q2, .ref q3, .ref q4, .ref q5, .ref q6, .ref q7, .ref q8, .ref q9, .ref q10, .ref q11, .ref q12, .ref q13, .ref q14, .ref q15, .ref q16, .ref q17, .ref q18, .ref q19, .ref q20, .ref q21, .ref q22, .ref q23, .ref q24, .ref q25, .ref q26, .ref q27, .ref q28, .ref q29, .ref q30, .null, .int 0, .int 0, .int 0, .int 0, .int 0, .int 0, .int 0, .int 0, .int 0, .int 0, .null, .null, .null, .null, .null, .null, .int 0, .int 0, .null, .null, .null, .null, .null, .int 0, .null, .null])) :: T30) 247 [(0, .ref h0)] []
  refine K_aload_n C 0 dX12_init_247 rfl 0 rfl ?_
  refine K_sipush C dX12_init_248 (bp16 (by decide) (by decide)) ?_
  refine K_newarr C (atype := .long) (ty := .long) (n := 600) (t := 1) (a0 := (600, .inr (.inl (fun _ => 0)))) (pre := [(h0, .inr (12, [.ref q1, .ref q2, .ref q3, .ref q4, .ref q5, .ref q6, .ref q7, .ref q8, .ref q9, .ref q10, .ref q11, .ref q12, .ref q13, .ref q14, .ref q15, .ref q16, .ref q17, .ref q18, .ref q19, .ref q20, .ref q21, .ref q22, .ref q23, .ref q24, .ref q25, .ref q26, .ref q27, .ref q28, .ref q29, .ref q30, .null, .int 0, .int 0, .int 0, .int 0, .int 0, .int 0, .int 0, .int 0, .int 0, .int 0, .null, .null, .null, .null, .null, .null, .int 0, .int 0, .null, .null, .null, .null, .null, .int 0, .null, .null]))]) (tl := T30) ac_long rfl (fun _ h => by cases h) rfl (fun _ => rfl) (by decide) (by decide) (Nat.le_of_ble_eq_true rfl) (Nat.le_of_ble_eq_true rfl) rfl dX12_init_251 (fun q31 => ?_)
  obtain ⟨T31, eT31⟩ : ∃ z, z = (q31, .inl (gca g 1, (600, .inr (.inl (fun _ => 0))))) :: T30 := ⟨_, rfl⟩
  rw [show [(h0, .inr (12, [.ref q1, .ref q2, .ref q3, .ref q4, .ref q5, .ref q6, .ref q7, .ref q8, .ref q9, .ref q10, .ref q11, .ref q12, .ref q13, .ref q14, .ref q15, .ref q16, .ref q17, .ref q18, .ref q19, .ref q20, .ref q21, .ref q22, .ref q23, .ref q24, .ref q25, .ref q26, .ref q27, .ref q28, .ref q29, .ref q30, .null, .int 0, .int 0, .int 0, .int 0, .int 0, .int 0, .int 0, .int 0, .int 0, .int 0, .null, .null, .null, .null, .null, .null, .int 0, .int 0, .null, .null, .null, .null, .null, .int 0, .null, .null]))] ++ (q31, .inl (gca g 1, (600, .inr (.inl (fun _ => 0))))) :: T30 = ((h0, .inr (12, [.ref q1, .ref q2, .ref q3, .ref q4, .ref q5, .ref q6, .ref q7, .ref q8, .ref q9, .ref q10, .ref q11, .ref q12, .ref q13, .ref q14, .ref q15, .ref q16, .ref q17, .ref q18, .ref q19, .ref q20, .ref q21, .ref q22, .ref q23, .ref q24, .ref q25, .ref q26, .ref q27, .ref q28, .ref q29, .ref q30, .null, .int 0, .int 0, .int 0, .int 0, .int 0, .int 0, .int 0, .int 0, .int 0, .int 0, .null, .null, .null, .null, .null, .null, .int 0, .int 0, .null, .null, .null, .null, .null, .int 0, .null, .null])) :: T31) from by rw [eT31]; rfl]
  refine K_putF C I (i := 0) fl_RX12_100 fpf_RX12_30 rfl rfl rfl (Nat.le_of_ble_eq_true rfl) dX12_init_253 ?_
  show KW x g 2 A 31 6706 ((h0, .inr (12, [.ref q1, .ref q2, .ref q3, .ref q4, .ref q5, .ref q6, .ref q7, .ref q8, .ref q9, .ref q10, .ref q11, .ref q12, .ref q13, .ref q14, .ref q15, .ref q16, .ref q17, .ref q18, .ref q19, .ref q20, .ref q21, .ref q22, .ref q23, .ref q24, .ref q25, .ref q26, .ref q27, .ref q28, .ref q29, .ref q30, .ref q31, .int 0, .int 0, .int 0, .int 0, .int 0, .int 0, .int 0, .int 0, .int 0, .int 0, .null, .null, .null, .null, .null, .null, .int 0, .int 0, .null, .null, .null, .null, .null, .int 0, .null, .null])) :: T31) 256 [(0, .ref h0)] []
  refine K_aload_n C 0 dX12_init_256 rfl 0 rfl ?_
  refine K_iconst C dX12_init_257 ?_
  refine K_newarr C (atype := .int) (ty := .int) (n := 3) (t := 0) (a0 := (3, .inl (fun _ => 0))) (pre := [(h0, .inr (12, [.ref q1, .ref q2, .ref q3, .ref q4, .ref q5, .ref q6, .ref q7, .ref q8, .ref q9, .ref q10, .ref q11, .ref q12, .ref q13, .ref q14, .ref q15, .ref q16, .ref q17, .ref q18, .ref q19, .ref q20, .ref q21, .ref q22, .ref q23, .ref q24, .ref q25, .ref q26, .ref q27, .ref q28, .ref q29, .ref q30, .ref q31, .int 0, .int 0, .int 0, .int 0, .int 0, .int 0, .int 0, .int 0, .int 0, .int 0, .null, .null, .null, .null, .null, .null, .int 0, .int 0, .null, .null, .null, .null, .null, .int 0, .null, .null]))]) (tl := T31) ac_int rfl (fun _ h => by cases h) rfl (fun _ => rfl) (by decide) (by decide) (Nat.le_of_ble_eq_true rfl) (Nat.le_of_ble_eq_true rfl) rfl dX12_init_258 (fun q32 => ?_)
  obtain ⟨T32, eT32⟩ : ∃ z, z = (q32, .inl (gca g 0, (3, .inl (fun _ => 0)))) :: T31 := ⟨_, rfl⟩
  rw [show [(h0, .inr (12, [.ref q1, .ref q2, .ref q3, .ref q4, .ref q5, .ref q6, .ref q7, .ref q8, .ref q9, .ref q10, .ref q11, .ref q12, .ref q13, .ref q14, .ref q15, .ref q16, .ref q17, .ref q18, .ref q19, .ref q20, .ref q21, .ref q22, .ref q23, .ref q24, .ref q25, .ref q26, .ref q27, .ref q28, .ref q29, .ref q30, .ref q31, .int 0, .int 0, .int 0, .int 0, .int 0, .int 0, .int 0, .int 0, .int 0, .int 0, .null, .null, .null, .null, .null, .null, .int 0, .int 0, .null, .null, .null, .null, .null, .int 0, .null, .null]))] ++ (q32, .inl (gca g 0, (3, .inl (fun _ => 0)))) :: T31 = ((h0, .inr (12, [.ref q1, .ref q2, .ref q3, .ref q4, .ref q5, .ref q6, .ref q7, .ref q8, .ref q9, .ref q10, .ref q11, .ref q12, .ref q13, .ref q14, .ref q15, .ref q16, .ref q17, .ref q18, .ref q19, .ref q20, .ref q21, .ref q22, .ref q23, .ref q24, .ref q25, .ref q26, .ref q27, .ref q28, .ref q29, .ref q30, .ref q31, .int 0, .int 0, .int 0, .int 0, .int 0, .int 0, .int 0, .int 0, .int 0, .int 0, .null, .null, .null, .null, .null, .null, .int 0, .int 0, .null, .null, .null, .null, .null, .int 0, .null, .null])) :: T32) from by rw [eT32]; rfl]
  refine K_putF C I (i := 0) fl_RX12_104 fpf_RX12_41 rfl rfl rfl (Nat.le_of_ble_eq_true rfl) dX12_init_260 ?_
  show KW x g 2 A 32 6709 ((h0, .inr (12, [.ref q1, .ref q2, .ref q3, .ref q4, .ref q5, .ref q6, .ref q7, .ref q8, .ref q9, .ref q10, .ref q11, .ref q12, .ref q13, .ref q14, .ref q15, .ref q16, .ref q17, .ref q18, .ref q19, .ref q20, .ref q21, .ref q22, .ref q23, .ref q24, .ref q25, .ref q26, .ref q27, .ref q28, .ref q29, .ref q30, .ref q31, .int 0, .int 0, .int 0, .int 0, .int 0, .int 0, .int 0, .int 0, .int 0, .int 0, .ref q32, .null, .null, .null, .null, .null, .int 0, .int 0, .null, .null, .null, .null, .null, .int 0, .null, .null])) :: T32) 263 [(0, .ref h0)] []
  refine K_aload_n C 0 dX12_init_263 rfl 0 rfl ?_
  refine K_iconst C dX12_init_264 ?_
  refine K_newarr C (atype := .int) (ty := .int) (n := 3) (t := 0) (a0 := (3, .inl (fun _ => 0))) (pre := [(h0, .inr (12, [.ref q1, .ref q2, .ref q3, .ref q4, .ref q5, .ref q6, .ref q7, .ref q8, .ref q9, .ref q10, .ref q11, .ref q12, .ref q13, .ref q14, .ref q15, .ref q16, .ref q17, .ref q18, .ref q19, .ref q20, .ref q21, .ref q22, .ref q23, .ref q24, .ref q25, .ref q26, .ref q27, .ref q28, .ref q29, .ref q30, .ref q31, .int 0, .int 0, .int 0, .int 0, .int 0, .int 0, .int 0, .int 0, .int 0, .int 0, .ref q32, .null, .null, .null, .null, .null, .int 0, .int 0, .null, .null, .null, .null, .null, .int 0, .null, .null]))]) (tl := T32) ac_int rfl (fun _ h => by cases h) rfl (fun _ => rfl) (by decide) (by decide) (Nat.le_of_ble_eq_true rfl) (Nat.le_of_ble_eq_true rfl) rfl dX12_init_265 (fun q33 => ?_)
  obtain ⟨T33, eT33⟩ : ∃ z, z = (q33, .inl (gca g 0, (3, .inl (fun _ => 0)))) :: T32 := ⟨_, rfl⟩
  rw [show [(h0, .inr (12, [.ref q1, .ref q2, .ref q3, .ref q4, .ref q5, .ref q6, .ref q7, .ref q8, .ref q9, .ref q10, .ref q11, .ref q12, .ref q13, .ref q14, .ref q15, .ref q16, .ref q17, .ref q18, .ref q19, .ref q20, .ref q21, .ref q22, .ref q23, .ref q24, .ref q25, .ref q26, .ref q27, .ref q28, .ref q29, .ref q30, .ref q31, .int 0, .int 0, .int 0, .int 0, .int 0, .int 0, .int 0, .int 0, .int 0, .int 0, .ref q32, .null, .null, .null, .null, .null, .int 0, .int 0, .null, .null, .null, .null, .null, .int 0, .null, .null]))] ++ (q33, .inl (gca g 0, (3, .inl (fun _ => 0)))) :: T32 = ((h0, .inr (12, [.ref q1, .ref q2, .ref q3, .ref q4, .ref q5, .ref q6, .ref q7, .ref q8, .ref q9, .ref q10, .ref q11, .ref q12, .ref q13, .ref q14, .ref q15, .ref q16, .ref q17, .ref q18, .ref q19, .ref q20, .ref q21, .ref q22, .ref q23, .ref q24, .ref q25, .ref q26, .ref q27, .ref q28, .ref q29, .ref q30, .ref q31, .int 0, .int 0, .int 0, .int 0, .int 0, .int 0, .int 0, .int 0, .int 0, .int 0, .ref q32, .null, .null, .null, .null, .null, .int 0, .int 0, .null, .null, .null, .null, .null, .int 0, .null, .null])) :: T33) from by rw [eT33]; rfl]
  refine K_putF C I (i := 0) fl_RX12_107 fpf_RX12_42 rfl rfl rfl (Nat.le_of_ble_eq_true rfl) dX12_init_267 ?_
  show KW x g 2 A 33 6712 ((h0, .inr (12, [.ref q1, .ref q2, .ref q3, .ref q4, .ref q5, .ref q6, .ref q7, .ref q8, .ref q9, .ref q10, .ref q11, .ref q12, .ref q13, .ref q14, .ref q15, .ref q16, .ref q17, .ref q18, .ref q19, .ref q20, .ref q21, .ref q22, .ref q23, .ref q24, .ref q25, .ref q26, .ref q27, .ref q28, .ref q29, .ref q30, .ref q31, .int 0, .int 0, .int 0, .int 0, .int 0, .int 0, .int 0, .int 0, .int 0, .int 0, .ref q32, .ref q33, .null, .null, .null, .null, .int 0, .int 0, .null, .null, .null, .null, .null, .int 0, .null, .null])) :: T33) 270 [(0, .ref h0)] []
  refine K_aload_n C 0 dX12_init_270 rfl 0 rfl ?_
  refine K_bipush C dX12_init_271 (bp8 (by decide) (by decide)) ?_
  refine K_newarr C (atype := .int) (ty := .int) (n := 120) (t := 0) (a0 := (120, .inl (fun _ => 0))) (pre := [(h0, .inr (12, [.ref q1, .ref q2, .ref q3, .ref q4, .ref q5, .ref q6, .ref q7, .ref q8, .ref q9, .ref q10, .ref q11, .ref q12, .ref q13, .ref q14, .ref q15, .ref q16, .ref q17, .ref q18, .ref q19, .ref q20, .ref q21, .ref q22, .ref q23, .ref q24, .ref q25, .ref q26, .ref q27, .ref q28, .ref q29, .ref q30, .ref q31, .int 0, .int 0, .int 0, .int 0, .int 0, .int 0, .int 0, .int 0, .int 0, .int 0, .ref q32, .ref q33, .null, .null, .null, .null, .int 0, .int 0, .null, .null, .null, .null, .null, .int 0, .null, .null]))]) (tl := T33) ac_int rfl (fun _ h => by cases h) rfl (fun _ => rfl) (by decide) (by decide) (Nat.le_of_ble_eq_true rfl) (Nat.le_of_ble_eq_true rfl) rfl dX12_init_273 (fun q34 => ?_)
  obtain ⟨T34, eT34⟩ : ∃ z, z = (q34, .inl (gca g 0, (120, .inl (fun _ => 0)))) :: T33 := ⟨_, rfl⟩
  rw [show [(h0, .inr (12, [.ref q1, .ref q2, .ref q3, .ref q4, .ref q5, .ref q6, .ref q7, .ref q8, .ref q9, .ref q10, .ref q11, .ref q12, .ref q13, .ref q14, .ref q15, .ref q16, .ref q17, .ref q18, .ref q19, .ref q20, .ref q21, .ref q22, .ref q23, .ref q24, .ref q25, .ref q26, .ref q27, .ref q28, .ref q29, .ref q30, .ref q31, .int 0, .int 0, .int 0, .int 0, .int 0, .int 0, .int 0, .int 0, .int 0, .int 0, .ref q32, .ref q33, .null, .null, .null, .null, .int 0, .int 0, .null, .null, .null, .null, .null, .int 0, .null, .null]))] ++ (q34, .inl (gca g 0, (120, .inl (fun _ => 0)))) :: T33 = ((h0, .inr (12, [.ref q1, .ref q2, .ref q3, .ref q4, .ref q5, .ref q6, .ref q7, .ref q8, .ref q9, .ref q10, .ref q11, .ref q12, .ref q13, .ref q14, .ref q15, .ref q16, .ref q17, .ref q18, .ref q19, .ref q20, .ref q21, .ref q22, .ref q23, .ref q24, .ref q25, .ref q26, .ref q27, .ref q28, .ref q29, .ref q30, .ref q31, .int 0, .int 0, .int 0, .int 0, .int 0, .int 0, .int 0, .int 0, .int 0, .int 0, .ref q32, .ref q33, .null, .null, .null, .null, .int 0, .int 0, .null, .null, .null, .null, .null, .int 0, .null, .null])) :: T34) from by rw [eT34]; rfl]
  refine K_putF C I (i := 0) fl_RX12_110 fpf_RX12_43 rfl rfl rfl (Nat.le_of_ble_eq_true rfl) dX12_init_275 ?_
  show KW x g 2 A 34 6832 ((h0, .inr (12, [.ref q1, .ref q2, .ref q3, .ref q4, .ref q5, .ref q6, .ref q7, .ref q8, .ref q9, .ref q10, .ref q11, .ref q12, .ref q13, .ref q14, .ref q15, .ref q16, .ref q17, .ref q18, .ref q19, .ref q20, .ref q21, .ref q22, .ref q23, .ref q24, .ref q25, .ref q26, .ref q27, .ref q28, .ref q29, .ref q30, .ref q31, .int 0, .int 0, .int 0, .int 0, .int 0, .int 0, .int 0, .int 0, .int 0, .int 0, .ref q32, .ref q33, .ref q34, .null, .null, .null, .int 0, .int 0, .null, .null, .null, .null, .null, .int 0, .null, .null])) :: T34) 278 [(0, .ref h0)] []
  refine K_aload_n C 0 dX12_init_278 rfl 0 rfl ?_
  refine K_bipush C dX12_init_279 (bp8 (by decide) (by decide)) ?_
  refine K_newarr C (atype := .int) (ty := .int) (n := 8) (t := 0) (a0 := (8, .inl (fun _ => 0))) (pre := [(h0, .inr (12, [.ref q1, .ref q2, .ref q3, .ref q4, .ref q5, .ref q6, .ref q7, .ref q8, .ref q9, .ref q10, .ref q11, .ref q12, .ref q13, .ref q14, .ref q15, .ref q16, .ref q17, .ref q18, .ref q19, .ref q20, .ref q21, .ref q22, .ref q23, .ref q24, .ref q25, .ref q26, .ref q27, .ref q28, .ref q29, .ref q30, .ref q31, .int 0, .int 0, .int 0, .int 0, .int 0, .int 0, .int 0, .int 0, .int 0, .int 0, .ref q32, .ref q33, .ref q34, .null, .null, .null, .int 0, .int 0, .null, .null, .null, .null, .null, .int 0, .null, .null]))]) (tl := T34) ac_int rfl (fun _ h => by cases h) rfl (fun _ => rfl) (by decide) (by decide) (Nat.le_of_ble_eq_true rfl) (Nat.le_of_ble_eq_true rfl) rfl dX12_init_281 (fun q35 => ?_)
  obtain ⟨T35, eT35⟩ : ∃ z, z = (q35, .inl (gca g 0, (8, .inl (fun _ => 0)))) :: T34 := ⟨_, rfl⟩
  rw [show [(h0, .inr (12, [.ref q1, .ref q2, .ref q3, .ref q4, .ref q5, .ref q6, .ref q7, .ref q8, .ref q9, .ref q10, .ref q11, .ref q12, .ref q13, .ref q14, .ref q15, .ref q16, .ref q17, .ref q18, .ref q19, .ref q20, .ref q21, .ref q22, .ref q23, .ref q24, .ref q25, .ref q26, .ref q27, .ref q28, .ref q29, .ref q30, .ref q31, .int 0, .int 0, .int 0, .int 0, .int 0, .int 0, .int 0, .int 0, .int 0, .int 0, .ref q32, .ref q33, .ref q34, .null, .null, .null, .int 0, .int 0, .null, .null, .null, .null, .null, .int 0, .null, .null]))] ++ (q35, .inl (gca g 0, (8, .inl (fun _ => 0)))) :: T34 = ((h0, .inr (12, [.ref q1, .ref q2, .ref q3, .ref q4, .ref q5, .ref q6, .ref q7, .ref q8, .ref q9, .ref q10, .ref q11, .ref q12, .ref q13, .ref q14, .ref q15, .ref q16, .ref q17, .ref q18, .ref q19, .ref q20, .ref q21, .ref q22, .ref q23, .ref q24, .ref q25, .ref q26, .ref q27, .ref q28, .ref q29, .ref q30, .ref q31, .int 0, .int 0, .int 0, .int 0, .int 0, .int 0, .int 0, .int 0, .int 0, .int 0, .ref q32, .ref q33, .ref q34, .null, .null, .null, .int 0, .int 0, .null, .null, .null, .null, .null, .int 0, .null, .null])) :: T35) from by rw [eT35]; rfl]
  refine K_putF C I (i := 0) fl_RX12_113 fpf_RX12_44 rfl rfl rfl (Nat.le_of_ble_eq_true rfl) dX12_init_283 ?_
  show KW x g 2 A 35 6840 ((h0, .inr (12, [.ref q1, .ref q2, .ref q3, .ref q4, .ref q5, .ref q6, .ref q7, .ref q8, .ref q9, .ref q10, .ref q11, .ref q12, .ref q13, .ref q14, .ref q15, .ref q16, .ref q17, .ref q18, .ref q19, .ref q20, .ref q21, .ref q22, .ref q23, .ref q24, .ref q25, .ref q26, .ref q27, .ref q28, .ref q29, .ref q30, .ref q31, .int 0, .int 0, .int 0, .int 0, .int 0, .int 0, .int 0, .int 0, .int 0, .int 0, .ref q32, .ref q33, .ref q34, .ref q35, .null, .null, .int 0, .int 0, .null, .null, .null, .null, .null, .int 0, .null, .null])) :: T35) 286 [(0, .ref h0)] []
  refine K_aload_n C 0 dX12_init_286 rfl 0 rfl ?_
  refine K_bipush C dX12_init_287 (bp8 (by decide) (by decide)) ?_
  refine K_newarr C (atype := .int) (ty := .int) (n := 8) (t := 0) (a0 := (8, .inl (fun _ => 0))) (pre := [(h0, .inr (12, [.ref q1, .ref q2, .ref q3, .ref q4, .ref q5, .ref q6, .ref q7, .ref q8, .ref q9, .ref q10, .ref q11, .ref q12, .ref q13, .ref q14, .ref q15, .ref q16, .ref q17, .ref q18, .ref q19, .ref q20, .ref q21, .ref q22, .ref q23, .ref q24, .ref q25, .ref q26, .ref q27, .ref q28, .ref q29, .ref q30, .ref q31, .int 0, .int 0, .int 0, .int 0, .int 0, .int 0, .int 0, .int 0, .int 0, .int 0, .ref q32, .ref q33, .ref q34, .ref q35, .null, .null, .int 0, .int 0, .null, .null, .null, .null, .null, .int 0, .null, .null]))]) (tl := T35) ac_int rfl (fun _ h => by cases h) rfl (fun _ => rfl) (by decide) (by decide) (Nat.le_of_ble_eq_true rfl) (Nat.le_of_ble_eq_true rfl) rfl dX12_init_289 (fun q36 => ?_)
  obtain ⟨T36, eT36⟩ : ∃ z, z = (q36, .inl (gca g 0, (8, .inl (fun _ => 0)))) :: T35 := ⟨_, rfl⟩
  rw [show [(h0, .inr (12, [.ref q1, .ref q2, .ref q3, .ref q4, .ref q5, .ref q6, .ref q7, .ref q8, .ref q9, .ref q10, .ref q11, .ref q12, .ref q13, .ref q14, .ref q15, .ref q16, .ref q17, .ref q18, .ref q19, .ref q20, .ref q21, .ref q22, .ref q23, .ref q24, .ref q25, .ref q26, .ref q27, .ref q28, .ref q29, .ref q30, .ref q31, .int 0, .int 0, .int 0, .int 0, .int 0, .int 0, .int 0, .int 0, .int 0, .int 0, .ref q32, .ref q33, .ref q34, .ref q35, .null, .null, .int 0, .int 0, .null, .null, .null, .null, .null, .int 0, .null, .null]))] ++ (q36, .inl (gca g 0, (8, .inl (fun _ => 0)))) :: T35 = ((h0, .inr (12, [.ref q1, .ref q2, .ref q3, .ref q4, .ref q5, .ref q6, .ref q7, .ref q8, .ref q9, .ref q10, .ref q11, .ref q12, .ref q13, .ref q14, .ref q15, .ref q16, .ref q17, .ref q18, .ref q19, .ref q20, .ref q21, .ref q22, .ref q23, .ref q24, .ref q25, .ref q26, .ref q27, .ref q28, .ref q29, .ref q30, .ref q31, .int 0, .int 0, .int 0, .int 0, .int 0, .int 0, .int 0, .int 0, .int 0, .int 0, .ref q32, .ref q33, .ref q34, .ref q35, .null, .null, .int 0, .int 0, .null, .null, .null, .null, .null, .int 0, .null, .null])) :: T36) from by rw [eT36]; rfl]
  refine K_putF C I (i := 0) fl_RX12_116 fpf_RX12_45 rfl rfl rfl (Nat.le_of_ble_eq_true rfl) dX12_init_291 ?_
  show KW x g 2 A 36 6848 ((h0, .inr (12, [.ref q1, .ref q2, .ref q3, .ref q4, .ref q5, .ref q6, .ref q7, .ref q8, .ref q9, .ref q10, .ref q11, .ref q12, .ref q13, .ref q14, .ref q15, .ref q16, .ref q17, .ref q18, .ref q19, .ref q20, .ref q21, .ref q22, .ref q23, .ref q24, .ref q25, .ref q26, .ref q27, .ref q28, .ref q29, .ref q30, .ref q31, .int 0, .int 0, .int 0, .int 0, .int 0, .int 0, .int 0, .int 0, .int 0, .int 0, .ref q32, .ref q33, .ref q34, .ref q35, .ref q36, .null, .int 0, .int 0, .null, .null, .null, .null, .null, .int 0, .null, .null])) :: T36) 294 [(0, .ref h0)] []
  refine K_aload_n C 0 dX12_init_294 rfl 0 rfl ?_
  refine K_bipush C dX12_init_295 (bp8 (by decide) (by decide)) ?_
  refine K_newarr C (atype := .int) (ty := .int) (n := 6) (t := 0) (a0 := (6, .inl (fun _ => 0))) (pre := [(h0, .inr (12, [.ref q1, .ref q2, .ref q3, .ref q4, .ref q5, .ref q6, .ref q7, .ref q8, .ref q9, .ref q10, .ref q11, .ref q12, .ref q13, .ref q14, .ref q15, .ref q16, .ref q17, .ref q18, .ref q19, .ref q20, .ref q21, .ref q22, .ref q23, .ref q24, .ref q25, .ref q26, .ref q27, .ref q28, .ref q29, .ref q30, .ref q31, .int 0, .int 0, .int 0, .int 0, .int 0, .int 0, .int 0, .int 0, .int 0, .int 0, .ref q32, .ref q33, .ref q34, .ref q35, .ref q36, .null, .int 0, .int 0, .null, .null, .null, .null, .null, .int 0, .null, .null]))]) (tl := T36) ac_int rfl (fun _ h => by cases h) rfl (fun _ => rfl) (by decide) (by decide) (Nat.le_of_ble_eq_true rfl) (Nat.le_of_ble_eq_true rfl) rfl dX12_init_297 (fun q37 => ?_)
  obtain ⟨T37, eT37⟩ : ∃ z, z = (q37, .inl (gca g 0, (6, .inl (fun _ => 0)))) :: T36 := ⟨_, rfl⟩
  rw [show [(h0, .inr (12, [.ref q1, .ref q2, .ref q3, .ref q4, .ref q5, .ref q6, .ref q7, .ref q8, .ref q9, .ref q10, .ref q11, .ref q12, .ref q13, .ref q14, .ref q15, .ref q16, .ref q17, .ref q18, .ref q19, .ref q20, .ref q21, .ref q22, .ref q23, .ref q24, .ref q25, .ref q26, .ref q27, .ref q28, .ref q29, .ref q30, .ref q31, .int 0, .int 0, .int 0, .int 0, .int 0, .int 0, .int 0, .int 0, .int 0, .int 0, .ref q32, .ref q33, .ref q34, .ref q35, .ref q36, .null, .int 0, .int 0, .null, .null, .null, .null, .null, .int 0, .null, .null]))] ++ (q37, .inl (gca g 0, (6, .inl (fun _ => 0)))) :: T36 = ((h0, .inr (12, [.ref q1, .ref q2, .ref q3, .ref q4, .ref q5, .ref q6, .ref q7, .ref q8, .ref q9, .ref q10, .ref q11, .ref q12, .ref q13, .ref q14, .ref q15, .ref q16, .ref q17, .ref q18, .ref q19, .ref q20, .ref q21, .ref q22, .ref q23, .ref q24, .ref q25, .ref q26, .ref q27, .ref q28, .ref q29, .ref q30, .ref q31, .int 0, .int 0, .int 0, .int 0, .int 0, .int 0, .int 0, .int 0, .int 0, .int 0, .ref q32, .ref q33, .ref q34, .ref q35, .ref q36, .null, .int 0, .int 0, .null, .null, .null, .null, .null, .int 0, .null, .null])) :: T37) from by rw [eT37]; rfl]
  refine K_putF C I (i := 0) fl_RX12_119 fpf_RX12_46 rfl rfl rfl (Nat.le_of_ble_eq_true rfl) dX12_init_299 ?_
  show KW x g 2 A 37 6854 ((h0, .inr (12, [.ref q1, .ref q2, .ref q3, .ref q4, .ref q5, .ref q6, .ref q7, .ref q8, .ref q9, .ref q10, .ref q11, .ref q12, .ref q13, .ref q14, .ref q15, .ref q16, .ref q17, .ref q18, .ref q19, .ref q20, .ref q21, .ref q22, .ref q23, .ref q24, .ref q25, .ref q26, .ref q27, .ref q28, .ref q29, .ref q30, .ref q31, .int 0, .int 0, .int 0, .int 0, .int 0, .int 0, .int 0, .int 0, .int 0, .int 0, .ref q32, .ref q33, .ref q34, .ref q35, .ref q36, .ref q37, .int 0, .int 0, .null, .null, .null, .null, .null, .int 0, .null, .null])) :: T37) 302 [(0, .ref h0)] []
  refine K_aload_n C 0 dX12_init_302 rfl 0 rfl ?_
  refine K_bipush C dX12_init_303 (bp8 (by decide) (by decide)) ?_
  refine K_newarr C (atype := .boolean) (ty := .boolean) (n := 48) (t := 3) (a0 := (48, .inl (fun _ => 0))) (pre := [(h0, .inr (12, [.ref q1, .ref q2, .ref q3, .ref q4, .ref q5, .ref q6, .ref q7, .ref q8, .ref q9, .ref q10, .ref q11, .ref q12, .ref q13, .ref q14, .ref q15, .ref q16, .ref q17, .ref q18, .ref q19, .ref q20, .ref q21, .ref q22, .ref q23, .ref q24, .ref q25, .ref q26, .ref q27, .ref q28, .ref q29, .ref q30, .ref q31, .int 0, .int 0, .int 0, .int 0, .int 0, .int 0, .int 0, .int 0, .int 0, .int 0, .ref q32, .ref q33, .ref q34, .ref q35, .ref q36, .ref q37, .int 0, .int 0, .null, .null, .null, .null, .null, .int 0, .null, .null]))]) (tl := T37) ac_boolean rfl (fun _ h => by cases h) rfl (fun _ => rfl) (by decide) (by decide) (Nat.le_of_ble_eq_true rfl) (Nat.le_of_ble_eq_true rfl) rfl dX12_init_305 (fun q38 => ?_)
  obtain ⟨T38, eT38⟩ : ∃ z, z = (q38, .inl (gca g 3, (48, .inl (fun _ => 0)))) :: T37 := ⟨_, rfl⟩
  rw [show [(h0, .inr (12, [.ref q1, .ref q2, .ref q3, .ref q4, .ref q5, .ref q6, .ref q7, .ref q8, .ref q9, .ref q10, .ref q11, .ref q12, .ref q13, .ref q14, .ref q15, .ref q16, .ref q17, .ref q18, .ref q19, .ref q20, .ref q21, .ref q22, .ref q23, .ref q24, .ref q25, .ref q26, .ref q27, .ref q28, .ref q29, .ref q30, .ref q31, .int 0, .int 0, .int 0, .int 0, .int 0, .int 0, .int 0, .int 0, .int 0, .int 0, .ref q32, .ref q33, .ref q34, .ref q35, .ref q36, .ref q37, .int 0, .int 0, .null, .null, .null, .null, .null, .int 0, .null, .null]))] ++ (q38, .inl (gca g 3, (48, .inl (fun _ => 0)))) :: T37 = ((h0, .inr (12, [.ref q1, .ref q2, .ref q3, .ref q4, .ref q5, .ref q6, .ref q7, .ref q8, .ref q9, .ref q10, .ref q11, .ref q12, .ref q13, .ref q14, .ref q15, .ref q16, .ref q17, .ref q18, .ref q19, .ref q20, .ref q21, .ref q22, .ref q23, .ref q24, .ref q25, .ref q26, .ref q27, .ref q28, .ref q29, .ref q30, .ref q31, .int 0, .int 0, .int 0, .int 0, .int 0, .int 0, .int 0, .int 0, .int 0, .int 0, .ref q32, .ref q33, .ref q34, .ref q35, .ref q36, .ref q37, .int 0, .int 0, .null, .null, .null, .null, .null, .int 0, .null, .null])) :: T38) from by rw [eT38]; rfl]
  refine K_putF C I (i := 0) fl_RX12_122 fpf_RX12_49 rfl rfl rfl (Nat.le_of_ble_eq_true rfl) dX12_init_307 ?_
  show KW x g 2 A 38 6902 ((h0, .inr (12, [.ref q1, .ref q2, .ref q3, .ref q4, .ref q5, .ref q6, .ref q7, .ref q8, .ref q9, .ref q10, .ref q11, .ref q12, .ref q13, .ref q14, .ref q15, .ref q16, .ref q17, .ref q18, .ref q19, .ref q20, .ref q21, .ref q22, .ref q23, .ref q24, .ref q25, .ref q26, .ref q27, .ref q28, .ref q29, .ref q30, .ref q31, .int 0, .int 0, .int 0, .int 0, .int 0, .int 0, .int 0, .int 0, .int 0, .int 0, .ref q32, .ref q33, .ref q34, .ref q35, .ref q36, .ref q37, .int 0, .int 0, .ref q38, .null, .null, .null, .null, .int 0, .null, .null])) :: T38) 310 [(0, .ref h0)] []
  refine K_aload_n C 0 dX12_init_310 rfl 0 rfl ?_
  refine K_bipush C dX12_init_311 (bp8 (by decide) (by decide)) ?_
  refine K_newarr C (atype := .boolean) (ty := .boolean) (n := 9) (t := 3) (a0 := (9, .inl (fun _ => 0))) (pre := [(h0, .inr (12, [.ref q1, .ref q2, .ref q3, .ref q4, .ref q5, .ref q6, .ref q7, .ref q8, .ref q9, .ref q10, .ref q11, .ref q12, .ref q13, .ref q14, .ref q15, .ref q16, .ref q17, .ref q18, .ref q19, .ref q20, .ref q21, .ref q22, .ref q23, .ref q24, .ref q25, .ref q26, .ref q27, .ref q28, .ref q29, .ref q30, .ref q31, .int 0, .int 0, .int 0, .int 0, .int 0, .int 0, .int 0, .int 0, .int 0, .int 0, .ref q32, .ref q33, .ref q34, .ref q35, .ref q36, .ref q37, .int 0, .int 0, .ref q38, .null, .null, .null, .null, .int 0, .null, .null]))]) (tl := T38) ac_boolean rfl (fun _ h => by cases h) rfl (fun _ => rfl) (by decide) (by decide) (Nat.le_of_ble_eq_true rfl) (Nat.le_of_ble_eq_true rfl) rfl dX12_init_313 (fun q39 => ?_)
  obtain ⟨T39, eT39⟩ : ∃ z, z = (q39, .inl (gca g 3, (9, .inl (fun _ => 0)))) :: T38 := ⟨_, rfl⟩
  rw [show [(h0, .inr (12, [.ref q1, .ref q2, .ref q3, .ref q4, .ref q5, .ref q6, .ref q7, .ref q8, .ref q9, .ref q10, .ref q11, .ref q12, .ref q13, .ref q14, .ref q15, .ref q16, .ref q17, .ref q18, .ref q19, .ref q20, .ref q21, .ref q22, .ref q23, .ref q24, .ref q25, .ref q26, .ref q27, .ref q28, .ref q29, .ref q30, .ref q31, .int 0, .int 0, .int 0, .int 0, .int 0, .int 0, .int 0, .int 0, .int 0, .int 0, .ref q32, .ref q33, .ref q34, .ref q35, .ref q36, .ref q37, .int 0, .int 0, .ref q38, .null, .null, .null, .null, .int 0, .null, .null]))] ++ (q39, .inl (gca g 3, (9, .inl (fun _ => 0)))) :: T38 = ((h0, .inr (12, [.ref q1, .ref q2, .ref q3, .ref q4, .ref q5, .ref q6, .ref q7, .ref q8, .ref q9, .ref q10, .ref q11, .ref q12, .ref q13, .ref q14, .ref q15, .ref q16, .ref q17, .ref q18, .ref q19, .ref q20, .ref q21, .ref q22, .ref q23, .ref q24, .ref q25, .ref q26, .ref q27, .ref q28, .ref q29, .ref q30, .ref q31, .int 0, .int 0, .int 0, .int 0, .int 0, .int 0, .int 0, .int 0, .int 0, .int 0, .ref q32, .ref q33, .ref q34, .ref q35, .ref q36, .ref q37, .int 0, .int 0, .ref q38, .null, .null, .null, .null, .int 0, .null, .null])) :: T39) from by rw [eT39]; rfl]
  refine K_putF C I (i := 0) fl_RX12_126 fpf_RX12_50 rfl rfl rfl (Nat.le_of_ble_eq_true rfl) dX12_init_315 ?_
  show KW x g 2 A 39 6911 ((h0, .inr (12, [.ref q1, .ref q2, .ref q3, .ref q4, .ref q5, .ref q6, .ref q7, .ref q8, .ref q9, .ref q10, .ref q11, .ref q12, .ref q13, .ref q14, .ref q15, .ref q16, .ref q17, .ref q18, .ref q19, .ref q20, .ref q21, .ref q22, .ref q23, .ref q24, .ref q25, .ref q26, .ref q27, .ref q28, .ref q29, .ref q30, .ref q31, .int 0, .int 0, .int 0, .int 0, .int 0, .int 0, .int 0, .int 0, .int 0, .int 0, .ref q32, .ref q33, .ref q34, .ref q35, .ref q36, .ref q37, .int 0, .int 0, .ref q38, .ref q39, .null, .null, .null, .int 0, .null, .null])) :: T39) 318 [(0, .ref h0)] []
  refine K_aload_n C 0 dX12_init_318 rfl 0 rfl ?_
  refine K_bipush C dX12_init_319 (bp8 (by decide) (by decide)) ?_
  refine K_newarr C (atype := .int) (ty := .int) (n := 120) (t := 0) (a0 := (120, .inl (fun _ => 0))) (pre := [(h0, .inr (12, [.ref q1, .ref q2, .ref q3, .ref q4, .ref q5, .ref q6, .ref q7, .ref q8, .ref q9, .ref q10, .ref q11, .ref q12, .ref q13, .ref q14, .ref q15, .ref q16, .ref q17, .ref q18, .ref q19, .ref q20, .ref q21, .ref q22, .ref q23, .ref q24, .ref q25, .ref q26, .ref q27, .ref q28, .ref q29, .ref q30, .ref q31, .int 0, .int 0, .int 0, .int 0, .int 0, .int 0, .int 0, .int 0, .int 0, .int 0, .ref q32, .ref q33, .ref q34, .ref q35, .ref q36, .ref q37, .int 0, .int 0, .ref q38, .ref q39, .null, .null, .null, .int 0, .null, .null]))]) (tl := T39) ac_int rfl (fun _ h => by cases h) rfl (fun _ => rfl) (by decide) (by decide) (Nat.le_of_ble_eq_true rfl) (Nat.le_of_ble_eq_true rfl) rfl dX12_init_321 (fun q40 => ?_)
  obtain ⟨T40, eT40⟩ : ∃ z, z = (q40, .inl (gca g 0, (120, .inl (fun _ => 0)))) :: T39 := ⟨_, rfl⟩
  rw [show [(h0, .inr (12, [.ref q1, .ref q2, .ref q3, .ref q4, .ref q5, .ref q6, .ref q7, .ref q8, .ref q9, .ref q10, .ref q11, .ref q12, .ref q13, .ref q14, .ref q15, .ref q16, .ref q17, .ref q18, .ref q19, .ref q20, .ref q21, .ref q22, .ref q23, .ref q24, .ref q25, .ref q26, .ref q27, .ref q28, .ref q29, .ref q30, .ref q31, .int 0, .int 0, .int 0, .int 0, .int 0, .int 0, .int 0, .int 0, .int 0, .int 0, .ref q32, .ref q33, .ref q34, .ref q35, .ref q36, .ref q37, .int 0, .int 0, .ref q38, .ref q39, .null, .null, .null, .int 0, .null, .null]))] ++ (q40, .inl (gca g 0, (120, .inl (fun _ => 0)))) :: T39 = ((h0, .inr (12, [.ref q1, .ref q2, .ref q3, .ref q4, .ref q5, .ref q6, .ref q7, .ref q8, .ref q9, .ref q10, .ref q11, .ref q12, .ref q13, .ref q14, .ref q15, .ref q16, .ref q17, .ref q18, .ref q19, .ref q20, .ref q21, .ref q22, .ref q23, .ref q24, .ref q25, .ref q26, .ref q27, .ref q28, .ref q29, .ref q30, .ref q31, .int 0, .int 0, .int 0, .int 0, .int 0, .int 0, .int 0, .int 0, .int 0, .int 0, .ref q32, .ref q33, .ref q34, .ref q35, .ref q36, .ref q37, .int 0, .int 0, .ref q38, .ref q39, .null, .null, .null, .int 0, .null, .null])) :: T40) from by rw [eT40]; rfl]
  refine K_putF C I (i := 0) fl_RX12_129 fpf_RX12_51 rfl rfl rfl (Nat.le_of_ble_eq_true rfl) dX12_init_323 ?_
  show KW x g 2 A 40 7031 ((h0, .inr (12, [.ref q1, .ref q2, .ref q3, .ref q4, .ref q5, .ref q6, .ref q7, .ref q8, .ref q9, .ref q10, .ref q11, .ref q12, .ref q13, .ref q14, .ref q15, .ref q16, .ref q17, .ref q18, .ref q19, .ref q20, .ref q21, .ref q22, .ref q23, .ref q24, .ref q25, .ref q26, .ref q27, .ref q28, .ref q29, .ref q30, .ref q31, .int 0, .int 0, .int 0, .int 0, .int 0, .int 0, .int 0, .int 0, .int 0, .int 0, .ref q32, .ref q33, .ref q34, .ref q35, .ref q36, .ref q37, .int 0, .int 0, .ref q38, .ref q39, .ref q40, .null, .null, .int 0, .null, .null])) :: T40) 326 [(0, .ref h0)] []
  refine K_aload_n C 0 dX12_init_326 rfl 0 rfl ?_
  refine K_bipush C dX12_init_327 (bp8 (by decide) (by decide)) ?_
  refine K_newarr C (atype := .int) (ty := .int) (n := 120) (t := 0) (a0 := (120, .inl (fun _ => 0))) (pre := [(h0, .inr (12, [.ref q1, .ref q2, .ref q3, .ref q4, .ref q5, .ref q6, .ref q7, .ref q8, .ref q9, .ref q10, .ref q11, .ref q12, .ref q13, .ref q14, .ref q15, .ref q16, .ref q17, .ref q18, .ref q19, .ref q20, .ref q21, .ref q22, .ref q23, .ref q24, .ref q25, .ref q26, .ref q27, .ref q28, .ref q29, .ref q30, .ref q31, .int 0, .int 0, .int 0, .int 0, .int 0, .int 0, .int 0, .int 0, .int 0, .int 0, .ref q32, .ref q33, .ref q34, .ref q35, .ref q36, .ref q37, .int 0, .int 0, .ref q38, .ref q39, .ref q40, .null, .null, .int 0, .null, .null]))]) (tl := T40) ac_int rfl (fun _ h => by cases h) rfl (fun _ => rfl) (by decide) (by decide) (Nat.le_of_ble_eq_true rfl) (Nat.le_of_ble_eq_true rfl) rfl dX12_init_329 (fun q41 => ?_)
  obtain ⟨T41, eT41⟩ : ∃ z, z = (q41, .inl (gca g 0, (120, .inl (fun _ => 0)))) :: T40 := ⟨_, rfl⟩
  rw [show [(h0, .inr (12, [.ref q1, .ref q2, .ref q3, .ref q4, .ref q5, .ref q6, .ref q7, .ref q8, .ref q9, .ref q10, .ref q11, .ref q12, .ref q13, .ref q14, .ref q15, .ref q16, .ref q17, .ref q18, .ref q19, .ref q20, .ref q21, .ref q22, .ref q23, .ref q24, .ref q25, .ref q26, .ref q27, .ref q28, .ref q29, .ref q30, .ref q31, .int 0, .int 0, .int 0, .int 0, .int 0, .int 0, .int 0, .int 0, .int 0, .int 0, .ref q32, .ref q33, .ref q34, .ref q35, .ref q36, .ref q37, .int 0, .int 0, .ref q38, .ref q39, .ref q40, .null, .null, .int 0, .null, .null]))] ++ (q41, .inl (gca g 0, (120, .inl (fun _ => 0)))) :: T40 = ((h0, .inr (12, [.ref q1, .ref q2, .ref q3, .ref q4, .ref q5, .ref q6, .ref q7, .ref q8, .ref q9, .ref q10, .ref q11, .ref q12, .ref q13, .ref q14, .ref q15, .ref q16, .ref q17, .ref q18, .ref q19, .ref q20, .ref q21, .ref q22, .ref q23, .ref q24, .ref q25, .ref q26, .ref q27, .ref q28, .ref q29, .ref q30, .ref q31, .int 0, .int 0, .int 0, .int 0, .int 0, .int 0, .int 0, .int 0, .int 0, .int 0, .ref q32, .ref q33, .ref q34, .ref q35, .ref q36, .ref q37, .int 0, .int 0, .ref q38, .ref q39, .ref q40, .null, .null, .int 0, .null, .null])) :: T41) from by rw [eT41]; rfl]
  refine K_putF C I (i := 0) fl_RX12_132 fpf_RX12_52 rfl rfl rfl (Nat.le_of_ble_eq_true rfl) dX12_init_331 ?_
  show KW x g 2 A 41 7151 ((h0, .inr (12, [.ref q1, .ref q2, .ref q3, .ref q4, .ref q5, .ref q6, .ref q7, .ref q8, .ref q9, .ref q10, .ref q11, .ref q12, .ref q13, .ref q14, .ref q15, .ref q16, .ref q17, .ref q18, .ref q19, .ref q20, .ref q21, .ref q22, .ref q23, .ref q24, .ref q25, .ref q26, .ref q27, .ref q28, .ref q29, .ref q30, .ref q31, .int 0, .int 0, .int 0, .int 0, .int 0, .int 0, .int 0, .int 0, .int 0, .int 0, .ref q32, .ref q33, .ref q34, .ref q35, .ref q36, .ref q37, .int 0, .int 0, .ref q38, .ref q39, .ref q40, .ref q41, .null, .int 0, .null, .null])) :: T41) 334 [(0, .ref h0)] []
  refine K_aload_n C 0 dX12_init_334 rfl 0 rfl ?_
  refine K_bipush C dX12_init_335 (bp8 (by decide) (by decide)) ?_
  refine K_newarr C (atype := .int) (ty := .int) (n := 120) (t := 0) (a0 := (120, .inl (fun _ => 0))) (pre := [(h0, .inr (12, [.ref q1, .ref q2, .ref q3, .ref q4, .ref q5, .ref q6, .ref q7, .ref q8, .ref q9, .ref q10, .ref q11, .ref q12, .ref q13, .ref q14, .ref q15, .ref q16, .ref q17, .ref q18, .ref q19, .ref q20, .ref q21, .ref q22, .ref q23, .ref q24, .ref q25, .ref q26, .ref q27, .ref q28, .ref q29, .ref q30, .ref q31, .int 0, .int 0, .int 0, .int 0, .int 0, .int 0, .int 0, .int 0, .int 0, .int 0, .ref q32, .ref q33, .ref q34, .ref q35, .ref q36, .ref q37, .int 0, .int 0, .ref q38, .ref q39, .ref q40, .ref q41, .null, .int 0, .null, .null]))]) (tl := T41) ac_int rfl (fun _ h => by cases h) rfl (fun _ => rfl) (by decide) (by decide) (Nat.le_of_ble_eq_true rfl) (Nat.le_of_ble_eq_true rfl) rfl dX12_init_337 (fun q42 => ?_)
  obtain ⟨T42, eT42⟩ : ∃ z, z = (q42, .inl (gca g 0, (120, .inl (fun _ => 0)))) :: T41 := ⟨_, rfl⟩
  rw [show [(h0, .inr (12, [.ref q1, .ref q2, .ref q3, .ref q4, .ref q5, .ref q6, .ref q7, .ref q8, .ref q9, .ref q10, .ref q11, .ref q12, .ref q13, .ref q14, .ref q15, .ref q16, .ref q17, .ref q18, .ref q19, .ref q20, .ref q21, .ref q22, .ref q23, .ref q24, .ref q25, .ref q26, .ref q27, .ref q28, .ref q29, .ref q30, .ref q31, .int 0, .int 0, .int 0, .int 0, .int 0, .int 0, .int 0, .int 0, .int 0, .int 0, .ref q32, .ref q33, .ref q34, .ref q35, .ref q36, .ref q37, .int 0, .int 0, .ref q38, .ref q39, .ref q40, .ref q41, .null, .int 0, .null, .null]))] ++ (q42, .inl (gca g 0, (120, .inl (fun _ => 0)))) :: T41 = ((h0, .inr (12, [.ref q1, .ref q2, .ref q3, .ref q4, .ref q5, .ref q6, .ref q7, .ref q8, .ref q9, .ref q10, .ref q11, .ref q12, .ref q13, .ref q14, .ref q15, .ref q16, .ref q17, .ref q18, .ref q19, .ref q20, .ref q21, .ref q22, .ref q23, .ref q24, .ref q25, .ref q26, .ref q27, .ref q28, .ref q29, .ref q30, .ref q31, .int 0, .int 0, .int 0, .int 0, .int 0, .int 0, .int 0, .int 0, .int 0, .int 0, .ref q32, .ref q33, .ref q34, .ref q35, .ref q36, .ref q37, .int 0, .int 0, .ref q38, .ref q39, .ref q40, .ref q41, .null, .int 0, .null, .null])) :: T42) from by rw [eT42]; rfl]
  refine K_putF C I (i := 0) fl_RX12_135 fpf_RX12_53 rfl rfl rfl (Nat.le_of_ble_eq_true rfl) dX12_init_339 ?_
  show KW x g 2 A 42 7271 ((h0, .inr (12, [.ref q1, .ref q2, .ref q3, .ref q4, .ref q5, .ref q6, .ref q7, .ref q8, .ref q9, .ref q10, .ref q11, .ref q12, .ref q13, .ref q14, .ref q15, .ref q16, .ref q17, .ref q18, .ref q19, .ref q20, .ref q21, .ref q22, .ref q23, .ref q24, .ref q25, .ref q26, .ref q27, .ref q28, .ref q29, .ref q30, .ref q31, .int 0, .int 0, .int 0, .int 0, .int 0, .int 0, .int 0, .int 0, .int 0, .int 0, .ref q32, .ref q33, .ref q34, .ref q35, .ref q36, .ref q37, .int 0, .int 0, .ref q38, .ref q39, .ref q40, .ref q41, .ref q42, .int 0, .null, .null])) :: T42) 342 [(0, .ref h0)] []
  refine K_aload_n C 0 dX12_init_342 rfl 0 rfl ?_
  refine K_bipush C dX12_init_343 (bp8 (by decide) (by decide)) ?_
  refine K_newarr C (atype := .int) (ty := .int) (n := 60) (t := 0) (a0 := (60, .inl (fun _ => 0))) (pre := [(h0, .inr (12, [.ref q1, .ref q2, .ref q3, .ref q4, .ref q5, .ref q6, .ref q7, .ref q8, .ref q9, .ref q10, .ref q11, .ref q12, .ref q13, .ref q14, .ref q15, .ref q16, .ref q17, .ref q18, .ref q19, .ref q20, .ref q21, .ref q22, .ref q23, .ref q24, .ref q25, .ref q26, .ref q27, .ref q28, .ref q29, .ref q30, .ref q31, .int 0, .int 0, .int 0, .int 0, .int 0, .int 0, .int 0, .int 0, .int 0, .int 0, .ref q32, .ref q33, .ref q34, .ref q35, .ref q36, .ref q37, .int 0, .int 0, .ref q38, .ref q39, .ref q40, .ref q41, .ref q42, .int 0, .null, .null]))]) (tl := T42) ac_int rfl (fun _ h => by cases h) rfl (fun _ => rfl) (by decide) (by decide) (Nat.le_of_ble_eq_true rfl) (Nat.le_of_ble_eq_true rfl) rfl dX12_init_345 (fun q43 => ?_)
  obtain ⟨T43, eT43⟩ : ∃ z, z = (q43, .inl (gca g 0, (60, .inl (fun _ => 0)))) :: T42 := ⟨_, rfl⟩
  rw [show [(h0, .inr (12, [.ref q1, .ref q2, .ref q3, .ref q4, .ref q5, .ref q6, .ref q7, .ref q8, .ref q9, .ref q10, .ref q11, .ref q12, .ref q13, .ref q14, .ref q15, .ref q16, .ref q17, .ref q18, .ref q19, .ref q20, .ref q21, .ref q22, .ref q23, .ref q24, .ref q25, .ref q26, .ref q27, .ref q28, .ref q29, .ref q30, .ref q31, .int 0, .int 0, .int 0, .int 0, .int 0, .int 0, .int 0, .int 0, .int 0, .int 0, .ref q32, .ref q33, .ref q34, .ref q35, .ref q36, .ref q37, .int 0, .int 0, .ref q38, .ref q39, .ref q40, .ref q41, .ref q42, .int 0, .null, .null]))] ++ (q43, .inl (gca g 0, (60, .inl (fun _ => 0)))) :: T42 = ((h0, .inr (12, [.ref q1, .ref q2, .ref q3, .ref q4, .ref q5, .ref q6, .ref q7, .ref q8, .ref q9, .ref q10, .ref q11, .ref q12, .ref q13, .ref q14, .ref q15, .ref q16, .ref q17, .ref q18, .ref q19, .ref q20, .ref q21, .ref q22, .ref q23, .ref q24, .ref q25, .ref q26, .ref q27, .ref q28, .ref q29, .ref q30, .ref q31, .int 0, .int 0, .int 0, .int 0, .int 0, .int 0, .int 0, .int 0, .int 0, .int 0, .ref q32, .ref q33, .ref q34, .ref q35, .ref q36, .ref q37, .int 0, .int 0, .ref q38, .ref q39, .ref q40, .ref q41, .ref q42, .int 0, .null, .null])) :: T43) from by rw [eT43]; rfl]
  refine K_putF C I (i := 0) fl_RX12_138 fpf_RX12_55 rfl rfl rfl (Nat.le_of_ble_eq_true rfl) dX12_init_347 ?_
  show KW x g 2 A 43 7331 ((h0, .inr (12, [.ref q1, .ref q2, .ref q3, .ref q4, .ref q5, .ref q6, .ref q7, .ref q8, .ref q9, .ref q10, .ref q11, .ref q12, .ref q13, .ref q14, .ref q15, .ref q16, .ref q17, .ref q18, .ref q19, .ref q20, .ref q21, .ref q22, .ref q23, .ref q24, .ref q25, .ref q26, .ref q27, .ref q28, .ref q29, .ref q30, .ref q31, .int 0, .int 0, .int 0, .int 0, .int 0, .int 0, .int 0, .int 0, .int 0, .int 0, .ref q32, .ref q33, .ref q34, .ref q35, .ref q36, .ref q37, .int 0, .int 0, .ref q38, .ref q39, .ref q40, .ref q41, .ref q42, .int 0, .ref q43, .null])) :: T43) 350 [(0, .ref h0)] []
  refine K_aload_n C 0 dX12_init_350 rfl 0 rfl ?_
  refine K_bipush C dX12_init_351 (bp8 (by decide) (by decide)) ?_
  refine K_newarr C (atype := .boolean) (ty := .boolean) (n := 60) (t := 3) (a0 := (60, .inl (fun _ => 0))) (pre := [(h0, .inr (12, [.ref q1, .ref q2, .ref q3, .ref q4, .ref q5, .ref q6, .ref q7, .ref q8, .ref q9, .ref q10, .ref q11, .ref q12, .ref q13, .ref q14, .ref q15, .ref q16, .ref q17, .ref q18, .ref q19, .ref q20, .ref q21, .ref q22, .ref q23, .ref q24, .ref q25, .ref q26, .ref q27, .ref q28, .ref q29, .ref q30, .ref q31, .int 0, .int 0, .int 0, .int 0, .int 0, .int 0, .int 0, .int 0, .int 0, .int 0, .ref q32, .ref q33, .ref q34, .ref q35, .ref q36, .ref q37, .int 0, .int 0, .ref q38, .ref q39, .ref q40, .ref q41, .ref q42, .int 0, .ref q43, .null]))]) (tl := T43) ac_boolean rfl (fun _ h => by cases h) rfl (fun _ => rfl) (by decide) (by decide) (Nat.le_of_ble_eq_true rfl) (Nat.le_of_ble_eq_true rfl) rfl dX12_init_353 (fun q44 => ?_)
  obtain ⟨T44, eT44⟩ : ∃ z, z = (q44, .inl (gca g 3, (60, .inl (fun _ => 0)))) :: T43 := ⟨_, rfl⟩
  rw [show [(h0, .inr (12, [.ref q1, .ref q2, .ref q3, .ref q4, .ref q5, .ref q6, .ref q7, .ref q8, .ref q9, .ref q10, .ref q11, .ref q12, .ref q13, .ref q14, .ref q15, .ref q16, .ref q17, .ref q18, .ref q19, .ref q20, .ref q21, .ref q22, .ref q23, .ref q24, .ref q25, .ref q26, .ref q27, .ref q28, .ref q29, .ref q30, .ref q31, .int 0, .int 0, .int 0, .int 0, .int 0, .int 0, .int 0, .int 0, .int 0, .int 0, .ref q32, .ref q33, .ref q34, .ref q35, .ref q36, .ref q37, .int 0, .int 0, .ref q38, .ref q39, .ref q40, .ref q41, .ref q42, .int 0, .ref q43, .null]))] ++ (q44, .inl (gca g 3, (60, .inl (fun _ => 0)))) :: T43 = ((h0, .inr (12, [.ref q1, .ref q2, .ref q3, .ref q4, .ref q5, .ref q6, .ref q7, .ref q8, .ref q9, .ref q10, .ref q11, .ref q12, .ref q13, .ref q14, .ref q15, .ref q16, .ref q17, .ref q18, .ref q19, .ref q20, .ref q21, .ref q22, .ref q23, .ref q24, .ref q25, .ref q26, .ref q27, .ref q28, .ref q29, .ref q30, .ref q31, .int 0, .int 0, .int 0, .int 0, .int 0, .int 0, .int 0, .int 0, .int 0, .int 0, .ref q32, .ref q33, .ref q34, .ref q35, .ref q36, .ref q37, .int 0, .int 0, .ref q38, .ref q39, .ref q40, .ref q41, .ref q42, .int 0, .ref q43, .null])) :: T44) from by rw [eT44]; rfl]
  refine K_putF C I (i := 0) fl_RX12_141 fpf_RX12_56 rfl rfl rfl (Nat.le_of_ble_eq_true rfl) dX12_init_355 ?_
  show KW x g 2 A 44 7391 ((h0, .inr (12, [.ref q1, .ref q2, .ref q3, .ref q4, .ref q5, .ref q6, .ref q7, .ref q8, .ref q9, .ref q10, .ref q11, .ref q12, .ref q13, .ref q14, .ref q15, .ref q16, .ref q17, .ref q18, .ref q19, .ref q20, .ref q21, .ref q22, .ref q23, .ref q24, .ref q25, .ref q26, .ref q27, .ref q28, .ref q29, .ref q30, .ref q31, .int 0, .int 0, .int 0, .int 0, .int 0, .int 0, .int 0, .int 0, .int 0, .int 0, .ref q32, .ref q33, .ref q34, .ref q35, .ref q36, .ref q37, .int 0, .int 0, .ref q38, .ref q39, .ref q40, .ref q41, .ref q42, .int 0, .ref q43, .ref q44])) :: T44) 358 [(0, .ref h0)] []
  refine K_aload_n C 0 dX12_init_358 rfl 0 rfl ?_
  subst eT44 eT43 eT42 eT41 eT40 eT39 eT38 eT37 eT36 eT35 eT34 eT33 eT32 eT31 eT30 eT29 eT28 eT27 eT26 eT25 eT24 eT23 eT22 eT21 eT20 eT19 eT18 eT17 eT16 eT15 eT14 eT13 eT12 eT11 eT10 eT9 eT8 eT7 eT6 eT5 eT4 eT3 eT2 eT1 eT0
  refine K_callR C (y := yR) (g1 := gAt g (adL [h0, q1, q2, q3, q4, q5, q6, q7, q8, q9, q10, q11, q12, q13, q14, q15, q16, q17, q18, q19, q20, q21, q22, q23, q24, q25, q26, q27, q28, q29, q30, q31, q32, q33, q34, q35, q36, q37, q38, q39, q40, q41, q42, q43, q44])) (σ := σR0) [0, 44, 43, 42, 41, 40, 39, 38, 37, 36, 35, 34, 33, 32, 31, 30, 29, 28, 27, 26, 25, 24, 23, 22, 21, 20, 19, 18, 17, 16, 15, 14, 13, 12, 11, 10, 9, 8, 7, 6, 5, 4, 3, 2, 1] rfl rfl rfl rfl mw_X12_begin ml_RX12_144 (fun hg => m_X12_begin x.2.1 _ hg σR0 wfR0 _ model_begins) oR_0 rfl (Nat.le_of_ble_eq_true rfl) (Nat.le_of_ble_eq_true rfl) rfl rfl (Nat.le_of_ble_eq_true rfl) (Nat.le_of_ble_eq_true rfl) (Nat.le_of_ble_eq_true rfl) dX12_init_359 (fun hz => ?_)
  refine K_istore_n (lo2 := [(1, vi 0), (0, .ref h0)]) C 1 dX12_init_362 rfl (by decide) rfl ?_
  exact K_vret C E (adL [h0, q1, q2, q3, q4, q5, q6, q7, q8, q9, q10, q11, q12, q13, q14, q15, q16, q17, q18, q19, q20, q21, q22, q23, q24, q25, q26, q27, q28, q29, q30, q31, q32, q33, q34, q35, q36, q37, q38, q39, q40, q41, q42, q43, q44]) (List.Perm.of_eq (congrArg (fun a => wd yR (gAt g a) τR0) (ad0_adL h0 _))) (Nat.le_of_ble_eq_true rfl) (Nat.le_of_ble_eq_true rfl) dX12_init_363
