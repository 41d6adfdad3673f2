theorem mw_J7_fill_53178 : MS yJ7_fill_53178 cJ7_fill_53178 4 none 2 := ⟨⟨okw_in (List.mem_of_getElem? (i := 468) (by decide +kernel)) (by decide +kernel), okw_in (List.mem_of_getElem? (i := 80) (by decide +kernel)) (by decide +kernel), by decide, by decide, by decide +kernel⟩, okw_in (List.mem_of_getElem? (i := 467) (by decide +kernel)) (by decide +kernel)⟩
theorem mw_J7_fill_031fb : MS yJ7_fill_031fb cJ7_fill_031fb 4 none 2 := ⟨⟨okw_in (List.mem_of_getElem? (i := 465) (by decide +kernel)) (by decide +kernel), okw_in (List.mem_of_getElem? (i := 80) (by decide +kernel)) (by decide +kernel), by decide, by decide, by decide +kernel⟩, okw_in (List.mem_of_getElem? (i := 464) (by decide +kernel)) (by decide +kernel)⟩
theorem mw_J7_fill_d0a16 : MS yJ7_fill_d0a16 cJ7_fill_d0a16 5 none 2 := ⟨⟨okw_in (List.mem_of_getElem? (i := 1075) (by decide +kernel)) (by decide +kernel), okw_in (List.mem_of_getElem? (i := 80) (by decide +kernel)) (by decide +kernel), by decide, by decide, by decide +kernel⟩, okw_in (List.mem_of_getElem? (i := 1074) (by decide +kernel)) (by decide +kernel)⟩
theorem mw_J9_floorDiv_7cf53 : MS yJ9_floorDiv_7cf53 cJ9_floorDiv_7cf53 3 (some .int) 2 := ⟨⟨okw_in (List.mem_of_getElem? (i := 646) (by decide +kernel)) (by decide +kernel), okw_in (List.mem_of_getElem? (i := 81) (by decide +kernel)) (by decide +kernel), by decide, by decide, by decide +kernel⟩, okw_in (List.mem_of_getElem? (i := 645) (by decide +kernel)) (by decide +kernel)⟩

theorem CJ_ofF {l : Launch} {y : Sy} {g : Gm} {n : MethodName} {cc : ByteArray} {maxL : Nat} {ret : Option FieldType} {fr lc : Nat} {avs : List Value} {σ : Sg} {rv : Option Value} {σ' : Sg} {zz : Prop} {own : String} {lo : List (Nat × Value)}
    (hg : gInj y g) (hy : plainFor n = true) (hown : n.cls = own) (hlen : (lg_sl avs).length ≤ maxL) (hlo : lv_args 0 avs = lo)
    (body : ∀ x : Ct, Cx x y g maxL cc own fr lc → Rx x y g ret rv σ' zz → J x y g maxL 0 lo [] σ) : CJ l y g n cc maxL ret fr lc avs σ rv σ' zz := by
  subst hlo
  refine va_MetF (cc := cc) (maxL := maxL) (ret := ret) hy rfl ?_
  intro p e s m args below meth c s₁ B hml hv
  obtain ⟨rfl, hP, hK, hst⟩ := hv
  have hts := atoms_spec (ws := .code n cc maxL ret :: okw) B.pre
  have hnm : s.vm.findClass own = some m.cls := by rw [← hown]; exact findClass_of_methodNamed B.named
  have hb := body (p, l, e, (headSpec (.code n cc maxL ret :: okw) { frames := fr, cells := 0, slots := 0, locals := lc }).room, s, m, avs.toArray, below, meth, c, MQ below (QJ y g rv σ' zz) avs.toArray s 0 0 (aw y g))
    ⟨B.exec, B.bytes, hml, hnm, fun w hw => hts w (List.mem_cons_of_mem _ hw), hK, hg, Nat.le_refl _, Nat.le_refl _, B.notSynchronized, hst⟩ ⟨B.returns, rfl⟩
  have hl := lv_entry avs (n := maxL) hlen
  rw [lg_entry_eq]
  exact hb s.heap [] _ hP va_S.rf hl
/-! the JDK's own: Arrays.fill, Math.floorDiv -/
theorem CJ_ofL {l : Launch} {y : Sy} {g : Gm} {n : MethodName} {cc : ByteArray} {maxL : Nat} {ret : Option FieldType} {fr lc : Nat} {avs : List Value} {σ : Sg} {rv : Option Value} {σ' : Sg} {zz : Prop} {own : String} {lo : List (Nat × Value)}
    (hg : gInj y g) (hy : plainName n.cls = true) (hown : n.cls = own) (hlen : (lg_sl avs).length ≤ maxL) (hlo : lv_args 0 avs = lo)
    (body : ∀ x : Ct, Cx x y g maxL cc own fr lc → Rx x y g ret rv σ' zz → x.2.1 = l → J x y g maxL 0 lo [] σ) : CJ l y g n cc maxL ret fr lc avs σ rv σ' zz := by
  subst hlo
  refine Met.ofW (cc := cc) (maxL := maxL) (ret := ret) hy rfl ?_
  intro p e s m args below meth c s₁ B hml hv
  obtain ⟨rfl, hP, hK, hst⟩ := hv
  have hts := atoms_spec (ws := .code n cc maxL ret :: okw) B.pre
  have hnm : s.vm.findClass own = some m.cls := by rw [← hown]; exact findClass_of_methodNamed B.named
  have hb := body (p, l, e, (headSpec (.code n cc maxL ret :: okw) { frames := fr, cells := 0, slots := 0, locals := lc }).room, s, m, avs.toArray, below, meth, c, MQ below (QJ y g rv σ' zz) avs.toArray s 0 0 (aw y g))
    ⟨B.exec, B.bytes, hml, hnm, fun w hw => hts w (List.mem_cons_of_mem _ hw), hK, hg, Nat.le_refl _, Nat.le_refl _, B.notSynchronized, hst⟩ ⟨B.returns, rfl⟩ rfl
  have hl := lv_entry avs (n := maxL) hlen
  rw [lg_entry_eq]
  exact hb s.heap [] _ hP va_S.rf hl
/-! the JDK's own: Arrays.fill, Math.floorDiv -/
theorem xor_neg {a b : Int} (ha : rg a) (hb : rg b) (hp : 0 < b) : bXor a b < 0 ↔ a < 0 := by
  have key : ∀ z : Int32, z.toInt < 0 ↔ z.toBitVec.msb = true := fun z => by
    show z.toBitVec.toInt < 0 ↔ _
    rw [BitVec.msb_eq_toInt]; simp
  unfold bXor
  rw [key, Int32.toBitVec_xor, BitVec.msb_xor]
  have h1 := key (Int32.ofInt a)
  have h2 := key (Int32.ofInt b)
  rw [ofI_toInt ha] at h1
  rw [ofI_toInt hb] at h2
  have h3 : (Int32.ofInt b).toBitVec.msb = false := by
    cases h : (Int32.ofInt b).toBitVec.msb with
    | false => rfl
    | true => have := h2.mpr h; omega
  rw [h3, Bool.xor_false]
  exact h1.symm
theorem tdiv_floor {a b : Int} (hp : 0 < b) : (if a < 0 ∧ ¬ Int.tdiv a b * b = a then Int.tdiv a b - 1 else Int.tdiv a b) = a / b := by
  by_cases h0 : 0 ≤ a
  · rw [if_neg (by omega), Int.tdiv_eq_ediv_of_nonneg h0]
  · have e1 : Int.tdiv a b = -((-a) / b) := by
      have := Int.tdiv_eq_ediv_of_nonneg (a := -a) (b := b) (by omega)
      rw [Int.neg_tdiv] at this
      omega
    have m1 := Int.mul_ediv_add_emod (-a) b
    have m2 := Int.emod_nonneg (-a) (b := b) (by omega)
    have m3 := Int.emod_lt_of_pos (-a) hp
    have m4 := Int.mul_ediv_add_emod a b
    have m5 := Int.emod_nonneg a (b := b) (by omega)
    have m6 := Int.emod_lt_of_pos a hp
    have e2 : Int.tdiv a b * b = -(b * ((-a) / b)) := by rw [e1, Int.neg_mul, Int.mul_comm]
    by_cases hz : (-a) % b = 0
    · have e3 : Int.tdiv a b * b = a := by rw [e2]; omega
      rw [if_neg (fun z => z.2 e3)]
      have : a / b = Int.tdiv a b := by
        rw [← e3, Int.mul_ediv_cancel _ (by omega : b ≠ 0), e3]
      rw [this]
    · rw [if_pos ⟨by omega, fun z => hz (by rw [e2] at z; omega)⟩]
      have h8 : a = (Int.tdiv a b - 1) * b + (b - (-a) % b) := by
        rw [Int.sub_mul, e2]; omega
      have h9 : a / b = Int.tdiv a b - 1 := by
        have := Int.add_mul_ediv_right (b - (-a) % b) (Int.tdiv a b - 1) (by omega : b ≠ 0)
        rw [Int.add_comm, ← h8] at this
        rw [this, Int.ediv_eq_zero_of_lt (by omega) (by omega)]
        omega
      rw [h9]
def flo (a b : Int) (σ : Sg) : Option Int := some (a / b)
set_option maxHeartbeats 4000000 in
theorem m_floorDiv (l : Launch) (y : Sy) (g : Gm) (hg : gInj y g) (a b : Int) (ha : rg a) (hb : rg b) (hp : 0 < b) (σ : Sg) : CJ l y g yJ9_floorDiv_7cf53 cJ9_floorDiv_7cf53 3 (some .int) 0 0 [vi a, vi b] σ (some (vi (a / b))) σ (rg (a / b)) := by
  have t1 : -2147483648 ≤ Int.tdiv a b ∧ Int.tdiv a b ≤ 2147483647 := by
    by_cases h0 : 0 ≤ a
    · rw [Int.tdiv_eq_ediv_of_nonneg h0]
      exact ⟨by have := Int.ediv_nonneg h0 (Int.le_of_lt hp); omega, Int.le_trans (Int.ediv_le_self b h0) ha.2⟩
    · have e1 : Int.tdiv a b = -((-a) / b) := by
        have := Int.tdiv_eq_ediv_of_nonneg (a := -a) (b := b) (by omega)
        rw [Int.neg_tdiv] at this
        omega
      have h1 : (-a) / b ≤ -a := Int.ediv_le_self b (by omega)
      have h2 : 0 ≤ (-a) / b := Int.ediv_nonneg (by omega) (Int.le_of_lt hp)
      have := ha.1
      omega
  have t2 : rg (Int.tdiv a b * b) := by
    by_cases h0 : 0 ≤ a
    · rw [Int.tdiv_eq_ediv_of_nonneg h0]
      have := Int.ediv_mul_le a (b := b) (by omega)
      have h3 : 0 ≤ a / b * b := Int.mul_nonneg (Int.ediv_nonneg h0 (Int.le_of_lt hp)) (Int.le_of_lt hp)
      have := ha.2
      exact ⟨by omega, by omega⟩
    · have e1 : Int.tdiv a b = -((-a) / b) := by
        have := Int.tdiv_eq_ediv_of_nonneg (a := -a) (b := b) (by omega)
        rw [Int.neg_tdiv] at this
        omega
      have h4 := Int.ediv_mul_le (-a) (b := b) (by omega)
      have h3 : 0 ≤ (-a) / b * b := Int.mul_nonneg (Int.ediv_nonneg (by omega) (Int.le_of_lt hp)) (Int.le_of_lt hp)
      rw [e1, Int.neg_mul]
      have := ha.1
      exact ⟨by omega, by omega⟩
  have tf := tdiv_floor (a := a) hp
  refine CJ_ofF hg (by decide +kernel) rfl (Nat.le_of_ble_eq_true rfl) (lo := [(0, vi a), (1, vi b)]) rfl (fun x C E => ?_)
  refine J_iload_n C 0 dJ9_floorDiv_7cf53_0 rfl 0 rfl ?_
  refine J_iload_n C 1 dJ9_floorDiv_7cf53_1 rfl 1 rfl ?_
  refine J_idivT C ha hb hp dJ9_floorDiv_7cf53_2 ?_
  refine J_istore_n (lo2 := [(2, vi (Int.tdiv a b)), (0, vi a), (1, vi b)]) C 2 dJ9_floorDiv_7cf53_3 rfl (by decide) rfl ?_
  refine J_iload_n C 0 dJ9_floorDiv_7cf53_4 rfl 1 rfl ?_
  refine J_iload_n C 1 dJ9_floorDiv_7cf53_5 rfl 2 rfl ?_
  refine J_ixor C dJ9_floorDiv_7cf53_6 ?_
  have fin : ∀ (z : a / b = Int.tdiv a b), J x y g 3 21 [(2, vi (Int.tdiv a b)), (0, vi a), (1, vi b)] [] σ := by
    intro z
    refine J_iload_n C 2 dJ9_floorDiv_7cf53_21 rfl 0 rfl ?_
    rw [z] at E
    exact J_iret C E t1 dJ9_floorDiv_7cf53_22
  have h : (if bXor a b < 0 then some () else some ()) = some () := by split <;> rfl
  refine J_if_ge C (rg_toInt _) (tgt := 21) dJ9_floorDiv_7cf53_7 (by decide) h (fun h c1 => ?_) (fun h c1 => ?_)
  · have c2 := (xor_neg ha hb hp).mp c1
    refine J_iload_n C 2 dJ9_floorDiv_7cf53_10 rfl 0 rfl ?_
    refine J_iload_n C 1 dJ9_floorDiv_7cf53_11 rfl 2 rfl ?_
    refine J_imul C (K := some) dJ9_floorDiv_7cf53_12 (o := Int.tdiv a b * b) (by unfold ck; rw [if_pos t2]) (fun v hv h => ?_)
    have e := sE h
    subst e
    refine J_iload_n C 0 dJ9_floorDiv_7cf53_13 rfl 1 rfl ?_
    have h : (if Int.tdiv a b * b = a then some () else some ()) = some () := by split <;> rfl
    refine J_icmp_eq C t2 ha (tgt := 21) dJ9_floorDiv_7cf53_14 (by decide) h (fun h c3 => ?_) (fun h c3 => ?_)
    · exact fin (by rw [← tf, if_neg (fun z => z.2 c3)])
    · rw [if_pos ⟨c2, c3⟩] at tf
      have r3 : -2147483648 ≤ a / b := Int.le_ediv_of_mul_le hp (by have := ha.1; omega)
      have r2 : rg (Int.tdiv a b - 1) := ⟨by rw [tf]; exact r3, by have := t1.2; omega⟩
      refine J_iload_n C 2 dJ9_floorDiv_7cf53_17 rfl 0 rfl ?_
      refine J_iconst C dJ9_floorDiv_7cf53_18 ?_
      refine J_isub C (K := some) dJ9_floorDiv_7cf53_19 (o := a / b) (by unfold ck; rw [if_pos r2, tf]) (fun v hv h => ?_)
      have e := sE h
      subst e
      exact J_iret C E hv dJ9_floorDiv_7cf53_20
  · have c2 : ¬ a < 0 := fun z => c1 ((xor_neg ha hb hp).mpr z)
    exact fin (by rw [← tf, if_neg (fun z => c2 z.1)])
theorem fillA_0 {σ : Sg} {i : Nat} {v : Int} : fillA σ i 0 v = σ := by
  funext j k
  unfold fillA setA
  by_cases h : j = i
  · subst h; rw [if_pos rfl, if_neg (by omega)]
  · rw [if_neg h]
theorem fillA_s {σ : Sg} {i k : Nat} {v : Int} : put (fillA σ i k v) i k v = fillA σ i (k + 1) v := by
  funext j m
  unfold put fillA setA
  by_cases h : j = i
  · subst h
    simp only [if_true]
    by_cases h1 : m = (k : Int)
    · rw [if_pos h1, if_pos (by omega)]
    · rw [if_neg h1]
      by_cases h2 : 0 ≤ m ∧ m < (k : Int)
      · rw [if_pos h2, if_pos (by omega)]
      · rw [if_neg h2, if_neg (by omega)]
  · simp only [if_neg h]
theorem wfS_fill {y : Sy} {σ : Sg} {i k : Nat} {v : Int} (h : wfS y σ) (hv : y.2 i = true ∨ rg v) (hi : y.2 i = true ∨ y.2 i = false) : wfS y (fillA σ i k v) := by
  refine wfS_set h ?_
  rcases hi with q | q
  · exact Or.inl q
  · refine Or.inr fun m => ?_
    rcases hv with z | z
    · rw [z] at q; cases q
    · by_cases c : 0 ≤ m ∧ m < (k : Int)
      · rw [if_pos c]; exact z
      · rw [if_neg c]; exact h i m q
theorem tf (b : Bool) : b = true ∨ b = false := by cases b <;> simp
def filI {α : Type} (σ : Sg) (i n : Nat) (v : Int) (K : Sg → Option α) : Option α := K (fillA σ i n v)
def filL {α : Type} (σ : Sg) (i n : Nat) (v : Int) (K : Sg → Option α) : Option α := K (fillA σ i n v)
def filB {α : Type} (σ : Sg) (i n : Nat) (v : Int) (K : Sg → Option α) : Option α := if -128 ≤ v ∧ v ≤ 127 then K (fillA σ i n v) else none
set_option maxHeartbeats 4000000 in
theorem w_fillI {x : Ct} {y : Sy} {g : Gm} {n i : Nat} {v : Int} (C : Cx x y g 4 cJ7_fill_53178 RJ7 0 0) (hA : aI y i n) (hn : n < 100000) (hv : rg v) (σ : Sg) (hσ : wfS y σ) (E : Rx x y g none none (fillA σ i n v) (wfS y (fillA σ i n v))) : ∀ (m k : Nat), k + m = n → J x y g 4 5 [(0, .ref (gad g i)), (1, vi v), (2, vi k), (3, vi n)] [] (fillA σ i k v) := by
  intro m
  induction m with
  | zero =>
    intro k hk
    have hk2 : k = n := by omega
    subst hk2
    have h : (if (k : Int) < (k : Int) then some () else some ()) = some () := by split <;> rfl
    refine J_iload_n C 2 dJ7_fill_53178_5 rfl 2 rfl ?_
    refine J_iload_n C 3 dJ7_fill_53178_6 rfl 3 rfl ?_
    refine J_icmp_ge C ⟨by omega, by omega⟩ ⟨by omega, by omega⟩ (tgt := 20) dJ7_fill_53178_7 (by decide) h (fun h c1 => absurd c1 (by omega)) (fun h c1 => ?_)
    exact J_vret C E (wfS_fill hσ (Or.inr hv) (tf _)) dJ7_fill_53178_20
  | succ m ih =>
    intro k hk
    have h : (if (k : Int) < (n : Int) then some () else some ()) = some () := by split <;> rfl
    refine J_iload_n C 2 dJ7_fill_53178_5 rfl 2 rfl ?_
    refine J_iload_n C 3 dJ7_fill_53178_6 rfl 3 rfl ?_
    refine J_icmp_ge C ⟨by omega, by omega⟩ ⟨by omega, by omega⟩ (tgt := 20) dJ7_fill_53178_7 (by decide) h (fun h c1 => ?_) (fun h c1 => absurd (by omega) c1)
    refine J_aload_n C 0 dJ7_fill_53178_10 rfl 0 rfl ?_
    refine J_iload_n C 2 dJ7_fill_53178_11 rfl 2 rfl ?_
    refine J_iload_n C 1 dJ7_fill_53178_12 rfl 1 rfl ?_
    refine J_iast C hA (wfS_fill hσ (Or.inr hv) (tf _)) hv (K := some) (o := put (fillA σ i k v) i k v) dJ7_fill_53178_13 (by unfold wr; rw [if_pos ⟨by omega, by omega⟩]) (fun s hs h => ?_)
    have e := sE h
    rw [e, fillA_s]
    refine J_iinc C (K := some) (o := ((k + 1 : Nat) : Int)) 2 2 dJ7_fill_53178_14 rfl (by decide) (by unfold ck; rw [if_pos ⟨by omega, by omega⟩]; congr 1) (fun w hw h => ?_)
    have e2 := sE h
    subst e2
    refine J_goto C (tgt := 5) dJ7_fill_53178_17 (by decide) ?_
    exact J_sub [1, 2, 0, 3] rfl (ih (k + 1) (by omega))
set_option maxHeartbeats 4000000 in
theorem m_fillI (l : Launch) (y : Sy) (g : Gm) (hg : gInj y g) {n i : Nat} {v : Int} (hA : aI y i n) (hn : n < 100000) (hv : rg v) (σ : Sg) (hσ : wfS y σ) : CJ l y g yJ7_fill_53178 cJ7_fill_53178 4 none 0 0 [.ref (gad g i), vi v] σ none (fillA σ i n v) (wfS y (fillA σ i n v)) := by
  refine CJ_ofF hg (by decide +kernel) rfl (Nat.le_of_ble_eq_true rfl) (lo := [(0, .ref (gad g i)), (1, vi v)]) rfl (fun x C E => ?_)
  refine J_iconst C dJ7_fill_53178_0 ?_
  refine J_istore_n (lo2 := [(2, vi 0), (0, .ref (gad g i)), (1, vi v)]) C 2 dJ7_fill_53178_1 rfl (by decide) rfl ?_
  refine J_aload_n C 0 dJ7_fill_53178_2 rfl 1 rfl ?_
  refine J_alen C (n := n) (t0 := 0) hA.1 rfl rfl rfl dJ7_fill_53178_3 ?_
  refine J_istore_n (lo2 := [(3, vi n), (2, vi 0), (0, .ref (gad g i)), (1, vi v)]) C 3 dJ7_fill_53178_4 rfl (by decide) rfl ?_
  refine J_sub [2, 3, 1, 0] rfl ?_
  have := w_fillI C hA hn hv σ hσ E n 0 (by omega)
  rw [fillA_0] at this
  exact this
theorem J_fillI {x : Ct} {y : Sy} {g : Gm} {nL nf nlc : Nat} {cc : ByteArray} {own : String} {pc : Nat} {lo : List (Nat × Value)} {st : List Value} {σ : Sg} {α : Type} {o : α} (C : Cx x y g nL cc own nf nlc) {n i idx : Nat} {v : Int} {K : Sg → Option α} (hA : aI y i n) (hσ : wfS y σ) (hv : rg v) (hlk : Cond.methodLink own idx yJ7_fill_53178 ∈ okw) (hfr : 1 ≤ nf) (hlo : 40 ≤ nlc) (d : decode cc pc = .ok (.invokestatic idx, 3)) (h : filI σ i n v K = some o) (kk : ∀ σ', wfS y σ' → K σ' = some o → J x y g nL (pc + 3) lo st σ') (hn : n < 100000 := by decide) (hcat : (st.map fun v => v.category).sum ≤ 8 := by exact Nat.le_of_ble_eq_true rfl) : J x y g nL pc lo (vi v :: .ref (gad g i) :: st) σ := by
  exact J_callS C mw_J7_fill_53178 hlk (m_fillI x.2.1 y g (CxI C) hA hn hv σ hσ) hfr (by omega) rfl rfl hcat d (fun hz => kk _ hz h)
set_option maxHeartbeats 4000000 in
theorem w_fillB {x : Ct} {y : Sy} {g : Gm} {n i : Nat} {v : Int} (C : Cx x y g 4 cJ7_fill_031fb RJ7 0 0) (hA : aB y i n) (hn : n < 100000) (hv : -128 ≤ v ∧ v ≤ 127) (σ : Sg) (hσ : wfS y σ) (E : Rx x y g none none (fillA σ i n v) (wfS y (fillA σ i n v))) : ∀ (m k : Nat), k + m = n → J x y g 4 5 [(0, .ref (gad g i)), (1, vi v), (2, vi k), (3, vi n)] [] (fillA σ i k v) := by
  intro m
  induction m with
  | zero =>
    intro k hk
    have hk2 : k = n := by omega
    subst hk2
    have h : (if (k : Int) < (k : Int) then some () else some ()) = some () := by split <;> rfl
    refine J_iload_n C 2 dJ7_fill_031fb_5 rfl 2 rfl ?_
    refine J_iload_n C 3 dJ7_fill_031fb_6 rfl 3 rfl ?_
    refine J_icmp_ge C ⟨by omega, by omega⟩ ⟨by omega, by omega⟩ (tgt := 20) dJ7_fill_031fb_7 (by decide) h (fun h c1 => absurd c1 (by omega)) (fun h c1 => ?_)
    exact J_vret C E (wfS_fill hσ (Or.inr ⟨by omega, by omega⟩) (tf _)) dJ7_fill_031fb_20
  | succ m ih =>
    intro k hk
    have h : (if (k : Int) < (n : Int) then some () else some ()) = some () := by split <;> rfl
    refine J_iload_n C 2 dJ7_fill_031fb_5 rfl 2 rfl ?_
    refine J_iload_n C 3 dJ7_fill_031fb_6 rfl 3 rfl ?_
    refine J_icmp_ge C ⟨by omega, by omega⟩ ⟨by omega, by omega⟩ (tgt := 20) dJ7_fill_031fb_7 (by decide) h (fun h c1 => ?_) (fun h c1 => absurd (by omega) c1)
    refine J_aload_n C 0 dJ7_fill_031fb_10 rfl 0 rfl ?_
    refine J_iload_n C 2 dJ7_fill_031fb_11 rfl 2 rfl ?_
    refine J_iload_n C 1 dJ7_fill_031fb_12 rfl 1 rfl ?_
    refine J_bast C hA (wfS_fill hσ (Or.inr ⟨by omega, by omega⟩) (tf _)) (K := some) (o := put (fillA σ i k v) i k v) dJ7_fill_031fb_13 (by unfold wrB; rw [if_pos ⟨⟨by omega, by omega⟩, hv⟩]) (fun s hs h => ?_)
    have e := sE h
    rw [e, fillA_s]
    refine J_iinc C (K := some) (o := ((k + 1 : Nat) : Int)) 2 2 dJ7_fill_031fb_14 rfl (by decide) (by unfold ck; rw [if_pos ⟨by omega, by omega⟩]; congr 1) (fun w hw h => ?_)
    have e2 := sE h
    subst e2
    refine J_goto C (tgt := 5) dJ7_fill_031fb_17 (by decide) ?_
    exact J_sub [1, 2, 0, 3] rfl (ih (k + 1) (by omega))
set_option maxHeartbeats 4000000 in
theorem m_fillB (l : Launch) (y : Sy) (g : Gm) (hg : gInj y g) {n i : Nat} {v : Int} (hA : aB y i n) (hn : n < 100000) (hv : -128 ≤ v ∧ v ≤ 127) (σ : Sg) (hσ : wfS y σ) : CJ l y g yJ7_fill_031fb cJ7_fill_031fb 4 none 0 0 [.ref (gad g i), vi v] σ none (fillA σ i n v) (wfS y (fillA σ i n v)) := by
  refine CJ_ofF hg (by decide +kernel) rfl (Nat.le_of_ble_eq_true rfl) (lo := [(0, .ref (gad g i)), (1, vi v)]) rfl (fun x C E => ?_)
  refine J_iconst C dJ7_fill_031fb_0 ?_
  refine J_istore_n (lo2 := [(2, vi 0), (0, .ref (gad g i)), (1, vi v)]) C 2 dJ7_fill_031fb_1 rfl (by decide) rfl ?_
  refine J_aload_n C 0 dJ7_fill_031fb_2 rfl 1 rfl ?_
  refine J_alen C (n := n) (t0 := 2) hA.1 rfl rfl rfl dJ7_fill_031fb_3 ?_
  refine J_istore_n (lo2 := [(3, vi n), (2, vi 0), (0, .ref (gad g i)), (1, vi v)]) C 3 dJ7_fill_031fb_4 rfl (by decide) rfl ?_
  refine J_sub [2, 3, 1, 0] rfl ?_
  have := w_fillB C hA hn hv σ hσ E n 0 (by omega)
  rw [fillA_0] at this
  exact this
theorem J_fillB {x : Ct} {y : Sy} {g : Gm} {nL nf nlc : Nat} {cc : ByteArray} {own : String} {pc : Nat} {lo : List (Nat × Value)} {st : List Value} {σ : Sg} {α : Type} {o : α} (C : Cx x y g nL cc own nf nlc) {n i idx : Nat} {v : Int} {K : Sg → Option α} (hA : aB y i n) (hσ : wfS y σ) (hlk : Cond.methodLink own idx yJ7_fill_031fb ∈ okw) (hfr : 1 ≤ nf) (hlo : 40 ≤ nlc) (d : decode cc pc = .ok (.invokestatic idx, 3)) (h : filB σ i n v K = some o) (kk : ∀ σ', wfS y σ' → K σ' = some o → J x y g nL (pc + 3) lo st σ') (hn : n < 100000 := by decide) (hcat : (st.map fun v => v.category).sum ≤ 8 := by exact Nat.le_of_ble_eq_true rfl) : J x y g nL pc lo (vi v :: .ref (gad g i) :: st) σ := by
  obtain ⟨hv, h⟩ := some_if h
  exact J_callS C mw_J7_fill_031fb hlk (m_fillB x.2.1 y g (CxI C) hA hn hv σ hσ) hfr (by omega) rfl rfl hcat d (fun hz => kk _ hz h)
set_option maxHeartbeats 4000000 in
theorem w_fillL {x : Ct} {y : Sy} {g : Gm} {n i : Nat} {v : Int} (C : Cx x y g 5 cJ7_fill_d0a16 RJ7 0 0) (hA : aL y i n) (hn : n < 100000) (σ : Sg) (hσ : wfS y σ) (E : Rx x y g none none (fillA σ i n v) (wfS y (fillA σ i n v))) : ∀ (m k : Nat), k + m = n → J x y g 5 6 [(0, .ref (gad g i)), (1, vl v), (3, vi k), (4, vi n)] [] (fillA σ i k v) := by
  intro m
  induction m with
  | zero =>
    intro k hk
    have hk2 : k = n := by omega
    subst hk2
    have h : (if (k : Int) < (k : Int) then some () else some ()) = some () := by split <;> rfl
    refine J_iload_n C 3 dJ7_fill_d0a16_6 rfl 2 rfl ?_
    refine J_iload C 4 dJ7_fill_d0a16_7 3 rfl ?_
    refine J_icmp_ge C ⟨by omega, by omega⟩ ⟨by omega, by omega⟩ (tgt := 22) dJ7_fill_d0a16_9 (by decide) h (fun h c1 => absurd c1 (by omega)) (fun h c1 => ?_)
    exact J_vret C E (wfS_fill hσ (Or.inl hA.2.2) (tf _)) dJ7_fill_d0a16_22
  | succ m ih =>
    intro k hk
    have h : (if (k : Int) < (n : Int) then some () else some ()) = some () := by split <;> rfl
    refine J_iload_n C 3 dJ7_fill_d0a16_6 rfl 2 rfl ?_
    refine J_iload C 4 dJ7_fill_d0a16_7 3 rfl ?_
    refine J_icmp_ge C ⟨by omega, by omega⟩ ⟨by omega, by omega⟩ (tgt := 22) dJ7_fill_d0a16_9 (by decide) h (fun h c1 => ?_) (fun h c1 => absurd (by omega) c1)
    refine J_aload_n C 0 dJ7_fill_d0a16_12 rfl 0 rfl ?_
    refine J_iload_n C 3 dJ7_fill_d0a16_13 rfl 2 rfl ?_
    refine J_lload_n C 1 dJ7_fill_d0a16_14 rfl 1 rfl ?_
    refine J_last C hA (wfS_fill hσ (Or.inl hA.2.2) (tf _)) (K := some) (o := put (fillA σ i k v) i k v) dJ7_fill_d0a16_15 (by unfold wr; rw [if_pos ⟨by omega, by omega⟩]) (fun s hs h => ?_)
    have e := sE h
    rw [e, fillA_s]
    refine J_iinc C (K := some) (o := ((k + 1 : Nat) : Int)) 3 2 dJ7_fill_d0a16_16 rfl (by decide) (by unfold ck; rw [if_pos ⟨by omega, by omega⟩]; congr 1) (fun w hw h => ?_)
    have e2 := sE h
    subst e2
    refine J_goto C (tgt := 6) dJ7_fill_d0a16_19 (by decide) ?_
    exact J_sub [1, 2, 0, 3] rfl (ih (k + 1) (by omega))
set_option maxHeartbeats 4000000 in
theorem m_fillL (l : Launch) (y : Sy) (g : Gm) (hg : gInj y g) {n i : Nat} {v : Int} (hA : aL y i n) (hn : n < 100000) (σ : Sg) (hσ : wfS y σ) : CJ l y g yJ7_fill_d0a16 cJ7_fill_d0a16 5 none 0 0 [.ref (gad g i), vl v] σ none (fillA σ i n v) (wfS y (fillA σ i n v)) := by
  refine CJ_ofF hg (by decide +kernel) rfl (Nat.le_of_ble_eq_true rfl) (lo := [(0, .ref (gad g i)), (1, vl v)]) rfl (fun x C E => ?_)
  refine J_iconst C dJ7_fill_d0a16_0 ?_
  refine J_istore_n (lo2 := [(3, vi 0), (0, .ref (gad g i)), (1, vl v)]) C 3 dJ7_fill_d0a16_1 rfl (by decide) rfl ?_
  refine J_aload_n C 0 dJ7_fill_d0a16_2 rfl 1 rfl ?_
  refine J_alen C (n := n) (t0 := 1) hA.1 rfl rfl rfl dJ7_fill_d0a16_3 ?_
  refine J_istore (lo2 := [(4, vi n), (3, vi 0), (0, .ref (gad g i)), (1, vl v)]) C 4 dJ7_fill_d0a16_4 (by decide) rfl ?_
  refine J_sub [2, 3, 1, 0] rfl ?_
  have := w_fillL C hA hn σ hσ E n 0 (by omega)
  rw [fillA_0] at this
  exact this
theorem J_fillL {x : Ct} {y : Sy} {g : Gm} {nL nf nlc : Nat} {cc : ByteArray} {own : String} {pc : Nat} {lo : List (Nat × Value)} {st : List Value} {σ : Sg} {α : Type} {o : α} (C : Cx x y g nL cc own nf nlc) {n i idx : Nat} {v : Int} {K : Sg → Option α} (hA : aL y i n) (hσ : wfS y σ) (hlk : Cond.methodLink own idx yJ7_fill_d0a16 ∈ okw) (hfr : 1 ≤ nf) (hlo : 40 ≤ nlc) (d : decode cc pc = .ok (.invokestatic idx, 3)) (h : filL σ i n v K = some o) (kk : ∀ σ', wfS y σ' → K σ' = some o → J x y g nL (pc + 3) lo st σ') (hn : n < 100000 := by decide) (hcat : (st.map fun v => v.category).sum ≤ 8 := by exact Nat.le_of_ble_eq_true rfl) : J x y g nL pc lo (vl v :: .ref (gad g i) :: st) σ := by
  exact J_callS C mw_J7_fill_d0a16 hlk (m_fillL x.2.1 y g (CxI C) hA hn σ hσ) hfr (by omega) rfl rfl hcat d (fun hz => kk _ hz h)
theorem J_floorDiv {x : Ct} {y : Sy} {g : Gm} {nL nf nlc : Nat} {cc : ByteArray} {own : String} {pc : Nat} {lo : List (Nat × Value)} {st : List Value} {σ : Sg} {α : Type} {o : α} (C : Cx x y g nL cc own nf nlc) {a b : Int} {idx : Nat} {K : Int → Option α} (ha : rg a) (hb : rg b) (hlk : Cond.methodLink own idx yJ9_floorDiv_7cf53 ∈ okw) (hfr : 1 ≤ nf) (hlo : 40 ≤ nlc) (d : decode cc pc = .ok (.invokestatic idx, 3)) (h : fdv a b K = some o) (kk : ∀ v, rg v → K v = some o → J x y g nL (pc + 3) lo (vi v :: st) σ) (hcat : (st.map fun v => v.category).sum ≤ 8 := by exact Nat.le_of_ble_eq_true rfl) : J x y g nL pc lo (vi b :: vi a :: st) σ := by
  obtain ⟨hp, h⟩ := some_if h
  exact J_callS C mw_J9_floorDiv_7cf53 hlk (m_floorDiv x.2.1 y g (CxI C) a b ha hb hp σ) hfr (by omega) rfl rfl hcat d (fun hz => kk _ hz h)
def tpO (d : Int) : Nat := 59 + 7 * d.toNat
theorem tpA {d : Int} (h0 : 0 ≤ d) (h1 : d < 6) : isTape (tpO d) := by
  have : d.toNat = 0 ∨ d.toNat = 1 ∨ d.toNat = 2 ∨ d.toNat = 3 ∨ d.toNat = 4 ∨ d.toNat = 5 := by omega
  unfold tpO
  rcases this with h | h | h | h | h | h <;> rw [h]
  · exact tape_59
  · exact tape_66
  · exact tape_73
  · exact tape_80
  · exact tape_87
  · exact tape_94
set_option maxHeartbeats 4000000 in
theorem m_X11_tapeAt1 (l : Launch) (g : Gm) (hg : gInj yC g) (x1 : Int) (h1 : rg x1) (σ : Sg) (hσ : wfS yC σ) (hc : 0 ≤ x1 ∧ x1 < 6) : CJ l yC g yX11_tapeAt cX11_tapeAt 2 (some (.object "LightScript$Tape")) 0 0 [.ref (gad g 0), vi x1] σ (some (.ref (gad g (tpO x1)))) σ True := by
  refine CJ_of hg (by decide) rfl (Nat.le_of_ble_eq_true rfl) (lo := [(0, .ref (gad g 0)), (1, vi x1)]) rfl (fun x C E => ?_)
  have h : (if x1 < 0 then some () else some ()) = some () := by split <;> rfl
  have h9 : (if x1 < 6 then some () else some ()) = some () := by split <;> rfl
  refine J_iload_n C 1 dX11_tapeAt_0 rfl 1 rfl ?_
  refine J_if_lt C h1 (tgt := 19) dX11_tapeAt_1 (by decide) h (fun h c5 => absurd c5 (by omega)) (fun h c5 => ?_)
  refine J_iload_n C 1 dX11_tapeAt_4 rfl 1 rfl ?_
  refine J_bipush C dX11_tapeAt_5 (bp8 (by decide) (by decide)) ?_
  refine J_icmp_ge C h1 rl_6 (tgt := 19) dX11_tapeAt_7 (by decide) h9 (fun h c5 => ?_) (fun h c5 => absurd hc.2 c5)
  refine J_aload_n C 0 dX11_tapeAt_10 rfl 0 rfl ?_
  refine J_getR C fl_RX11_75 oC_0 rfl dX11_tapeAt_11 ?_
  refine J_iload_n C 1 dX11_tapeAt_14 rfl 1 rfl ?_
  refine J_aaldT C (K := fun _ => some ()) (o := ()) oC_58 (by decide) dX11_tapeAt_15 (if_pos (show 0 ≤ x1 ∧ x1 < ((6 : Nat) : Int) from ⟨hc.1, by omega⟩)) (fun _ _ _ => ?_)
  refine J_goto C (tgt := 20) dX11_tapeAt_16 (by decide) ?_
  exact J_aret C (Or.inr ⟨_, rfl⟩) E trivial dX11_tapeAt_20
set_option maxHeartbeats 4000000 in
theorem m_X11_tapeAt0 (l : Launch) (g : Gm) (hg : gInj yC g) (x1 : Int) (h1 : rg x1) (σ : Sg) (hσ : wfS yC σ) (hc : ¬ (0 ≤ x1 ∧ x1 < 6)) : CJ l yC g yX11_tapeAt cX11_tapeAt 2 (some (.object "LightScript$Tape")) 0 0 [.ref (gad g 0), vi x1] σ (some .null) σ True := by
  refine CJ_of hg (by decide) rfl (Nat.le_of_ble_eq_true rfl) (lo := [(0, .ref (gad g 0)), (1, vi x1)]) rfl (fun x C E => ?_)
  have h : (if x1 < 0 then some () else some ()) = some () := by split <;> rfl
  have h9 : (if x1 < 6 then some () else some ()) = some () := by split <;> rfl
  have fin : J x yC g 2 19 [(0, .ref (gad g 0)), (1, vi x1)] [] σ := by
    refine J_null C dX11_tapeAt_19 ?_
    exact J_aret C (Or.inl rfl) E trivial dX11_tapeAt_20
  refine J_iload_n C 1 dX11_tapeAt_0 rfl 1 rfl ?_
  refine J_if_lt C h1 (tgt := 19) dX11_tapeAt_1 (by decide) h (fun h c5 => fin) (fun h c5 => ?_)
  refine J_iload_n C 1 dX11_tapeAt_4 rfl 1 rfl ?_
  refine J_bipush C dX11_tapeAt_5 (bp8 (by decide) (by decide)) ?_
  exact J_icmp_ge C h1 rl_6 (tgt := 19) dX11_tapeAt_7 (by decide) h9 (fun h c5 => absurd ⟨by omega, c5⟩ hc) (fun h c5 => fin)
