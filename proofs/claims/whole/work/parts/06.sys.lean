
theorem bp8 {n : Int} (h1 : -128 ≤ n) (h2 : n ≤ 127) : (Int8.ofInt n).toInt32 = Int32.ofInt n := Int8.toInt32_ofInt h1 h2
theorem bp16 {n : Int} (h1 : -32768 ≤ n) (h2 : n ≤ 32767) : (Int16.ofInt n).toInt32 = Int32.ofInt n := Int16.toInt32_ofInt h1 h2
theorem rg01 {v : Int} (h : v = 0 ∨ v = 1) : rg v := by rcases h with rfl | rfl <;> exact ⟨by decide, by decide⟩
theorem lk2 {a o0 o1 d : Int} (h0 : ¬ a = 0) (h1 : ¬ a = 1) : Op.lookupswitch.offset [(0, o0), (1, o1)] d a = d := by
  rw [Op.lookupswitch.offset_cons, if_neg (fun q => h0 q.symm), Op.lookupswitch.offset_cons, if_neg (fun q => h1 q.symm)]
  rfl
theorem intoS_self {k n : Nat} {ρ : Sg} : intoS k n ρ (cutS k ρ) = ρ := by
  funext j
  unfold intoS cutS
  by_cases h : k ≤ j ∧ j < k + n
  · rw [if_pos h, show k + (j - k) = j by omega]
  · rw [if_neg h]
theorem elL {A B C : Type} {f : A → C} {k : B → C} {a : A} {o : C} (h : Sum.elim f k (.inl a) = o) : f a = o := h
theorem elR {A B C : Type} {f : A → C} {k : B → C} {a : B} {o : C} (h : Sum.elim f k (.inr a) = o) : k a = o := h
theorem CxI {x : Ct} {y : Sy} {g : Gm} {nL nf nlc : Nat} {cc : ByteArray} {own : String} (C : Cx x y g nL cc own nf nlc) : gInj y g := by
  obtain ⟨p, l, e, R, s, m, args, below, meth, c, Q, kc, ks⟩ := x
  exact C.2.2.2.2.2.2.1
theorem nest_in {q : String × Nat × MethodName × String} (i : Nat) (h : nestL[i]? = some q) : q ∈ nestL := List.mem_of_getElem? h
section JN
variable {x : Ct} {y : Sy} {g : Gm} {nL nf nlc : Nat} {cc : ByteArray} {own : String} {pc : Nat} {lo : List (Nat × Value)} {st : List Value} {σ : Sg} {α : Type} {o : α}
theorem J_aload_nN (C : Cx x y g nL cc own nf nlc) {f : Fin 4} (i : Nat) (d : decode cc pc = .ok (.aload_n f, 1)) (hf9 : (f : Nat) = i) (j : Nat) (hj : lo[j]? = some (i, .null)) (k : J x y g nL (pc + 1) lo (.null :: st) σ) : J x y g nL pc lo st σ := by
  obtain ⟨p, l, e, R, s, m, args, below, meth, c, Q, kc, ks⟩ := x
  obtain ⟨hx, hb, hml, hown, hts, hK, hg, hNf, hNl, hLk, hSt, hKc, hKs⟩ := C
  intro H locs ls hP hS hl
  exact lv_aload_nN hx hb d hf9 (lv_at hl j hj) (k H locs ls hP hS hl)
theorem J_aloadN (C : Cx x y g nL cc own nf nlc) (i : Nat) (d : decode cc pc = .ok (.aload i, 2)) (j : Nat) (hj : lo[j]? = some (i, .null)) (k : J x y g nL (pc + 2) lo (.null :: st) σ) : J x y g nL pc lo st σ := by
  obtain ⟨p, l, e, R, s, m, args, below, meth, c, Q, kc, ks⟩ := x
  obtain ⟨hx, hb, hml, hown, hts, hK, hg, hNf, hNl, hLk, hSt, hKc, hKs⟩ := C
  intro H locs ls hP hS hl
  exact lv_aloadN hx hb d (lv_at hl j hj) (k H locs ls hP hS hl)
theorem J_astore_nN (C : Cx x y g nL cc own nf nlc) {f : Fin 4} {lo2 : List (Nat × Value)} (i : Nat) (d : decode cc pc = .ok (.astore_n f, 1)) (hf9 : (f : Nat) = i) (hi : i < nL) (hl2 : (i, Value.null) :: lo.filter (fun q => !(q.1 == i) && !(q.1 + 1 == i && q.2.category == 2)) = lo2) (k : J x y g nL (pc + 1) lo2 st σ) : J x y g nL pc lo (.null :: st) σ := by
  obtain ⟨p, l, e, R, s, m, args, below, meth, c, Q, kc, ks⟩ := x
  obtain ⟨hx, hb, hml, hown, hts, hK, hg, hNf, hNl, hLk, hSt, hKc, hKs⟩ := C
  intro H locs ls hP hS hl
  exact lv_astore_nN hx hb d hf9 hl hi hl2 (fun ls2 hl3 => k H locs ls2 hP hS hl3)
theorem J_astoreN (C : Cx x y g nL cc own nf nlc) {lo2 : List (Nat × Value)} (i : Nat) (d : decode cc pc = .ok (.astore i, 2)) (hi : i < nL) (hl2 : (i, Value.null) :: lo.filter (fun q => !(q.1 == i) && !(q.1 + 1 == i && q.2.category == 2)) = lo2) (k : J x y g nL (pc + 2) lo2 st σ) : J x y g nL pc lo (.null :: st) σ := by
  obtain ⟨p, l, e, R, s, m, args, below, meth, c, Q, kc, ks⟩ := x
  obtain ⟨hx, hb, hml, hown, hts, hK, hg, hNf, hNl, hLk, hSt, hKc, hKs⟩ := C
  intro H locs ls hP hS hl
  exact lv_astoreN hx hb d hl hi hl2 (fun ls2 hl3 => k H locs ls2 hP hS hl3)
/-- a division whose dividend may be below 0 -/
theorem J_idivT (C : Cx x y g nL cc own nf nlc) {a b : Int} (ha : rg a) (hb9 : rg b) (hp : 0 < b) (d : decode cc pc = .ok (.idiv, 1)) (k : J x y g nL (pc + 1) lo (vi (Int.tdiv a b) :: st) σ) : J x y g nL pc lo (vi b :: vi a :: st) σ := by
  obtain ⟨p, l, e, R, s, m, args, below, meth, c, Q, kc, ks⟩ := x
  obtain ⟨hx, hb, hml, hown, hts, hK, hg, hNf, hNl, hLk, hSt, hKc, hKs⟩ := C
  intro H locs ls hP hS hl
  have hk := k H locs ls hP hS hl
  unfold vi at hk
  rw [Int32.ofInt_tdiv ha.1 ha.2 hb9.1 hb9.2] at hk
  refine lv_idiv hx hb d (fun q => ?_) hk
  have q2 := (ofI_eq hb9 (y := 0) ⟨by decide, by decide⟩).mp q
  omega
end JN
theorem ew9_RX11_196 : ∀ w ∈ (vx_atS RX11 196 "java/lang/IllegalArgumentException" exN).filter goodWord, w ∈ lw_tbl := by decide +kernel
theorem ew9_RX11_206 : ∀ w ∈ (vx_atS RX11 206 "java/lang/IllegalStateException" exN).filter goodWord, w ∈ lw_tbl := by decide +kernel
theorem ew9_RX9_59 : ∀ w ∈ (vx_atS RX9 59 "java/lang/IllegalStateException" exN).filter goodWord, w ∈ lw_tbl := by decide +kernel
theorem ew_RX11_192_196 : EW RX11 192 196 "java/lang/IllegalArgumentException" := ⟨okw_in (List.mem_of_getElem? (i := 1222) (by decide +kernel)) (by decide +kernel), okw_in (List.mem_of_getElem? (i := 86) (by decide +kernel)) (by decide +kernel), fun w hw => okw_in (ew9_RX11_196 w hw) (List.mem_filter.mp hw).2, by decide +kernel, by decide +kernel, by decide +kernel⟩
theorem ew_RX11_202_206 : EW RX11 202 206 "java/lang/IllegalStateException" := ⟨okw_in (List.mem_of_getElem? (i := 1099) (by decide +kernel)) (by decide +kernel), okw_in (List.mem_of_getElem? (i := 87) (by decide +kernel)) (by decide +kernel), fun w hw => okw_in (ew9_RX11_206 w hw) (List.mem_filter.mp hw).2, by decide +kernel, by decide +kernel, by decide +kernel⟩
theorem ew_RX9_55_59 : EW RX9 55 59 "java/lang/IllegalStateException" := ⟨okw_in (List.mem_of_getElem? (i := 1105) (by decide +kernel)) (by decide +kernel), okw_in (List.mem_of_getElem? (i := 87) (by decide +kernel)) (by decide +kernel), fun w hw => okw_in (ew9_RX9_59 w hw) (List.mem_filter.mp hw).2, by decide +kernel, by decide +kernel, by decide +kernel⟩
def yC : Sy := ([cO 11 [.inl 1, .inl 19, .inl 24, .inl 32, .inl 40, .inl 44, .inl 48, .inl 54, .inl 58, .inr 9, .inr 10], cO 8 [.inl 2, .inl 3, .inl 4, .inl 5, .inl 6, .inl 13], cB 1024, cI 6, cI 6, cI 6, cO 2 [.inl 7, .inl 8, .inl 9, .inl 10, .inl 11, .inl 12], cI 12, cI 12, cI 12, cI 12, cI 12, cI 12, cO 0 [.inl 14, .inl 15, .inl 16, .inl 17, .inl 18], cI 20, cI 20, cZ 96, cI 96, cI 96, cO 1 [.inl 20, .inl 21, .inl 22, .inl 23, .inr 4], cI 120, cI 120, cI 120, cI 120, cO 6 [.inl 1, .inl 25, .inl 30, .inl 31, .inr 4, .inr 5, .inr 6], cO 1 [.inl 26, .inl 27, .inl 28, .inl 29, .inr 4], cI 120, cI 120, cI 120, cI 120, cI 3, cI 3, cO 3 [.inl 1, .inl 19, .inl 33, .inl 34, .inl 35, .inl 36, .inl 37, .inl 38, .inl 39, .inr 9, .inr 10, .inr 11], cI 8, cZ 48, cI 8, cI 6, cI 6, cI 8, cI 8, cO 4 [.inl 41, .inl 42, .inl 43, .inr 3], cI 20, cI 20, cI 20, cO 5 [.inl 45, .inl 46, .inl 47, .inr 3, .inr 4], cI 160, cI 160, cI 8, cO 7 [.inl 1, .inl 19, .inl 40, .inl 44, .inl 49, .inl 50, .inl 51, .inl 52, .inl 53, .inr 9], cI 120, cI 120, cI 120, cI 120, cI 120, cO 10 [.inl 1, .inl 19, .inl 48, .inl 55, .inl 56, .inl 57, .inr 6], cI 60, cI 60, cZ 120, cT 6 (fun k => 59 + 7 * k), cO 9 [.inr 0, .inr 1, .inl 60, .inl 61], cL 100, cO 1 [.inl 62, .inl 63, .inl 64, .inl 65, .inr 4], cI 120, cI 120, cI 120, cI 120, cO 9 [.inr 0, .inr 1, .inl 67, .inl 68], cL 100, cO 1 [.inl 69, .inl 70, .inl 71, .inl 72, .inr 4], cI 120, cI 120, cI 120, cI 120, cO 9 [.inr 0, .inr 1, .inl 74, .inl 75], cL 100, cO 1 [.inl 76, .inl 77, .inl 78, .inl 79, .inr 4], cI 120, cI 120, cI 120, cI 120, cO 9 [.inr 0, .inr 1, .inl 81, .inl 82], cL 100, cO 1 [.inl 83, .inl 84, .inl 85, .inl 86, .inr 4], cI 120, cI 120, cI 120, cI 120, cO 9 [.inr 0, .inr 1, .inl 88, .inl 89], cL 100, cO 1 [.inl 90, .inl 91, .inl 92, .inl 93, .inr 4], cI 120, cI 120, cI 120, cI 120, cO 9 [.inr 0, .inr 1, .inl 95, .inl 96], cL 100, cO 1 [.inl 97, .inl 98, .inl 99, .inl 100, .inr 4], cI 120, cI 120, cI 120, cI 120], fun i => [60, 67, 74, 81, 88, 95].contains i)
def yR : Sy := ([cO 12 [.inl 1, .inl 2, .inl 3, .inl 4, .inl 5, .inl 6, .inl 7, .inl 8, .inl 9, .inl 10, .inl 11, .inl 12, .inl 13, .inl 14, .inl 15, .inl 16, .inl 17, .inl 18, .inl 19, .inl 20, .inl 21, .inl 22, .inl 23, .inl 24, .inl 25, .inl 26, .inl 27, .inl 28, .inl 29, .inl 30, .inl 31, .inr 31, .inr 32, .inr 33, .inr 34, .inr 35, .inr 36, .inr 37, .inr 38, .inr 39, .inr 40, .inl 32, .inl 33, .inl 34, .inl 35, .inl 36, .inl 37, .inr 47, .inr 48, .inl 38, .inl 39, .inl 40, .inl 41, .inl 42, .inr 54, .inl 43, .inl 44], cI 1024, cI 12, cI 12, cI 12, cI 12, cI 12, cI 12, cI 6, cI 6, cI 6, cI 20, cI 20, cI 120, cI 120, cI 120, cI 120, cI 120, cI 120, cI 120, cI 120, cI 120, cI 20, cI 20, cI 20, cI 800, cI 60, cI 60, cI 6, cI 6, cI 2880, cL 600, cI 3, cI 3, cI 120, cI 8, cI 8, cI 6, cZ 48, cZ 9, cI 120, cI 120, cI 120, cI 60, cZ 60], fun i => [31].contains i)
def isCues (o : Nat) : Prop := yC.1[o]? = some (cO 1 [.inl (o + 1), .inl (o + 2), .inl (o + 3), .inl (o + 4), .inr 4]) ∧ yC.2 o = false ∧ aI yC (o + 1) 120 ∧ aI yC (o + 2) 120 ∧ aI yC (o + 3) 120 ∧ aI yC (o + 4) 120
def isTape (t : Nat) : Prop := yC.1[t]? = some (cO 9 [.inr 0, .inr 1, .inl (t + 1), .inl (t + 2)]) ∧ yC.2 t = false ∧ aL yC (t + 1) 100 ∧ isCues (t + 2)
theorem oC_0 : yC.1[0]? = some (cO 11 [.inl 1, .inl 19, .inl 24, .inl 32, .inl 40, .inl 44, .inl 48, .inl 54, .inl 58, .inr 9, .inr 10]) := rfl
theorem lC_0 : yC.2 0 = false := rfl
theorem oC_1 : yC.1[1]? = some (cO 8 [.inl 2, .inl 3, .inl 4, .inl 5, .inl 6, .inl 13]) := rfl
theorem lC_1 : yC.2 1 = false := rfl
theorem aC_2 : aB yC 2 1024 := ⟨rfl, by decide, rfl⟩
theorem aC_3 : aI yC 3 6 := ⟨rfl, by decide, rfl⟩
theorem aC_4 : aI yC 4 6 := ⟨rfl, by decide, rfl⟩
theorem aC_5 : aI yC 5 6 := ⟨rfl, by decide, rfl⟩
theorem oC_6 : yC.1[6]? = some (cO 2 [.inl 7, .inl 8, .inl 9, .inl 10, .inl 11, .inl 12]) := rfl
theorem lC_6 : yC.2 6 = false := rfl
theorem aC_7 : aI yC 7 12 := ⟨rfl, by decide, rfl⟩
theorem aC_8 : aI yC 8 12 := ⟨rfl, by decide, rfl⟩
theorem aC_9 : aI yC 9 12 := ⟨rfl, by decide, rfl⟩
theorem aC_10 : aI yC 10 12 := ⟨rfl, by decide, rfl⟩
theorem aC_11 : aI yC 11 12 := ⟨rfl, by decide, rfl⟩
theorem aC_12 : aI yC 12 12 := ⟨rfl, by decide, rfl⟩
theorem oC_13 : yC.1[13]? = some (cO 0 [.inl 14, .inl 15, .inl 16, .inl 17, .inl 18]) := rfl
theorem lC_13 : yC.2 13 = false := rfl
theorem aC_14 : aI yC 14 20 := ⟨rfl, by decide, rfl⟩
theorem aC_15 : aI yC 15 20 := ⟨rfl, by decide, rfl⟩
theorem aC_16 : aZ yC 16 96 := ⟨rfl, by decide, rfl⟩
theorem aC_17 : aI yC 17 96 := ⟨rfl, by decide, rfl⟩
theorem aC_18 : aI yC 18 96 := ⟨rfl, by decide, rfl⟩
theorem oC_19 : yC.1[19]? = some (cO 1 [.inl 20, .inl 21, .inl 22, .inl 23, .inr 4]) := rfl
theorem lC_19 : yC.2 19 = false := rfl
theorem aC_20 : aI yC 20 120 := ⟨rfl, by decide, rfl⟩
theorem aC_21 : aI yC 21 120 := ⟨rfl, by decide, rfl⟩
theorem aC_22 : aI yC 22 120 := ⟨rfl, by decide, rfl⟩
theorem aC_23 : aI yC 23 120 := ⟨rfl, by decide, rfl⟩
theorem oC_24 : yC.1[24]? = some (cO 6 [.inl 1, .inl 25, .inl 30, .inl 31, .inr 4, .inr 5, .inr 6]) := rfl
theorem lC_24 : yC.2 24 = false := rfl
theorem oC_25 : yC.1[25]? = some (cO 1 [.inl 26, .inl 27, .inl 28, .inl 29, .inr 4]) := rfl
theorem lC_25 : yC.2 25 = false := rfl
theorem aC_26 : aI yC 26 120 := ⟨rfl, by decide, rfl⟩
theorem aC_27 : aI yC 27 120 := ⟨rfl, by decide, rfl⟩
theorem aC_28 : aI yC 28 120 := ⟨rfl, by decide, rfl⟩
theorem aC_29 : aI yC 29 120 := ⟨rfl, by decide, rfl⟩
theorem aC_30 : aI yC 30 3 := ⟨rfl, by decide, rfl⟩
theorem aC_31 : aI yC 31 3 := ⟨rfl, by decide, rfl⟩
theorem oC_32 : yC.1[32]? = some (cO 3 [.inl 1, .inl 19, .inl 33, .inl 34, .inl 35, .inl 36, .inl 37, .inl 38, .inl 39, .inr 9, .inr 10, .inr 11]) := rfl
theorem lC_32 : yC.2 32 = false := rfl
theorem aC_33 : aI yC 33 8 := ⟨rfl, by decide, rfl⟩
theorem aC_34 : aZ yC 34 48 := ⟨rfl, by decide, rfl⟩
theorem aC_35 : aI yC 35 8 := ⟨rfl, by decide, rfl⟩
theorem aC_36 : aI yC 36 6 := ⟨rfl, by decide, rfl⟩
theorem aC_37 : aI yC 37 6 := ⟨rfl, by decide, rfl⟩
theorem aC_38 : aI yC 38 8 := ⟨rfl, by decide, rfl⟩
theorem aC_39 : aI yC 39 8 := ⟨rfl, by decide, rfl⟩
theorem oC_40 : yC.1[40]? = some (cO 4 [.inl 41, .inl 42, .inl 43, .inr 3]) := rfl
theorem lC_40 : yC.2 40 = false := rfl
theorem aC_41 : aI yC 41 20 := ⟨rfl, by decide, rfl⟩
theorem aC_42 : aI yC 42 20 := ⟨rfl, by decide, rfl⟩
theorem aC_43 : aI yC 43 20 := ⟨rfl, by decide, rfl⟩
theorem oC_44 : yC.1[44]? = some (cO 5 [.inl 45, .inl 46, .inl 47, .inr 3, .inr 4]) := rfl
theorem lC_44 : yC.2 44 = false := rfl
theorem aC_45 : aI yC 45 160 := ⟨rfl, by decide, rfl⟩
theorem aC_46 : aI yC 46 160 := ⟨rfl, by decide, rfl⟩
theorem aC_47 : aI yC 47 8 := ⟨rfl, by decide, rfl⟩
theorem oC_48 : yC.1[48]? = some (cO 7 [.inl 1, .inl 19, .inl 40, .inl 44, .inl 49, .inl 50, .inl 51, .inl 52, .inl 53, .inr 9]) := rfl
theorem lC_48 : yC.2 48 = false := rfl
theorem aC_49 : aI yC 49 120 := ⟨rfl, by decide, rfl⟩
theorem aC_50 : aI yC 50 120 := ⟨rfl, by decide, rfl⟩
theorem aC_51 : aI yC 51 120 := ⟨rfl, by decide, rfl⟩
theorem aC_52 : aI yC 52 120 := ⟨rfl, by decide, rfl⟩
theorem aC_53 : aI yC 53 120 := ⟨rfl, by decide, rfl⟩
theorem oC_54 : yC.1[54]? = some (cO 10 [.inl 1, .inl 19, .inl 48, .inl 55, .inl 56, .inl 57, .inr 6]) := rfl
theorem lC_54 : yC.2 54 = false := rfl
theorem aC_55 : aI yC 55 60 := ⟨rfl, by decide, rfl⟩
theorem aC_56 : aI yC 56 60 := ⟨rfl, by decide, rfl⟩
theorem aC_57 : aZ yC 57 120 := ⟨rfl, by decide, rfl⟩
theorem oC_58 : yC.1[58]? = some (cT 6 (fun k => 59 + 7 * k)) := rfl
theorem lC_58 : yC.2 58 = false := rfl
theorem oC_59 : yC.1[59]? = some (cO 9 [.inr 0, .inr 1, .inl 60, .inl 61]) := rfl
theorem lC_59 : yC.2 59 = false := rfl
theorem aC_60 : aL yC 60 100 := ⟨rfl, by decide, rfl⟩
theorem oC_61 : yC.1[61]? = some (cO 1 [.inl 62, .inl 63, .inl 64, .inl 65, .inr 4]) := rfl
theorem lC_61 : yC.2 61 = false := rfl
theorem aC_62 : aI yC 62 120 := ⟨rfl, by decide, rfl⟩
theorem aC_63 : aI yC 63 120 := ⟨rfl, by decide, rfl⟩
theorem aC_64 : aI yC 64 120 := ⟨rfl, by decide, rfl⟩
theorem aC_65 : aI yC 65 120 := ⟨rfl, by decide, rfl⟩
theorem oC_66 : yC.1[66]? = some (cO 9 [.inr 0, .inr 1, .inl 67, .inl 68]) := rfl
theorem lC_66 : yC.2 66 = false := rfl
theorem aC_67 : aL yC 67 100 := ⟨rfl, by decide, rfl⟩
theorem oC_68 : yC.1[68]? = some (cO 1 [.inl 69, .inl 70, .inl 71, .inl 72, .inr 4]) := rfl
theorem lC_68 : yC.2 68 = false := rfl
theorem aC_69 : aI yC 69 120 := ⟨rfl, by decide, rfl⟩
theorem aC_70 : aI yC 70 120 := ⟨rfl, by decide, rfl⟩
theorem aC_71 : aI yC 71 120 := ⟨rfl, by decide, rfl⟩
theorem aC_72 : aI yC 72 120 := ⟨rfl, by decide, rfl⟩
theorem oC_73 : yC.1[73]? = some (cO 9 [.inr 0, .inr 1, .inl 74, .inl 75]) := rfl
theorem lC_73 : yC.2 73 = false := rfl
theorem aC_74 : aL yC 74 100 := ⟨rfl, by decide, rfl⟩
theorem oC_75 : yC.1[75]? = some (cO 1 [.inl 76, .inl 77, .inl 78, .inl 79, .inr 4]) := rfl
theorem lC_75 : yC.2 75 = false := rfl
theorem aC_76 : aI yC 76 120 := ⟨rfl, by decide, rfl⟩
theorem aC_77 : aI yC 77 120 := ⟨rfl, by decide, rfl⟩
theorem aC_78 : aI yC 78 120 := ⟨rfl, by decide, rfl⟩
theorem aC_79 : aI yC 79 120 := ⟨rfl, by decide, rfl⟩
theorem oC_80 : yC.1[80]? = some (cO 9 [.inr 0, .inr 1, .inl 81, .inl 82]) := rfl
theorem lC_80 : yC.2 80 = false := rfl
theorem aC_81 : aL yC 81 100 := ⟨rfl, by decide, rfl⟩
theorem oC_82 : yC.1[82]? = some (cO 1 [.inl 83, .inl 84, .inl 85, .inl 86, .inr 4]) := rfl
theorem lC_82 : yC.2 82 = false := rfl
theorem aC_83 : aI yC 83 120 := ⟨rfl, by decide, rfl⟩
theorem aC_84 : aI yC 84 120 := ⟨rfl, by decide, rfl⟩
theorem aC_85 : aI yC 85 120 := ⟨rfl, by decide, rfl⟩
theorem aC_86 : aI yC 86 120 := ⟨rfl, by decide, rfl⟩
theorem oC_87 : yC.1[87]? = some (cO 9 [.inr 0, .inr 1, .inl 88, .inl 89]) := rfl
theorem lC_87 : yC.2 87 = false := rfl
theorem aC_88 : aL yC 88 100 := ⟨rfl, by decide, rfl⟩
theorem oC_89 : yC.1[89]? = some (cO 1 [.inl 90, .inl 91, .inl 92, .inl 93, .inr 4]) := rfl
theorem lC_89 : yC.2 89 = false := rfl
theorem aC_90 : aI yC 90 120 := ⟨rfl, by decide, rfl⟩
theorem aC_91 : aI yC 91 120 := ⟨rfl, by decide, rfl⟩
theorem aC_92 : aI yC 92 120 := ⟨rfl, by decide, rfl⟩
theorem aC_93 : aI yC 93 120 := ⟨rfl, by decide, rfl⟩
theorem oC_94 : yC.1[94]? = some (cO 9 [.inr 0, .inr 1, .inl 95, .inl 96]) := rfl
theorem lC_94 : yC.2 94 = false := rfl
theorem aC_95 : aL yC 95 100 := ⟨rfl, by decide, rfl⟩
theorem oC_96 : yC.1[96]? = some (cO 1 [.inl 97, .inl 98, .inl 99, .inl 100, .inr 4]) := rfl
theorem lC_96 : yC.2 96 = false := rfl
theorem aC_97 : aI yC 97 120 := ⟨rfl, by decide, rfl⟩
theorem aC_98 : aI yC 98 120 := ⟨rfl, by decide, rfl⟩
theorem aC_99 : aI yC 99 120 := ⟨rfl, by decide, rfl⟩
theorem aC_100 : aI yC 100 120 := ⟨rfl, by decide, rfl⟩
theorem oR_0 : yR.1[0]? = some (cO 12 [.inl 1, .inl 2, .inl 3, .inl 4, .inl 5, .inl 6, .inl 7, .inl 8, .inl 9, .inl 10, .inl 11, .inl 12, .inl 13, .inl 14, .inl 15, .inl 16, .inl 17, .inl 18, .inl 19, .inl 20, .inl 21, .inl 22, .inl 23, .inl 24, .inl 25, .inl 26, .inl 27, .inl 28, .inl 29, .inl 30, .inl 31, .inr 31, .inr 32, .inr 33, .inr 34, .inr 35, .inr 36, .inr 37, .inr 38, .inr 39, .inr 40, .inl 32, .inl 33, .inl 34, .inl 35, .inl 36, .inl 37, .inr 47, .inr 48, .inl 38, .inl 39, .inl 40, .inl 41, .inl 42, .inr 54, .inl 43, .inl 44]) := rfl
theorem lR_0 : yR.2 0 = false := rfl
theorem aR_1 : aI yR 1 1024 := ⟨rfl, by decide, rfl⟩
theorem aR_2 : aI yR 2 12 := ⟨rfl, by decide, rfl⟩
theorem aR_3 : aI yR 3 12 := ⟨rfl, by decide, rfl⟩
theorem aR_4 : aI yR 4 12 := ⟨rfl, by decide, rfl⟩
theorem aR_5 : aI yR 5 12 := ⟨rfl, by decide, rfl⟩
theorem aR_6 : aI yR 6 12 := ⟨rfl, by decide, rfl⟩
theorem aR_7 : aI yR 7 12 := ⟨rfl, by decide, rfl⟩
theorem aR_8 : aI yR 8 6 := ⟨rfl, by decide, rfl⟩
theorem aR_9 : aI yR 9 6 := ⟨rfl, by decide, rfl⟩
theorem aR_10 : aI yR 10 6 := ⟨rfl, by decide, rfl⟩
theorem aR_11 : aI yR 11 20 := ⟨rfl, by decide, rfl⟩
theorem aR_12 : aI yR 12 20 := ⟨rfl, by decide, rfl⟩
theorem aR_13 : aI yR 13 120 := ⟨rfl, by decide, rfl⟩
theorem aR_14 : aI yR 14 120 := ⟨rfl, by decide, rfl⟩
theorem aR_15 : aI yR 15 120 := ⟨rfl, by decide, rfl⟩
theorem aR_16 : aI yR 16 120 := ⟨rfl, by decide, rfl⟩
theorem aR_17 : aI yR 17 120 := ⟨rfl, by decide, rfl⟩
theorem aR_18 : aI yR 18 120 := ⟨rfl, by decide, rfl⟩
theorem aR_19 : aI yR 19 120 := ⟨rfl, by decide, rfl⟩
theorem aR_20 : aI yR 20 120 := ⟨rfl, by decide, rfl⟩
theorem aR_21 : aI yR 21 120 := ⟨rfl, by decide, rfl⟩
theorem aR_22 : aI yR 22 20 := ⟨rfl, by decide, rfl⟩
theorem aR_23 : aI yR 23 20 := ⟨rfl, by decide, rfl⟩
theorem aR_24 : aI yR 24 20 := ⟨rfl, by decide, rfl⟩
theorem aR_25 : aI yR 25 800 := ⟨rfl, by decide, rfl⟩
theorem aR_26 : aI yR 26 60 := ⟨rfl, by decide, rfl⟩
theorem aR_27 : aI yR 27 60 := ⟨rfl, by decide, rfl⟩
theorem aR_28 : aI yR 28 6 := ⟨rfl, by decide, rfl⟩
theorem aR_29 : aI yR 29 6 := ⟨rfl, by decide, rfl⟩
theorem aR_30 : aI yR 30 2880 := ⟨rfl, by decide, rfl⟩
theorem aR_31 : aL yR 31 600 := ⟨rfl, by decide, rfl⟩
theorem aR_32 : aI yR 32 3 := ⟨rfl, by decide, rfl⟩
theorem aR_33 : aI yR 33 3 := ⟨rfl, by decide, rfl⟩
theorem aR_34 : aI yR 34 120 := ⟨rfl, by decide, rfl⟩
theorem aR_35 : aI yR 35 8 := ⟨rfl, by decide, rfl⟩
theorem aR_36 : aI yR 36 8 := ⟨rfl, by decide, rfl⟩
theorem aR_37 : aI yR 37 6 := ⟨rfl, by decide, rfl⟩
theorem aR_38 : aZ yR 38 48 := ⟨rfl, by decide, rfl⟩
theorem aR_39 : aZ yR 39 9 := ⟨rfl, by decide, rfl⟩
theorem aR_40 : aI yR 40 120 := ⟨rfl, by decide, rfl⟩
theorem aR_41 : aI yR 41 120 := ⟨rfl, by decide, rfl⟩
theorem aR_42 : aI yR 42 120 := ⟨rfl, by decide, rfl⟩
theorem aR_43 : aI yR 43 60 := ⟨rfl, by decide, rfl⟩
theorem aR_44 : aZ yR 44 60 := ⟨rfl, by decide, rfl⟩
theorem cues_19 : isCues 19 := ⟨rfl, rfl, ⟨rfl, by decide, rfl⟩, ⟨rfl, by decide, rfl⟩, ⟨rfl, by decide, rfl⟩, ⟨rfl, by decide, rfl⟩⟩
theorem cues_25 : isCues 25 := ⟨rfl, rfl, ⟨rfl, by decide, rfl⟩, ⟨rfl, by decide, rfl⟩, ⟨rfl, by decide, rfl⟩, ⟨rfl, by decide, rfl⟩⟩
theorem cues_61 : isCues 61 := ⟨rfl, rfl, ⟨rfl, by decide, rfl⟩, ⟨rfl, by decide, rfl⟩, ⟨rfl, by decide, rfl⟩, ⟨rfl, by decide, rfl⟩⟩
theorem cues_68 : isCues 68 := ⟨rfl, rfl, ⟨rfl, by decide, rfl⟩, ⟨rfl, by decide, rfl⟩, ⟨rfl, by decide, rfl⟩, ⟨rfl, by decide, rfl⟩⟩
theorem cues_75 : isCues 75 := ⟨rfl, rfl, ⟨rfl, by decide, rfl⟩, ⟨rfl, by decide, rfl⟩, ⟨rfl, by decide, rfl⟩, ⟨rfl, by decide, rfl⟩⟩
theorem cues_82 : isCues 82 := ⟨rfl, rfl, ⟨rfl, by decide, rfl⟩, ⟨rfl, by decide, rfl⟩, ⟨rfl, by decide, rfl⟩, ⟨rfl, by decide, rfl⟩⟩
theorem cues_89 : isCues 89 := ⟨rfl, rfl, ⟨rfl, by decide, rfl⟩, ⟨rfl, by decide, rfl⟩, ⟨rfl, by decide, rfl⟩, ⟨rfl, by decide, rfl⟩⟩
theorem cues_96 : isCues 96 := ⟨rfl, rfl, ⟨rfl, by decide, rfl⟩, ⟨rfl, by decide, rfl⟩, ⟨rfl, by decide, rfl⟩, ⟨rfl, by decide, rfl⟩⟩
theorem tape_59 : isTape 59 := ⟨rfl, rfl, ⟨rfl, by decide, rfl⟩, cues_61⟩
theorem tape_66 : isTape 66 := ⟨rfl, rfl, ⟨rfl, by decide, rfl⟩, cues_68⟩
theorem tape_73 : isTape 73 := ⟨rfl, rfl, ⟨rfl, by decide, rfl⟩, cues_75⟩
theorem tape_80 : isTape 80 := ⟨rfl, rfl, ⟨rfl, by decide, rfl⟩, cues_82⟩
theorem tape_87 : isTape 87 := ⟨rfl, rfl, ⟨rfl, by decide, rfl⟩, cues_89⟩
theorem tape_94 : isTape 94 := ⟨rfl, rfl, ⟨rfl, by decide, rfl⟩, cues_96⟩

theorem CJ_ofF {l : Launch} {y : Sy} {g : Gm} {n : MethodName} {cc : ByteArray} {maxL : Nat} {ret : Option FieldType} {fr lc : Nat} {avs : List Value} {σ : Sg} {rv : Option Value} {σ' : Sg} {zz : Prop} {own : String} {lo : List (Nat × Value)}
    (hg : gInj y g) (hy : plainFor n = true) (hown : n.cls = own) (hlen : (lg_sl avs).length ≤ maxL) (hlo : lv_args 0 avs = lo)
    (body : ∀ x : Ct, Cx x y g maxL cc own fr lc → Rx x y g ret rv σ' zz → J x y g maxL 0 lo [] σ) : CJ l y g n cc maxL ret fr lc avs σ rv σ' zz := by
  subst hlo
  refine va_MetF (cc := cc) (maxL := maxL) (ret := ret) hy rfl ?_
  intro p e s m args below meth c s₁ B hml hv
  obtain ⟨rfl, hP, hK, hst⟩ := hv
  have hts := atoms_spec (ws := .code n cc maxL ret :: okw) B.pre
  have hnm : s.vm.findClass own = some m.cls := by rw [← hown]; exact findClass_of_methodNamed B.named
  have hb := body (p, l, e, (headSpec (.code n cc maxL ret :: okw) { frames := fr, cells := 0, slots := 0, locals := lc }).room, s, m, avs.toArray, below, meth, c, MQ below (QJ y g rv σ' zz) avs.toArray s 0 0 (aw y g), 0, 0)
    ⟨B.exec, B.bytes, hml, hnm, fun w hw => hts w (List.mem_cons_of_mem _ hw), hK, hg, Nat.le_refl _, Nat.le_refl _, B.notSynchronized, hst, Nat.zero_le _, Nat.zero_le _⟩ ⟨B.returns, 0, 0, Nat.le_refl _, Nat.le_refl _, rfl⟩
  have hl := lv_entry avs (n := maxL) hlen
  rw [lg_entry_eq]
  exact hb s.heap [] _ hP va_S.rf hl
/-! the JDK's own: Arrays.fill, Math.floorDiv -/
theorem CJ_ofL {l : Launch} {y : Sy} {g : Gm} {n : MethodName} {cc : ByteArray} {maxL : Nat} {ret : Option FieldType} {fr lc : Nat} {avs : List Value} {σ : Sg} {rv : Option Value} {σ' : Sg} {zz : Prop} {own : String} {lo : List (Nat × Value)}
    (hg : gInj y g) (hy : plainName n.cls = true) (hown : n.cls = own) (hlen : (lg_sl avs).length ≤ maxL) (hlo : lv_args 0 avs = lo)
    (body : ∀ x : Ct, Cx x y g maxL cc own fr lc → Rx x y g ret rv σ' zz → x.2.1 = l → J x y g maxL 0 lo [] σ) : CJ l y g n cc maxL ret fr lc avs σ rv σ' zz := by
  subst hlo
  refine Met.ofW (cc := cc) (maxL := maxL) (ret := ret) hy rfl ?_
  intro p e s m args below meth c s₁ B hml hv
  obtain ⟨rfl, hP, hK, hst⟩ := hv
  have hts := atoms_spec (ws := .code n cc maxL ret :: okw) B.pre
  have hnm : s.vm.findClass own = some m.cls := by rw [← hown]; exact findClass_of_methodNamed B.named
  have hb := body (p, l, e, (headSpec (.code n cc maxL ret :: okw) { frames := fr, cells := 0, slots := 0, locals := lc }).room, s, m, avs.toArray, below, meth, c, MQ below (QJ y g rv σ' zz) avs.toArray s 0 0 (aw y g), 0, 0)
    ⟨B.exec, B.bytes, hml, hnm, fun w hw => hts w (List.mem_cons_of_mem _ hw), hK, hg, Nat.le_refl _, Nat.le_refl _, B.notSynchronized, hst, Nat.zero_le _, Nat.zero_le _⟩ ⟨B.returns, 0, 0, Nat.le_refl _, Nat.le_refl _, rfl⟩ rfl
  have hl := lv_entry avs (n := maxL) hlen
  rw [lg_entry_eq]
  exact hb s.heap [] _ hP va_S.rf hl
/-! the JDK's own: Arrays.fill, Math.floorDiv -/
theorem xor_neg {a b : Int} (ha : rg a) (hb : rg b) (hp : 0 < b) : bXor a b < 0 ↔ a < 0 := by
  have key : ∀ z : Int32, z.toInt < 0 ↔ z.toBitVec.msb = true := fun z => by
    show z.toBitVec.toInt < 0 ↔ _
    rw [BitVec.msb_eq_toInt]; simp
  unfold bXor
  rw [key, Int32.toBitVec_xor, BitVec.msb_xor]
  have h1 := key (Int32.ofInt a)
  have h2 := key (Int32.ofInt b)
  rw [ofI_toInt ha] at h1
  rw [ofI_toInt hb] at h2
  have h3 : (Int32.ofInt b).toBitVec.msb = false := by
    cases h : (Int32.ofInt b).toBitVec.msb with
    | false => rfl
    | true => have := h2.mpr h; omega
  rw [h3, Bool.xor_false]
  exact h1.symm
theorem tdiv_floor {a b : Int} (hp : 0 < b) : (if a < 0 ∧ ¬ Int.tdiv a b * b = a then Int.tdiv a b - 1 else Int.tdiv a b) = a / b := by
  by_cases h0 : 0 ≤ a
  · rw [if_neg (by omega), Int.tdiv_eq_ediv_of_nonneg h0]
  · have e1 : Int.tdiv a b = -((-a) / b) := by
      have := Int.tdiv_eq_ediv_of_nonneg (a := -a) (b := b) (by omega)
      rw [Int.neg_tdiv] at this
      omega
    have m1 := Int.mul_ediv_add_emod (-a) b
    have m2 := Int.emod_nonneg (-a) (b := b) (by omega)
    have m3 := Int.emod_lt_of_pos (-a) hp
    have m4 := Int.mul_ediv_add_emod a b
    have m5 := Int.emod_nonneg a (b := b) (by omega)
    have m6 := Int.emod_lt_of_pos a hp
    have e2 : Int.tdiv a b * b = -(b * ((-a) / b)) := by rw [e1, Int.neg_mul, Int.mul_comm]
    by_cases hz : (-a) % b = 0
    · have e3 : Int.tdiv a b * b = a := by rw [e2]; omega
      rw [if_neg (fun z => z.2 e3)]
      have : a / b = Int.tdiv a b := by
        rw [← e3, Int.mul_ediv_cancel _ (by omega : b ≠ 0), e3]
      rw [this]
    · rw [if_pos ⟨by omega, fun z => hz (by rw [e2] at z; omega)⟩]
      have h8 : a = (Int.tdiv a b - 1) * b + (b - (-a) % b) := by
        rw [Int.sub_mul, e2]; omega
      have h9 : a / b = Int.tdiv a b - 1 := by
        have := Int.add_mul_ediv_right (b - (-a) % b) (Int.tdiv a b - 1) (by omega : b ≠ 0)
        rw [Int.add_comm, ← h8] at this
        rw [this, Int.ediv_eq_zero_of_lt (by omega) (by omega)]
        omega
      rw [h9]
def flo (a b : Int) (σ : Sg) : Option Int := some (a / b)
set_option maxHeartbeats 4000000 in
theorem m_floorDiv (l : Launch) (y : Sy) (g : Gm) (hg : gInj y g) (a b : Int) (ha : rg a) (hb : rg b) (hp : 0 < b) (σ : Sg) : CJ l y g yJ9_floorDiv_7cf53 cJ9_floorDiv_7cf53 3 (some .int) 0 0 [vi a, vi b] σ (some (vi (a / b))) σ (rg (a / b)) := by
  have t1 : -2147483648 ≤ Int.tdiv a b ∧ Int.tdiv a b ≤ 2147483647 := by
    by_cases h0 : 0 ≤ a
    · rw [Int.tdiv_eq_ediv_of_nonneg h0]
      exact ⟨by have := Int.ediv_nonneg h0 (Int.le_of_lt hp); omega, Int.le_trans (Int.ediv_le_self b h0) ha.2⟩
    · have e1 : Int.tdiv a b = -((-a) / b) := by
        have := Int.tdiv_eq_ediv_of_nonneg (a := -a) (b := b) (by omega)
        rw [Int.neg_tdiv] at this
        omega
      have h1 : (-a) / b ≤ -a := Int.ediv_le_self b (by omega)
      have h2 : 0 ≤ (-a) / b := Int.ediv_nonneg (by omega) (Int.le_of_lt hp)
      have := ha.1
      omega
  have t2 : rg (Int.tdiv a b * b) := by
    by_cases h0 : 0 ≤ a
    · rw [Int.tdiv_eq_ediv_of_nonneg h0]
      have := Int.ediv_mul_le a (b := b) (by omega)
      have h3 : 0 ≤ a / b * b := Int.mul_nonneg (Int.ediv_nonneg h0 (Int.le_of_lt hp)) (Int.le_of_lt hp)
      have := ha.2
      exact ⟨by omega, by omega⟩
    · have e1 : Int.tdiv a b = -((-a) / b) := by
        have := Int.tdiv_eq_ediv_of_nonneg (a := -a) (b := b) (by omega)
        rw [Int.neg_tdiv] at this
        omega
      have h4 := Int.ediv_mul_le (-a) (b := b) (by omega)
      have h3 : 0 ≤ (-a) / b * b := Int.mul_nonneg (Int.ediv_nonneg (by omega) (Int.le_of_lt hp)) (Int.le_of_lt hp)
      rw [e1, Int.neg_mul]
      have := ha.1
      exact ⟨by omega, by omega⟩
  have tf := tdiv_floor (a := a) hp
  refine CJ_ofF hg (by decide +kernel) rfl (Nat.le_of_ble_eq_true rfl) (lo := [(0, vi a), (1, vi b)]) rfl (fun x C E => ?_)
  refine J_iload_n C 0 dJ9_floorDiv_7cf53_0 rfl 0 rfl ?_
  refine J_iload_n C 1 dJ9_floorDiv_7cf53_1 rfl 1 rfl ?_
  refine J_idivT C ha hb hp dJ9_floorDiv_7cf53_2 ?_
  refine J_istore_n (lo2 := [(2, vi (Int.tdiv a b)), (0, vi a), (1, vi b)]) C 2 dJ9_floorDiv_7cf53_3 rfl (by decide) rfl ?_
  refine J_iload_n C 0 dJ9_floorDiv_7cf53_4 rfl 1 rfl ?_
  refine J_iload_n C 1 dJ9_floorDiv_7cf53_5 rfl 2 rfl ?_
  refine J_ixor C dJ9_floorDiv_7cf53_6 ?_
  have fin : ∀ (z : a / b = Int.tdiv a b), J x y g 3 21 [(2, vi (Int.tdiv a b)), (0, vi a), (1, vi b)] [] σ := by
    intro z
    refine J_iload_n C 2 dJ9_floorDiv_7cf53_21 rfl 0 rfl ?_
    rw [z] at E
    exact J_iret C E t1 dJ9_floorDiv_7cf53_22
  have h : (if bXor a b < 0 then some () else some ()) = some () := by split <;> rfl
  refine J_if_ge C (rg_toInt _) (tgt := 21) dJ9_floorDiv_7cf53_7 (by decide) h (fun h c1 => ?_) (fun h c1 => ?_)
  · have c2 := (xor_neg ha hb hp).mp c1
    refine J_iload_n C 2 dJ9_floorDiv_7cf53_10 rfl 0 rfl ?_
    refine J_iload_n C 1 dJ9_floorDiv_7cf53_11 rfl 2 rfl ?_
    refine J_imul C (K := some) dJ9_floorDiv_7cf53_12 (o := Int.tdiv a b * b) (by unfold ck; rw [if_pos t2]) (fun v hv h => ?_)
    have e := sE h
    subst e
    refine J_iload_n C 0 dJ9_floorDiv_7cf53_13 rfl 1 rfl ?_
    have h : (if Int.tdiv a b * b = a then some () else some ()) = some () := by split <;> rfl
    refine J_icmp_eq C t2 ha (tgt := 21) dJ9_floorDiv_7cf53_14 (by decide) h (fun h c3 => ?_) (fun h c3 => ?_)
    · exact fin (by rw [← tf, if_neg (fun z => z.2 c3)])
    · rw [if_pos ⟨c2, c3⟩] at tf
      have r3 : -2147483648 ≤ a / b := Int.le_ediv_of_mul_le hp (by have := ha.1; omega)
      have r2 : rg (Int.tdiv a b - 1) := ⟨by rw [tf]; exact r3, by have := t1.2; omega⟩
      refine J_iload_n C 2 dJ9_floorDiv_7cf53_17 rfl 0 rfl ?_
      refine J_iconst C dJ9_floorDiv_7cf53_18 ?_
      refine J_isub C (K := some) dJ9_floorDiv_7cf53_19 (o := a / b) (by unfold ck; rw [if_pos r2, tf]) (fun v hv h => ?_)
      have e := sE h
      subst e
      exact J_iret C E hv dJ9_floorDiv_7cf53_20
  · have c2 : ¬ a < 0 := fun z => c1 ((xor_neg ha hb hp).mpr z)
    exact fin (by rw [← tf, if_neg (fun z => c2 z.1)])
theorem fillA_0 {σ : Sg} {i : Nat} {v : Int} : fillA σ i 0 v = σ := by
  funext j k
  unfold fillA setA
  by_cases h : j = i
  · subst h; rw [if_pos rfl, if_neg (by omega)]
  · rw [if_neg h]
theorem fillA_s {σ : Sg} {i k : Nat} {v : Int} : put (fillA σ i k v) i k v = fillA σ i (k + 1) v := by
  funext j m
  unfold put fillA setA
  by_cases h : j = i
  · subst h
    simp only [if_true]
    by_cases h1 : m = (k : Int)
    · rw [if_pos h1, if_pos (by omega)]
    · rw [if_neg h1]
      by_cases h2 : 0 ≤ m ∧ m < (k : Int)
      · rw [if_pos h2, if_pos (by omega)]
      · rw [if_neg h2, if_neg (by omega)]
  · simp only [if_neg h]
theorem wfS_fill {y : Sy} {σ : Sg} {i k : Nat} {v : Int} (h : wfS y σ) (hv : y.2 i = true ∨ rg v) (hi : y.2 i = true ∨ y.2 i = false) : wfS y (fillA σ i k v) := by
  refine wfS_set h ?_
  rcases hi with q | q
  · exact Or.inl q
  · refine Or.inr fun m => ?_
    rcases hv with z | z
    · rw [z] at q; cases q
    · by_cases c : 0 ≤ m ∧ m < (k : Int)
      · rw [if_pos c]; exact z
      · rw [if_neg c]; exact h i m q
theorem tf (b : Bool) : b = true ∨ b = false := by cases b <;> simp
def filI {α : Type} (σ : Sg) (i n : Nat) (v : Int) (K : Sg → Option α) : Option α := K (fillA σ i n v)
def filL {α : Type} (σ : Sg) (i n : Nat) (v : Int) (K : Sg → Option α) : Option α := K (fillA σ i n v)
def filB {α : Type} (σ : Sg) (i n : Nat) (v : Int) (K : Sg → Option α) : Option α := if -128 ≤ v ∧ v ≤ 127 then K (fillA σ i n v) else none
set_option maxHeartbeats 4000000 in
theorem w_fillI {x : Ct} {y : Sy} {g : Gm} {n i : Nat} {v : Int} (C : Cx x y g 4 cJ7_fill_53178 RJ7 0 0) (hA : aI y i n) (hn : n < 100000) (hv : rg v) (σ : Sg) (hσ : wfS y σ) (E : Rx x y g none none (fillA σ i n v) (wfS y (fillA σ i n v))) : ∀ (m k : Nat), k + m = n → J x y g 4 5 [(0, .ref (gad g i)), (1, vi v), (2, vi k), (3, vi n)] [] (fillA σ i k v) := by
  intro m
  induction m with
  | zero =>
    intro k hk
    have hk2 : k = n := by omega
    subst hk2
    have h : (if (k : Int) < (k : Int) then some () else some ()) = some () := by split <;> rfl
    refine J_iload_n C 2 dJ7_fill_53178_5 rfl 2 rfl ?_
    refine J_iload_n C 3 dJ7_fill_53178_6 rfl 3 rfl ?_
    refine J_icmp_ge C ⟨by omega, by omega⟩ ⟨by omega, by omega⟩ (tgt := 20) dJ7_fill_53178_7 (by decide) h (fun h c1 => absurd c1 (by omega)) (fun h c1 => ?_)
    exact J_vret C E (wfS_fill hσ (Or.inr hv) (tf _)) dJ7_fill_53178_20
  | succ m ih =>
    intro k hk
    have h : (if (k : Int) < (n : Int) then some () else some ()) = some () := by split <;> rfl
    refine J_iload_n C 2 dJ7_fill_53178_5 rfl 2 rfl ?_
    refine J_iload_n C 3 dJ7_fill_53178_6 rfl 3 rfl ?_
    refine J_icmp_ge C ⟨by omega, by omega⟩ ⟨by omega, by omega⟩ (tgt := 20) dJ7_fill_53178_7 (by decide) h (fun h c1 => ?_) (fun h c1 => absurd (by omega) c1)
    refine J_aload_n C 0 dJ7_fill_53178_10 rfl 0 rfl ?_
    refine J_iload_n C 2 dJ7_fill_53178_11 rfl 2 rfl ?_
    refine J_iload_n C 1 dJ7_fill_53178_12 rfl 1 rfl ?_
    refine J_iast C hA (wfS_fill hσ (Or.inr hv) (tf _)) hv (K := some) (o := put (fillA σ i k v) i k v) dJ7_fill_53178_13 (by unfold wr; rw [if_pos ⟨by omega, by omega⟩]) (fun s hs h => ?_)
    have e := sE h
    rw [e, fillA_s]
    refine J_iinc C (K := some) (o := ((k + 1 : Nat) : Int)) 2 2 dJ7_fill_53178_14 rfl (by decide) (by unfold ck; rw [if_pos ⟨by omega, by omega⟩]; congr 1) (fun w hw h => ?_)
    have e2 := sE h
    subst e2
    refine J_goto C (tgt := 5) dJ7_fill_53178_17 (by decide) ?_
    exact J_sub [1, 2, 0, 3] rfl (ih (k + 1) (by omega))
set_option maxHeartbeats 4000000 in
theorem m_fillI (l : Launch) (y : Sy) (g : Gm) (hg : gInj y g) {n i : Nat} {v : Int} (hA : aI y i n) (hn : n < 100000) (hv : rg v) (σ : Sg) (hσ : wfS y σ) : CJ l y g yJ7_fill_53178 cJ7_fill_53178 4 none 0 0 [.ref (gad g i), vi v] σ none (fillA σ i n v) (wfS y (fillA σ i n v)) := by
  refine CJ_ofF hg (by decide +kernel) rfl (Nat.le_of_ble_eq_true rfl) (lo := [(0, .ref (gad g i)), (1, vi v)]) rfl (fun x C E => ?_)
  refine J_iconst C dJ7_fill_53178_0 ?_
  refine J_istore_n (lo2 := [(2, vi 0), (0, .ref (gad g i)), (1, vi v)]) C 2 dJ7_fill_53178_1 rfl (by decide) rfl ?_
  refine J_aload_n C 0 dJ7_fill_53178_2 rfl 1 rfl ?_
  refine J_alen C (n := n) (t0 := 0) hA.1 rfl rfl rfl dJ7_fill_53178_3 ?_
  refine J_istore_n (lo2 := [(3, vi n), (2, vi 0), (0, .ref (gad g i)), (1, vi v)]) C 3 dJ7_fill_53178_4 rfl (by decide) rfl ?_
  refine J_sub [2, 3, 1, 0] rfl ?_
  have := w_fillI C hA hn hv σ hσ E n 0 (by omega)
  rw [fillA_0] at this
  exact this
theorem J_fillI {x : Ct} {y : Sy} {g : Gm} {nL nf nlc : Nat} {cc : ByteArray} {own : String} {pc : Nat} {lo : List (Nat × Value)} {st : List Value} {σ : Sg} {α : Type} {o : α} (C : Cx x y g nL cc own nf nlc) {n i idx : Nat} {v : Int} {K : Sg → Option α} (hA : aI y i n) (hσ : wfS y σ) (hv : rg v) (hlk : Cond.methodLink own idx yJ7_fill_53178 ∈ okw) (hfr : 1 ≤ nf) (hlo : 40 ≤ nlc) (d : decode cc pc = .ok (.invokestatic idx, 3)) (h : filI σ i n v K = some o) (kk : ∀ σ', wfS y σ' → K σ' = some o → J x y g nL (pc + 3) lo st σ') (hn : n < 100000 := by decide) (hcat : (st.map fun v => v.category).sum ≤ 8 := by exact Nat.le_of_ble_eq_true rfl) : J x y g nL pc lo (vi v :: .ref (gad g i) :: st) σ := by
  exact J_callS C mw_J7_fill_53178 hlk (m_fillI x.2.1 y g (CxI C) hA hn hv σ hσ) hfr (by omega) rfl rfl hcat d (fun hz => kk _ hz h)
set_option maxHeartbeats 4000000 in
theorem w_fillB {x : Ct} {y : Sy} {g : Gm} {n i : Nat} {v : Int} (C : Cx x y g 4 cJ7_fill_031fb RJ7 0 0) (hA : aB y i n) (hn : n < 100000) (hv : -128 ≤ v ∧ v ≤ 127) (σ : Sg) (hσ : wfS y σ) (E : Rx x y g none none (fillA σ i n v) (wfS y (fillA σ i n v))) : ∀ (m k : Nat), k + m = n → J x y g 4 5 [(0, .ref (gad g i)), (1, vi v), (2, vi k), (3, vi n)] [] (fillA σ i k v) := by
  intro m
  induction m with
  | zero =>
    intro k hk
    have hk2 : k = n := by omega
    subst hk2
    have h : (if (k : Int) < (k : Int) then some () else some ()) = some () := by split <;> rfl
    refine J_iload_n C 2 dJ7_fill_031fb_5 rfl 2 rfl ?_
    refine J_iload_n C 3 dJ7_fill_031fb_6 rfl 3 rfl ?_
    refine J_icmp_ge C ⟨by omega, by omega⟩ ⟨by omega, by omega⟩ (tgt := 20) dJ7_fill_031fb_7 (by decide) h (fun h c1 => absurd c1 (by omega)) (fun h c1 => ?_)
    exact J_vret C E (wfS_fill hσ (Or.inr ⟨by omega, by omega⟩) (tf _)) dJ7_fill_031fb_20
  | succ m ih =>
    intro k hk
    have h : (if (k : Int) < (n : Int) then some () else some ()) = some () := by split <;> rfl
    refine J_iload_n C 2 dJ7_fill_031fb_5 rfl 2 rfl ?_
    refine J_iload_n C 3 dJ7_fill_031fb_6 rfl 3 rfl ?_
    refine J_icmp_ge C ⟨by omega, by omega⟩ ⟨by omega, by omega⟩ (tgt := 20) dJ7_fill_031fb_7 (by decide) h (fun h c1 => ?_) (fun h c1 => absurd (by omega) c1)
    refine J_aload_n C 0 dJ7_fill_031fb_10 rfl 0 rfl ?_
    refine J_iload_n C 2 dJ7_fill_031fb_11 rfl 2 rfl ?_
    refine J_iload_n C 1 dJ7_fill_031fb_12 rfl 1 rfl ?_
    refine J_bast C hA (wfS_fill hσ (Or.inr ⟨by omega, by omega⟩) (tf _)) (K := some) (o := put (fillA σ i k v) i k v) dJ7_fill_031fb_13 (by unfold wrB; rw [if_pos ⟨⟨by omega, by omega⟩, hv⟩]) (fun s hs h => ?_)
    have e := sE h
    rw [e, fillA_s]
    refine J_iinc C (K := some) (o := ((k + 1 : Nat) : Int)) 2 2 dJ7_fill_031fb_14 rfl (by decide) (by unfold ck; rw [if_pos ⟨by omega, by omega⟩]; congr 1) (fun w hw h => ?_)
    have e2 := sE h
    subst e2
    refine J_goto C (tgt := 5) dJ7_fill_031fb_17 (by decide) ?_
    exact J_sub [1, 2, 0, 3] rfl (ih (k + 1) (by omega))
set_option maxHeartbeats 4000000 in
theorem m_fillB (l : Launch) (y : Sy) (g : Gm) (hg : gInj y g) {n i : Nat} {v : Int} (hA : aB y i n) (hn : n < 100000) (hv : -128 ≤ v ∧ v ≤ 127) (σ : Sg) (hσ : wfS y σ) : CJ l y g yJ7_fill_031fb cJ7_fill_031fb 4 none 0 0 [.ref (gad g i), vi v] σ none (fillA σ i n v) (wfS y (fillA σ i n v)) := by
  refine CJ_ofF hg (by decide +kernel) rfl (Nat.le_of_ble_eq_true rfl) (lo := [(0, .ref (gad g i)), (1, vi v)]) rfl (fun x C E => ?_)
  refine J_iconst C dJ7_fill_031fb_0 ?_
  refine J_istore_n (lo2 := [(2, vi 0), (0, .ref (gad g i)), (1, vi v)]) C 2 dJ7_fill_031fb_1 rfl (by decide) rfl ?_
  refine J_aload_n C 0 dJ7_fill_031fb_2 rfl 1 rfl ?_
  refine J_alen C (n := n) (t0 := 2) hA.1 rfl rfl rfl dJ7_fill_031fb_3 ?_
  refine J_istore_n (lo2 := [(3, vi n), (2, vi 0), (0, .ref (gad g i)), (1, vi v)]) C 3 dJ7_fill_031fb_4 rfl (by decide) rfl ?_
  refine J_sub [2, 3, 1, 0] rfl ?_
  have := w_fillB C hA hn hv σ hσ E n 0 (by omega)
  rw [fillA_0] at this
  exact this
theorem J_fillB {x : Ct} {y : Sy} {g : Gm} {nL nf nlc : Nat} {cc : ByteArray} {own : String} {pc : Nat} {lo : List (Nat × Value)} {st : List Value} {σ : Sg} {α : Type} {o : α} (C : Cx x y g nL cc own nf nlc) {n i idx : Nat} {v : Int} {K : Sg → Option α} (hA : aB y i n) (hσ : wfS y σ) (hlk : Cond.methodLink own idx yJ7_fill_031fb ∈ okw) (hfr : 1 ≤ nf) (hlo : 40 ≤ nlc) (d : decode cc pc = .ok (.invokestatic idx, 3)) (h : filB σ i n v K = some o) (kk : ∀ σ', wfS y σ' → K σ' = some o → J x y g nL (pc + 3) lo st σ') (hn : n < 100000 := by decide) (hcat : (st.map fun v => v.category).sum ≤ 8 := by exact Nat.le_of_ble_eq_true rfl) : J x y g nL pc lo (vi v :: .ref (gad g i) :: st) σ := by
  obtain ⟨hv, h⟩ := some_if h
  exact J_callS C mw_J7_fill_031fb hlk (m_fillB x.2.1 y g (CxI C) hA hn hv σ hσ) hfr (by omega) rfl rfl hcat d (fun hz => kk _ hz h)
set_option maxHeartbeats 4000000 in
theorem w_fillL {x : Ct} {y : Sy} {g : Gm} {n i : Nat} {v : Int} (C : Cx x y g 5 cJ7_fill_d0a16 RJ7 0 0) (hA : aL y i n) (hn : n < 100000) (σ : Sg) (hσ : wfS y σ) (E : Rx x y g none none (fillA σ i n v) (wfS y (fillA σ i n v))) : ∀ (m k : Nat), k + m = n → J x y g 5 6 [(0, .ref (gad g i)), (1, vl v), (3, vi k), (4, vi n)] [] (fillA σ i k v) := by
  intro m
  induction m with
  | zero =>
    intro k hk
    have hk2 : k = n := by omega
    subst hk2
    have h : (if (k : Int) < (k : Int) then some () else some ()) = some () := by split <;> rfl
    refine J_iload_n C 3 dJ7_fill_d0a16_6 rfl 2 rfl ?_
    refine J_iload C 4 dJ7_fill_d0a16_7 3 rfl ?_
    refine J_icmp_ge C ⟨by omega, by omega⟩ ⟨by omega, by omega⟩ (tgt := 22) dJ7_fill_d0a16_9 (by decide) h (fun h c1 => absurd c1 (by omega)) (fun h c1 => ?_)
    exact J_vret C E (wfS_fill hσ (Or.inl hA.2.2) (tf _)) dJ7_fill_d0a16_22
  | succ m ih =>
    intro k hk
    have h : (if (k : Int) < (n : Int) then some () else some ()) = some () := by split <;> rfl
    refine J_iload_n C 3 dJ7_fill_d0a16_6 rfl 2 rfl ?_
    refine J_iload C 4 dJ7_fill_d0a16_7 3 rfl ?_
    refine J_icmp_ge C ⟨by omega, by omega⟩ ⟨by omega, by omega⟩ (tgt := 22) dJ7_fill_d0a16_9 (by decide) h (fun h c1 => ?_) (fun h c1 => absurd (by omega) c1)
    refine J_aload_n C 0 dJ7_fill_d0a16_12 rfl 0 rfl ?_
    refine J_iload_n C 3 dJ7_fill_d0a16_13 rfl 2 rfl ?_
    refine J_lload_n C 1 dJ7_fill_d0a16_14 rfl 1 rfl ?_
    refine J_last C hA (wfS_fill hσ (Or.inl hA.2.2) (tf _)) (K := some) (o := put (fillA σ i k v) i k v) dJ7_fill_d0a16_15 (by unfold wr; rw [if_pos ⟨by omega, by omega⟩]) (fun s hs h => ?_)
    have e := sE h
    rw [e, fillA_s]
    refine J_iinc C (K := some) (o := ((k + 1 : Nat) : Int)) 3 2 dJ7_fill_d0a16_16 rfl (by decide) (by unfold ck; rw [if_pos ⟨by omega, by omega⟩]; congr 1) (fun w hw h => ?_)
    have e2 := sE h
    subst e2
    refine J_goto C (tgt := 6) dJ7_fill_d0a16_19 (by decide) ?_
    exact J_sub [1, 2, 0, 3] rfl (ih (k + 1) (by omega))
set_option maxHeartbeats 4000000 in
theorem m_fillL (l : Launch) (y : Sy) (g : Gm) (hg : gInj y g) {n i : Nat} {v : Int} (hA : aL y i n) (hn : n < 100000) (σ : Sg) (hσ : wfS y σ) : CJ l y g yJ7_fill_d0a16 cJ7_fill_d0a16 5 none 0 0 [.ref (gad g i), vl v] σ none (fillA σ i n v) (wfS y (fillA σ i n v)) := by
  refine CJ_ofF hg (by decide +kernel) rfl (Nat.le_of_ble_eq_true rfl) (lo := [(0, .ref (gad g i)), (1, vl v)]) rfl (fun x C E => ?_)
  refine J_iconst C dJ7_fill_d0a16_0 ?_
  refine J_istore_n (lo2 := [(3, vi 0), (0, .ref (gad g i)), (1, vl v)]) C 3 dJ7_fill_d0a16_1 rfl (by decide) rfl ?_
  refine J_aload_n C 0 dJ7_fill_d0a16_2 rfl 1 rfl ?_
  refine J_alen C (n := n) (t0 := 1) hA.1 rfl rfl rfl dJ7_fill_d0a16_3 ?_
  refine J_istore (lo2 := [(4, vi n), (3, vi 0), (0, .ref (gad g i)), (1, vl v)]) C 4 dJ7_fill_d0a16_4 (by decide) rfl ?_
  refine J_sub [2, 3, 1, 0] rfl ?_
  have := w_fillL C hA hn σ hσ E n 0 (by omega)
  rw [fillA_0] at this
  exact this
theorem J_fillL {x : Ct} {y : Sy} {g : Gm} {nL nf nlc : Nat} {cc : ByteArray} {own : String} {pc : Nat} {lo : List (Nat × Value)} {st : List Value} {σ : Sg} {α : Type} {o : α} (C : Cx x y g nL cc own nf nlc) {n i idx : Nat} {v : Int} {K : Sg → Option α} (hA : aL y i n) (hσ : wfS y σ) (hlk : Cond.methodLink own idx yJ7_fill_d0a16 ∈ okw) (hfr : 1 ≤ nf) (hlo : 40 ≤ nlc) (d : decode cc pc = .ok (.invokestatic idx, 3)) (h : filL σ i n v K = some o) (kk : ∀ σ', wfS y σ' → K σ' = some o → J x y g nL (pc + 3) lo st σ') (hn : n < 100000 := by decide) (hcat : (st.map fun v => v.category).sum ≤ 8 := by exact Nat.le_of_ble_eq_true rfl) : J x y g nL pc lo (vl v :: .ref (gad g i) :: st) σ := by
  exact J_callS C mw_J7_fill_d0a16 hlk (m_fillL x.2.1 y g (CxI C) hA hn σ hσ) hfr (by omega) rfl rfl hcat d (fun hz => kk _ hz h)
theorem J_floorDiv {x : Ct} {y : Sy} {g : Gm} {nL nf nlc : Nat} {cc : ByteArray} {own : String} {pc : Nat} {lo : List (Nat × Value)} {st : List Value} {σ : Sg} {α : Type} {o : α} (C : Cx x y g nL cc own nf nlc) {a b : Int} {idx : Nat} {K : Int → Option α} (ha : rg a) (hb : rg b) (hlk : Cond.methodLink own idx yJ9_floorDiv_7cf53 ∈ okw) (hfr : 1 ≤ nf) (hlo : 40 ≤ nlc) (d : decode cc pc = .ok (.invokestatic idx, 3)) (h : fdv a b K = some o) (kk : ∀ v, rg v → K v = some o → J x y g nL (pc + 3) lo (vi v :: st) σ) (hcat : (st.map fun v => v.category).sum ≤ 8 := by exact Nat.le_of_ble_eq_true rfl) : J x y g nL pc lo (vi b :: vi a :: st) σ := by
  obtain ⟨hp, h⟩ := some_if h
  exact J_callS C mw_J9_floorDiv_7cf53 hlk (m_floorDiv x.2.1 y g (CxI C) a b ha hb hp σ) hfr (by omega) rfl rfl hcat d (fun hz => kk _ hz h)
def tpO (d : Int) : Nat := 59 + 7 * d.toNat
theorem tpA {d : Int} (h0 : 0 ≤ d) (h1 : d < 6) : isTape (tpO d) := by
  have : d.toNat = 0 ∨ d.toNat = 1 ∨ d.toNat = 2 ∨ d.toNat = 3 ∨ d.toNat = 4 ∨ d.toNat = 5 := by omega
  unfold tpO
  rcases this with h | h | h | h | h | h <;> rw [h]
  · exact tape_59
  · exact tape_66
  · exact tape_73
  · exact tape_80
  · exact tape_87
  · exact tape_94
set_option maxHeartbeats 4000000 in
theorem m_X11_tapeAt1 (l : Launch) (g : Gm) (hg : gInj yC g) (x1 : Int) (h1 : rg x1) (σ : Sg) (hσ : wfS yC σ) (hc : 0 ≤ x1 ∧ x1 < 6) : CJ l yC g yX11_tapeAt cX11_tapeAt 2 (some (.object "LightScript$Tape")) 0 0 [.ref (gad g 0), vi x1] σ (some (.ref (gad g (tpO x1)))) σ True := by
  refine CJ_of hg (by decide) rfl (Nat.le_of_ble_eq_true rfl) (lo := [(0, .ref (gad g 0)), (1, vi x1)]) rfl (fun x C E => ?_)
  have h : (if x1 < 0 then some () else some ()) = some () := by split <;> rfl
  have h9 : (if x1 < 6 then some () else some ()) = some () := by split <;> rfl
  refine J_iload_n C 1 dX11_tapeAt_0 rfl 1 rfl ?_
  refine J_if_lt C h1 (tgt := 19) dX11_tapeAt_1 (by decide) h (fun h c5 => absurd c5 (by omega)) (fun h c5 => ?_)
  refine J_iload_n C 1 dX11_tapeAt_4 rfl 1 rfl ?_
  refine J_bipush C dX11_tapeAt_5 (bp8 (by decide) (by decide)) ?_
  refine J_icmp_ge C h1 rl_6 (tgt := 19) dX11_tapeAt_7 (by decide) h9 (fun h c5 => ?_) (fun h c5 => absurd hc.2 c5)
  refine J_aload_n C 0 dX11_tapeAt_10 rfl 0 rfl ?_
  refine J_getR C fl_RX11_75 oC_0 rfl dX11_tapeAt_11 ?_
  refine J_iload_n C 1 dX11_tapeAt_14 rfl 1 rfl ?_
  refine J_aaldT C (K := fun _ => some ()) (o := ()) oC_58 (by decide) dX11_tapeAt_15 (if_pos (show 0 ≤ x1 ∧ x1 < ((6 : Nat) : Int) from ⟨hc.1, by omega⟩)) (fun _ _ _ => ?_)
  refine J_goto C (tgt := 20) dX11_tapeAt_16 (by decide) ?_
  exact J_aret C (Or.inr ⟨_, rfl⟩) E trivial dX11_tapeAt_20
set_option maxHeartbeats 4000000 in
theorem m_X11_tapeAt0 (l : Launch) (g : Gm) (hg : gInj yC g) (x1 : Int) (h1 : rg x1) (σ : Sg) (hσ : wfS yC σ) (hc : ¬ (0 ≤ x1 ∧ x1 < 6)) : CJ l yC g yX11_tapeAt cX11_tapeAt 2 (some (.object "LightScript$Tape")) 0 0 [.ref (gad g 0), vi x1] σ (some .null) σ True := by
  refine CJ_of hg (by decide) rfl (Nat.le_of_ble_eq_true rfl) (lo := [(0, .ref (gad g 0)), (1, vi x1)]) rfl (fun x C E => ?_)
  have h : (if x1 < 0 then some () else some ()) = some () := by split <;> rfl
  have h9 : (if x1 < 6 then some () else some ()) = some () := by split <;> rfl
  have fin : J x yC g 2 19 [(0, .ref (gad g 0)), (1, vi x1)] [] σ := by
    refine J_null C dX11_tapeAt_19 ?_
    exact J_aret C (Or.inl rfl) E trivial dX11_tapeAt_20
  refine J_iload_n C 1 dX11_tapeAt_0 rfl 1 rfl ?_
  refine J_if_lt C h1 (tgt := 19) dX11_tapeAt_1 (by decide) h (fun h c5 => fin) (fun h c5 => ?_)
  refine J_iload_n C 1 dX11_tapeAt_4 rfl 1 rfl ?_
  refine J_bipush C dX11_tapeAt_5 (bp8 (by decide) (by decide)) ?_
  exact J_icmp_ge C h1 rl_6 (tgt := 19) dX11_tapeAt_7 (by decide) h9 (fun h c5 => absurd ⟨by omega, c5⟩ hc) (fun h c5 => fin)
