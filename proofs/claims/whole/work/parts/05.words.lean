
theorem in_places {ws : List Cond} (ps : List Nat) (h : ws.map some = ps.map (fun i => lw_tbl[i]?)) (hg : ws.all goodWord = true) : ∀ w ∈ ws, w ∈ okw := by
  intro w hw
  have h1 : some w ∈ ws.map some := List.mem_map.mpr ⟨w, hw, rfl⟩
  rw [h] at h1
  obtain ⟨i, -, hi⟩ := List.mem_map.mp h1
  exact okw_in (List.mem_of_getElem? hi) (List.all_eq_true.mp hg w hw)
theorem bp8 {n : Int} (h1 : -128 ≤ n) (h2 : n ≤ 127) : (Int8.ofInt n).toInt32 = Int32.ofInt n := Int8.toInt32_ofInt h1 h2
theorem bp16 {n : Int} (h1 : -32768 ≤ n) (h2 : n ≤ 32767) : (Int16.ofInt n).toInt32 = Int32.ofInt n := Int16.toInt32_ofInt h1 h2
theorem rg01 {v : Int} (h : v = 0 ∨ v = 1) : rg v := by rcases h with rfl | rfl <;> exact ⟨by decide, by decide⟩
theorem elL {A B C : Type} {f : A → C} {k : B → C} {a : A} {o : C} (h : Sum.elim f k (.inl a) = o) : f a = o := h
theorem elR {A B C : Type} {f : A → C} {k : B → C} {a : B} {o : C} (h : Sum.elim f k (.inr a) = o) : k a = o := h
theorem CxI {x : Ct} {y : Sy} {g : Gm} {nL nf nlc : Nat} {cc : ByteArray} {own : String} (C : Cx x y g nL cc own nf nlc) : gInj y g := by
  obtain ⟨p, l, e, R, s, m, args, below, meth, c, Q⟩ := x
  exact C.2.2.2.2.2.2.1
theorem nest_in {q : String × Nat × MethodName × String} (i : Nat) (h : nestL[i]? = some q) : q ∈ nestL := List.mem_of_getElem? h
section JN
variable {x : Ct} {y : Sy} {g : Gm} {nL nf nlc : Nat} {cc : ByteArray} {own : String} {pc : Nat} {lo : List (Nat × Value)} {st : List Value} {σ : Sg} {α : Type} {o : α}
theorem J_aload_nN (C : Cx x y g nL cc own nf nlc) {f : Fin 4} (i : Nat) (d : decode cc pc = .ok (.aload_n f, 1)) (hf9 : (f : Nat) = i) (j : Nat) (hj : lo[j]? = some (i, .null)) (k : J x y g nL (pc + 1) lo (.null :: st) σ) : J x y g nL pc lo st σ := by
  obtain ⟨p, l, e, R, s, m, args, below, meth, c, Q⟩ := x
  obtain ⟨hx, hb, hml, hown, hts, hK, hg, hNf, hNl, hLk, hSt⟩ := C
  intro H locs ls hP hS hl
  exact lv_aload_nN hx hb d hf9 (lv_at hl j hj) (k H locs ls hP hS hl)
theorem J_aloadN (C : Cx x y g nL cc own nf nlc) (i : Nat) (d : decode cc pc = .ok (.aload i, 2)) (j : Nat) (hj : lo[j]? = some (i, .null)) (k : J x y g nL (pc + 2) lo (.null :: st) σ) : J x y g nL pc lo st σ := by
  obtain ⟨p, l, e, R, s, m, args, below, meth, c, Q⟩ := x
  obtain ⟨hx, hb, hml, hown, hts, hK, hg, hNf, hNl, hLk, hSt⟩ := C
  intro H locs ls hP hS hl
  exact lv_aloadN hx hb d (lv_at hl j hj) (k H locs ls hP hS hl)
theorem J_astore_nN (C : Cx x y g nL cc own nf nlc) {f : Fin 4} {lo2 : List (Nat × Value)} (i : Nat) (d : decode cc pc = .ok (.astore_n f, 1)) (hf9 : (f : Nat) = i) (hi : i < nL) (hl2 : (i, Value.null) :: lo.filter (fun q => !(q.1 == i) && !(q.1 + 1 == i && q.2.category == 2)) = lo2) (k : J x y g nL (pc + 1) lo2 st σ) : J x y g nL pc lo (.null :: st) σ := by
  obtain ⟨p, l, e, R, s, m, args, below, meth, c, Q⟩ := x
  obtain ⟨hx, hb, hml, hown, hts, hK, hg, hNf, hNl, hLk, hSt⟩ := C
  intro H locs ls hP hS hl
  exact lv_astore_nN hx hb d hf9 hl hi hl2 (fun ls2 hl3 => k H locs ls2 hP hS hl3)
theorem J_astoreN (C : Cx x y g nL cc own nf nlc) {lo2 : List (Nat × Value)} (i : Nat) (d : decode cc pc = .ok (.astore i, 2)) (hi : i < nL) (hl2 : (i, Value.null) :: lo.filter (fun q => !(q.1 == i) && !(q.1 + 1 == i && q.2.category == 2)) = lo2) (k : J x y g nL (pc + 2) lo2 st σ) : J x y g nL pc lo (.null :: st) σ := by
  obtain ⟨p, l, e, R, s, m, args, below, meth, c, Q⟩ := x
  obtain ⟨hx, hb, hml, hown, hts, hK, hg, hNf, hNl, hLk, hSt⟩ := C
  intro H locs ls hP hS hl
  exact lv_astoreN hx hb d hl hi hl2 (fun ls2 hl3 => k H locs ls2 hP hS hl3)
/-- a division whose dividend may be below 0 -/
theorem J_idivT (C : Cx x y g nL cc own nf nlc) {a b : Int} (ha : rg a) (hb9 : rg b) (hp : 0 < b) (d : decode cc pc = .ok (.idiv, 1)) (k : J x y g nL (pc + 1) lo (vi (Int.tdiv a b) :: st) σ) : J x y g nL pc lo (vi b :: vi a :: st) σ := by
  obtain ⟨p, l, e, R, s, m, args, below, meth, c, Q⟩ := x
  obtain ⟨hx, hb, hml, hown, hts, hK, hg, hNf, hNl, hLk, hSt⟩ := C
  intro H locs ls hP hS hl
  have hk := k H locs ls hP hS hl
  unfold vi at hk
  rw [Int32.ofInt_tdiv ha.1 ha.2 hb9.1 hb9.2] at hk
  refine lv_idiv hx hb d (fun q => ?_) hk
  have q2 := (ofI_eq hb9 (y := 0) ⟨by decide, by decide⟩).mp q
  omega
end JN
def yC : Sy := ([cO 11 [.inl 1, .inl 19, .inl 24, .inl 32, .inl 40, .inl 44, .inl 48, .inl 54, .inl 58, .inr 9, .inr 10], cO 8 [.inl 2, .inl 3, .inl 4, .inl 5, .inl 6, .inl 13], cB 1024, cI 6, cI 6, cI 6, cO 2 [.inl 7, .inl 8, .inl 9, .inl 10, .inl 11, .inl 12], cI 12, cI 12, cI 12, cI 12, cI 12, cI 12, cO 0 [.inl 14, .inl 15, .inl 16, .inl 17, .inl 18], cI 20, cI 20, cZ 96, cI 96, cI 96, cO 1 [.inl 20, .inl 21, .inl 22, .inl 23, .inr 4], cI 120, cI 120, cI 120, cI 120, cO 6 [.inl 1, .inl 25, .inl 30, .inl 31, .inr 4, .inr 5, .inr 6], cO 1 [.inl 26, .inl 27, .inl 28, .inl 29, .inr 4], cI 120, cI 120, cI 120, cI 120, cI 3, cI 3, cO 3 [.inl 1, .inl 19, .inl 33, .inl 34, .inl 35, .inl 36, .inl 37, .inl 38, .inl 39, .inr 9, .inr 10, .inr 11], cI 8, cZ 48, cI 8, cI 6, cI 6, cI 8, cI 8, cO 4 [.inl 41, .inl 42, .inl 43, .inr 3], cI 20, cI 20, cI 20, cO 5 [.inl 45, .inl 46, .inl 47, .inr 3, .inr 4], cI 160, cI 160, cI 8, cO 7 [.inl 1, .inl 19, .inl 40, .inl 44, .inl 49, .inl 50, .inl 51, .inl 52, .inl 53, .inr 9], cI 120, cI 120, cI 120, cI 120, cI 120, cO 10 [.inl 1, .inl 19, .inl 48, .inl 55, .inl 56, .inl 57, .inr 6], cI 60, cI 60, cZ 120, cT 6 (fun k => 59 + 7 * k), cO 9 [.inr 0, .inr 1, .inl 60, .inl 61], cL 100, cO 1 [.inl 62, .inl 63, .inl 64, .inl 65, .inr 4], cI 120, cI 120, cI 120, cI 120, cO 9 [.inr 0, .inr 1, .inl 67, .inl 68], cL 100, cO 1 [.inl 69, .inl 70, .inl 71, .inl 72, .inr 4], cI 120, cI 120, cI 120, cI 120, cO 9 [.inr 0, .inr 1, .inl 74, .inl 75], cL 100, cO 1 [.inl 76, .inl 77, .inl 78, .inl 79, .inr 4], cI 120, cI 120, cI 120, cI 120, cO 9 [.inr 0, .inr 1, .inl 81, .inl 82], cL 100, cO 1 [.inl 83, .inl 84, .inl 85, .inl 86, .inr 4], cI 120, cI 120, cI 120, cI 120, cO 9 [.inr 0, .inr 1, .inl 88, .inl 89], cL 100, cO 1 [.inl 90, .inl 91, .inl 92, .inl 93, .inr 4], cI 120, cI 120, cI 120, cI 120, cO 9 [.inr 0, .inr 1, .inl 95, .inl 96], cL 100, cO 1 [.inl 97, .inl 98, .inl 99, .inl 100, .inr 4], cI 120, cI 120, cI 120, cI 120], fun i => [60, 67, 74, 81, 88, 95].contains i)
def yR : Sy := ([cO 12 [.inl 1, .inl 2, .inl 3, .inl 4, .inl 5, .inl 6, .inl 7, .inl 8, .inl 9, .inl 10, .inl 11, .inl 12, .inl 13, .inl 14, .inl 15, .inl 16, .inl 17, .inl 18, .inl 19, .inl 20, .inl 21, .inl 22, .inl 23, .inl 24, .inl 25, .inl 26, .inl 27, .inl 28, .inl 29, .inl 30, .inl 31, .inr 31, .inr 32, .inr 33, .inr 34, .inr 35, .inr 36, .inr 37, .inr 38, .inr 39, .inr 40, .inl 32, .inl 33, .inl 34, .inl 35, .inl 36, .inl 37, .inr 47, .inr 48, .inl 38, .inl 39, .inl 40, .inl 41, .inl 42, .inr 54, .inl 43, .inl 44], cI 1024, cI 12, cI 12, cI 12, cI 12, cI 12, cI 12, cI 6, cI 6, cI 6, cI 20, cI 20, cI 120, cI 120, cI 120, cI 120, cI 120, cI 120, cI 120, cI 120, cI 120, cI 20, cI 20, cI 20, cI 800, cI 60, cI 60, cI 6, cI 6, cI 2880, cL 600, cI 3, cI 3, cI 120, cI 8, cI 8, cI 6, cZ 48, cZ 9, cI 120, cI 120, cI 120, cI 60, cZ 60], fun i => [31].contains i)
def isCues (o : Nat) : Prop := yC.1[o]? = some (cO 1 [.inl (o + 1), .inl (o + 2), .inl (o + 3), .inl (o + 4), .inr 4]) ∧ yC.2 o = false ∧ aI yC (o + 1) 120 ∧ aI yC (o + 2) 120 ∧ aI yC (o + 3) 120 ∧ aI yC (o + 4) 120
def isTape (t : Nat) : Prop := yC.1[t]? = some (cO 9 [.inr 0, .inr 1, .inl (t + 1), .inl (t + 2)]) ∧ yC.2 t = false ∧ aL yC (t + 1) 100 ∧ isCues (t + 2)
theorem oC_0 : yC.1[0]? = some (cO 11 [.inl 1, .inl 19, .inl 24, .inl 32, .inl 40, .inl 44, .inl 48, .inl 54, .inl 58, .inr 9, .inr 10]) := rfl
theorem lC_0 : yC.2 0 = false := rfl
theorem oC_1 : yC.1[1]? = some (cO 8 [.inl 2, .inl 3, .inl 4, .inl 5, .inl 6, .inl 13]) := rfl
theorem lC_1 : yC.2 1 = false := rfl
theorem aC_2 : aB yC 2 1024 := ⟨rfl, by decide, rfl⟩
theorem aC_3 : aI yC 3 6 := ⟨rfl, by decide, rfl⟩
theorem aC_4 : aI yC 4 6 := ⟨rfl, by decide, rfl⟩
theorem aC_5 : aI yC 5 6 := ⟨rfl, by decide, rfl⟩
theorem oC_6 : yC.1[6]? = some (cO 2 [.inl 7, .inl 8, .inl 9, .inl 10, .inl 11, .inl 12]) := rfl
theorem lC_6 : yC.2 6 = false := rfl
theorem aC_7 : aI yC 7 12 := ⟨rfl, by decide, rfl⟩
theorem aC_8 : aI yC 8 12 := ⟨rfl, by decide, rfl⟩
theorem aC_9 : aI yC 9 12 := ⟨rfl, by decide, rfl⟩
theorem aC_10 : aI yC 10 12 := ⟨rfl, by decide, rfl⟩
theorem aC_11 : aI yC 11 12 := ⟨rfl, by decide, rfl⟩
theorem aC_12 : aI yC 12 12 := ⟨rfl, by decide, rfl⟩
theorem oC_13 : yC.1[13]? = some (cO 0 [.inl 14, .inl 15, .inl 16, .inl 17, .inl 18]) := rfl
theorem lC_13 : yC.2 13 = false := rfl
theorem aC_14 : aI yC 14 20 := ⟨rfl, by decide, rfl⟩
theorem aC_15 : aI yC 15 20 := ⟨rfl, by decide, rfl⟩
theorem aC_16 : aZ yC 16 96 := ⟨rfl, by decide, rfl⟩
theorem aC_17 : aI yC 17 96 := ⟨rfl, by decide, rfl⟩
theorem aC_18 : aI yC 18 96 := ⟨rfl, by decide, rfl⟩
theorem oC_19 : yC.1[19]? = some (cO 1 [.inl 20, .inl 21, .inl 22, .inl 23, .inr 4]) := rfl
theorem lC_19 : yC.2 19 = false := rfl
theorem aC_20 : aI yC 20 120 := ⟨rfl, by decide, rfl⟩
theorem aC_21 : aI yC 21 120 := ⟨rfl, by decide, rfl⟩
theorem aC_22 : aI yC 22 120 := ⟨rfl, by decide, rfl⟩
theorem aC_23 : aI yC 23 120 := ⟨rfl, by decide, rfl⟩
theorem oC_24 : yC.1[24]? = some (cO 6 [.inl 1, .inl 25, .inl 30, .inl 31, .inr 4, .inr 5, .inr 6]) := rfl
theorem lC_24 : yC.2 24 = false := rfl
theorem oC_25 : yC.1[25]? = some (cO 1 [.inl 26, .inl 27, .inl 28, .inl 29, .inr 4]) := rfl
theorem lC_25 : yC.2 25 = false := rfl
theorem aC_26 : aI yC 26 120 := ⟨rfl, by decide, rfl⟩
theorem aC_27 : aI yC 27 120 := ⟨rfl, by decide, rfl⟩
theorem aC_28 : aI yC 28 120 := ⟨rfl, by decide, rfl⟩
theorem aC_29 : aI yC 29 120 := ⟨rfl, by decide, rfl⟩
theorem aC_30 : aI yC 30 3 := ⟨rfl, by decide, rfl⟩
theorem aC_31 : aI yC 31 3 := ⟨rfl, by decide, rfl⟩
theorem oC_32 : yC.1[32]? = some (cO 3 [.inl 1, .inl 19, .inl 33, .inl 34, .inl 35, .inl 36, .inl 37, .inl 38, .inl 39, .inr 9, .inr 10, .inr 11]) := rfl
theorem lC_32 : yC.2 32 = false := rfl
theorem aC_33 : aI yC 33 8 := ⟨rfl, by decide, rfl⟩
theorem aC_34 : aZ yC 34 48 := ⟨rfl, by decide, rfl⟩
theorem aC_35 : aI yC 35 8 := ⟨rfl, by decide, rfl⟩
theorem aC_36 : aI yC 36 6 := ⟨rfl, by decide, rfl⟩
theorem aC_37 : aI yC 37 6 := ⟨rfl, by decide, rfl⟩
theorem aC_38 : aI yC 38 8 := ⟨rfl, by decide, rfl⟩
theorem aC_39 : aI yC 39 8 := ⟨rfl, by decide, rfl⟩
theorem oC_40 : yC.1[40]? = some (cO 4 [.inl 41, .inl 42, .inl 43, .inr 3]) := rfl
theorem lC_40 : yC.2 40 = false := rfl
theorem aC_41 : aI yC 41 20 := ⟨rfl, by decide, rfl⟩
theorem aC_42 : aI yC 42 20 := ⟨rfl, by decide, rfl⟩
theorem aC_43 : aI yC 43 20 := ⟨rfl, by decide, rfl⟩
theorem oC_44 : yC.1[44]? = some (cO 5 [.inl 45, .inl 46, .inl 47, .inr 3, .inr 4]) := rfl
theorem lC_44 : yC.2 44 = false := rfl
theorem aC_45 : aI yC 45 160 := ⟨rfl, by decide, rfl⟩
theorem aC_46 : aI yC 46 160 := ⟨rfl, by decide, rfl⟩
theorem aC_47 : aI yC 47 8 := ⟨rfl, by decide, rfl⟩
theorem oC_48 : yC.1[48]? = some (cO 7 [.inl 1, .inl 19, .inl 40, .inl 44, .inl 49, .inl 50, .inl 51, .inl 52, .inl 53, .inr 9]) := rfl
theorem lC_48 : yC.2 48 = false := rfl
theorem aC_49 : aI yC 49 120 := ⟨rfl, by decide, rfl⟩
theorem aC_50 : aI yC 50 120 := ⟨rfl, by decide, rfl⟩
theorem aC_51 : aI yC 51 120 := ⟨rfl, by decide, rfl⟩
theorem aC_52 : aI yC 52 120 := ⟨rfl, by decide, rfl⟩
theorem aC_53 : aI yC 53 120 := ⟨rfl, by decide, rfl⟩
theorem oC_54 : yC.1[54]? = some (cO 10 [.inl 1, .inl 19, .inl 48, .inl 55, .inl 56, .inl 57, .inr 6]) := rfl
theorem lC_54 : yC.2 54 = false := rfl
theorem aC_55 : aI yC 55 60 := ⟨rfl, by decide, rfl⟩
theorem aC_56 : aI yC 56 60 := ⟨rfl, by decide, rfl⟩
theorem aC_57 : aZ yC 57 120 := ⟨rfl, by decide, rfl⟩
theorem oC_58 : yC.1[58]? = some (cT 6 (fun k => 59 + 7 * k)) := rfl
theorem lC_58 : yC.2 58 = false := rfl
theorem oC_59 : yC.1[59]? = some (cO 9 [.inr 0, .inr 1, .inl 60, .inl 61]) := rfl
theorem lC_59 : yC.2 59 = false := rfl
theorem aC_60 : aL yC 60 100 := ⟨rfl, by decide, rfl⟩
theorem oC_61 : yC.1[61]? = some (cO 1 [.inl 62, .inl 63, .inl 64, .inl 65, .inr 4]) := rfl
theorem lC_61 : yC.2 61 = false := rfl
theorem aC_62 : aI yC 62 120 := ⟨rfl, by decide, rfl⟩
theorem aC_63 : aI yC 63 120 := ⟨rfl, by decide, rfl⟩
theorem aC_64 : aI yC 64 120 := ⟨rfl, by decide, rfl⟩
theorem aC_65 : aI yC 65 120 := ⟨rfl, by decide, rfl⟩
theorem oC_66 : yC.1[66]? = some (cO 9 [.inr 0, .inr 1, .inl 67, .inl 68]) := rfl
theorem lC_66 : yC.2 66 = false := rfl
theorem aC_67 : aL yC 67 100 := ⟨rfl, by decide, rfl⟩
theorem oC_68 : yC.1[68]? = some (cO 1 [.inl 69, .inl 70, .inl 71, .inl 72, .inr 4]) := rfl
theorem lC_68 : yC.2 68 = false := rfl
theorem aC_69 : aI yC 69 120 := ⟨rfl, by decide, rfl⟩
theorem aC_70 : aI yC 70 120 := ⟨rfl, by decide, rfl⟩
theorem aC_71 : aI yC 71 120 := ⟨rfl, by decide, rfl⟩
theorem aC_72 : aI yC 72 120 := ⟨rfl, by decide, rfl⟩
theorem oC_73 : yC.1[73]? = some (cO 9 [.inr 0, .inr 1, .inl 74, .inl 75]) := rfl
theorem lC_73 : yC.2 73 = false := rfl
theorem aC_74 : aL yC 74 100 := ⟨rfl, by decide, rfl⟩
theorem oC_75 : yC.1[75]? = some (cO 1 [.inl 76, .inl 77, .inl 78, .inl 79, .inr 4]) := rfl
theorem lC_75 : yC.2 75 = false := rfl
theorem aC_76 : aI yC 76 120 := ⟨rfl, by decide, rfl⟩
theorem aC_77 : aI yC 77 120 := ⟨rfl, by decide, rfl⟩
theorem aC_78 : aI yC 78 120 := ⟨rfl, by decide, rfl⟩
theorem aC_79 : aI yC 79 120 := ⟨rfl, by decide, rfl⟩
theorem oC_80 : yC.1[80]? = some (cO 9 [.inr 0, .inr 1, .inl 81, .inl 82]) := rfl
theorem lC_80 : yC.2 80 = false := rfl
theorem aC_81 : aL yC 81 100 := ⟨rfl, by decide, rfl⟩
theorem oC_82 : yC.1[82]? = some (cO 1 [.inl 83, .inl 84, .inl 85, .inl 86, .inr 4]) := rfl
theorem lC_82 : yC.2 82 = false := rfl
theorem aC_83 : aI yC 83 120 := ⟨rfl, by decide, rfl⟩
theorem aC_84 : aI yC 84 120 := ⟨rfl, by decide, rfl⟩
theorem aC_85 : aI yC 85 120 := ⟨rfl, by decide, rfl⟩
theorem aC_86 : aI yC 86 120 := ⟨rfl, by decide, rfl⟩
theorem oC_87 : yC.1[87]? = some (cO 9 [.inr 0, .inr 1, .inl 88, .inl 89]) := rfl
theorem lC_87 : yC.2 87 = false := rfl
theorem aC_88 : aL yC 88 100 := ⟨rfl, by decide, rfl⟩
theorem oC_89 : yC.1[89]? = some (cO 1 [.inl 90, .inl 91, .inl 92, .inl 93, .inr 4]) := rfl
theorem lC_89 : yC.2 89 = false := rfl
theorem aC_90 : aI yC 90 120 := ⟨rfl, by decide, rfl⟩
theorem aC_91 : aI yC 91 120 := ⟨rfl, by decide, rfl⟩
theorem aC_92 : aI yC 92 120 := ⟨rfl, by decide, rfl⟩
theorem aC_93 : aI yC 93 120 := ⟨rfl, by decide, rfl⟩
theorem oC_94 : yC.1[94]? = some (cO 9 [.inr 0, .inr 1, .inl 95, .inl 96]) := rfl
theorem lC_94 : yC.2 94 = false := rfl
theorem aC_95 : aL yC 95 100 := ⟨rfl, by decide, rfl⟩
theorem oC_96 : yC.1[96]? = some (cO 1 [.inl 97, .inl 98, .inl 99, .inl 100, .inr 4]) := rfl
theorem lC_96 : yC.2 96 = false := rfl
theorem aC_97 : aI yC 97 120 := ⟨rfl, by decide, rfl⟩
theorem aC_98 : aI yC 98 120 := ⟨rfl, by decide, rfl⟩
theorem aC_99 : aI yC 99 120 := ⟨rfl, by decide, rfl⟩
theorem aC_100 : aI yC 100 120 := ⟨rfl, by decide, rfl⟩
theorem oR_0 : yR.1[0]? = some (cO 12 [.inl 1, .inl 2, .inl 3, .inl 4, .inl 5, .inl 6, .inl 7, .inl 8, .inl 9, .inl 10, .inl 11, .inl 12, .inl 13, .inl 14, .inl 15, .inl 16, .inl 17, .inl 18, .inl 19, .inl 20, .inl 21, .inl 22, .inl 23, .inl 24, .inl 25, .inl 26, .inl 27, .inl 28, .inl 29, .inl 30, .inl 31, .inr 31, .inr 32, .inr 33, .inr 34, .inr 35, .inr 36, .inr 37, .inr 38, .inr 39, .inr 40, .inl 32, .inl 33, .inl 34, .inl 35, .inl 36, .inl 37, .inr 47, .inr 48, .inl 38, .inl 39, .inl 40, .inl 41, .inl 42, .inr 54, .inl 43, .inl 44]) := rfl
theorem lR_0 : yR.2 0 = false := rfl
theorem aR_1 : aI yR 1 1024 := ⟨rfl, by decide, rfl⟩
theorem aR_2 : aI yR 2 12 := ⟨rfl, by decide, rfl⟩
theorem aR_3 : aI yR 3 12 := ⟨rfl, by decide, rfl⟩
theorem aR_4 : aI yR 4 12 := ⟨rfl, by decide, rfl⟩
theorem aR_5 : aI yR 5 12 := ⟨rfl, by decide, rfl⟩
theorem aR_6 : aI yR 6 12 := ⟨rfl, by decide, rfl⟩
theorem aR_7 : aI yR 7 12 := ⟨rfl, by decide, rfl⟩
theorem aR_8 : aI yR 8 6 := ⟨rfl, by decide, rfl⟩
theorem aR_9 : aI yR 9 6 := ⟨rfl, by decide, rfl⟩
theorem aR_10 : aI yR 10 6 := ⟨rfl, by decide, rfl⟩
theorem aR_11 : aI yR 11 20 := ⟨rfl, by decide, rfl⟩
theorem aR_12 : aI yR 12 20 := ⟨rfl, by decide, rfl⟩
theorem aR_13 : aI yR 13 120 := ⟨rfl, by decide, rfl⟩
theorem aR_14 : aI yR 14 120 := ⟨rfl, by decide, rfl⟩
theorem aR_15 : aI yR 15 120 := ⟨rfl, by decide, rfl⟩
theorem aR_16 : aI yR 16 120 := ⟨rfl, by decide, rfl⟩
theorem aR_17 : aI yR 17 120 := ⟨rfl, by decide, rfl⟩
theorem aR_18 : aI yR 18 120 := ⟨rfl, by decide, rfl⟩
theorem aR_19 : aI yR 19 120 := ⟨rfl, by decide, rfl⟩
theorem aR_20 : aI yR 20 120 := ⟨rfl, by decide, rfl⟩
theorem aR_21 : aI yR 21 120 := ⟨rfl, by decide, rfl⟩
theorem aR_22 : aI yR 22 20 := ⟨rfl, by decide, rfl⟩
theorem aR_23 : aI yR 23 20 := ⟨rfl, by decide, rfl⟩
theorem aR_24 : aI yR 24 20 := ⟨rfl, by decide, rfl⟩
theorem aR_25 : aI yR 25 800 := ⟨rfl, by decide, rfl⟩
theorem aR_26 : aI yR 26 60 := ⟨rfl, by decide, rfl⟩
theorem aR_27 : aI yR 27 60 := ⟨rfl, by decide, rfl⟩
theorem aR_28 : aI yR 28 6 := ⟨rfl, by decide, rfl⟩
theorem aR_29 : aI yR 29 6 := ⟨rfl, by decide, rfl⟩
theorem aR_30 : aI yR 30 2880 := ⟨rfl, by decide, rfl⟩
theorem aR_31 : aL yR 31 600 := ⟨rfl, by decide, rfl⟩
theorem aR_32 : aI yR 32 3 := ⟨rfl, by decide, rfl⟩
theorem aR_33 : aI yR 33 3 := ⟨rfl, by decide, rfl⟩
theorem aR_34 : aI yR 34 120 := ⟨rfl, by decide, rfl⟩
theorem aR_35 : aI yR 35 8 := ⟨rfl, by decide, rfl⟩
theorem aR_36 : aI yR 36 8 := ⟨rfl, by decide, rfl⟩
theorem aR_37 : aI yR 37 6 := ⟨rfl, by decide, rfl⟩
theorem aR_38 : aZ yR 38 48 := ⟨rfl, by decide, rfl⟩
theorem aR_39 : aZ yR 39 9 := ⟨rfl, by decide, rfl⟩
theorem aR_40 : aI yR 40 120 := ⟨rfl, by decide, rfl⟩
theorem aR_41 : aI yR 41 120 := ⟨rfl, by decide, rfl⟩
theorem aR_42 : aI yR 42 120 := ⟨rfl, by decide, rfl⟩
theorem aR_43 : aI yR 43 60 := ⟨rfl, by decide, rfl⟩
theorem aR_44 : aZ yR 44 60 := ⟨rfl, by decide, rfl⟩
theorem cues_19 : isCues 19 := ⟨rfl, rfl, ⟨rfl, by decide, rfl⟩, ⟨rfl, by decide, rfl⟩, ⟨rfl, by decide, rfl⟩, ⟨rfl, by decide, rfl⟩⟩
theorem cues_25 : isCues 25 := ⟨rfl, rfl, ⟨rfl, by decide, rfl⟩, ⟨rfl, by decide, rfl⟩, ⟨rfl, by decide, rfl⟩, ⟨rfl, by decide, rfl⟩⟩
theorem cues_61 : isCues 61 := ⟨rfl, rfl, ⟨rfl, by decide, rfl⟩, ⟨rfl, by decide, rfl⟩, ⟨rfl, by decide, rfl⟩, ⟨rfl, by decide, rfl⟩⟩
theorem cues_68 : isCues 68 := ⟨rfl, rfl, ⟨rfl, by decide, rfl⟩, ⟨rfl, by decide, rfl⟩, ⟨rfl, by decide, rfl⟩, ⟨rfl, by decide, rfl⟩⟩
theorem cues_75 : isCues 75 := ⟨rfl, rfl, ⟨rfl, by decide, rfl⟩, ⟨rfl, by decide, rfl⟩, ⟨rfl, by decide, rfl⟩, ⟨rfl, by decide, rfl⟩⟩
theorem cues_82 : isCues 82 := ⟨rfl, rfl, ⟨rfl, by decide, rfl⟩, ⟨rfl, by decide, rfl⟩, ⟨rfl, by decide, rfl⟩, ⟨rfl, by decide, rfl⟩⟩
theorem cues_89 : isCues 89 := ⟨rfl, rfl, ⟨rfl, by decide, rfl⟩, ⟨rfl, by decide, rfl⟩, ⟨rfl, by decide, rfl⟩, ⟨rfl, by decide, rfl⟩⟩
theorem cues_96 : isCues 96 := ⟨rfl, rfl, ⟨rfl, by decide, rfl⟩, ⟨rfl, by decide, rfl⟩, ⟨rfl, by decide, rfl⟩, ⟨rfl, by decide, rfl⟩⟩
theorem tape_59 : isTape 59 := ⟨rfl, rfl, ⟨rfl, by decide, rfl⟩, cues_61⟩
theorem tape_66 : isTape 66 := ⟨rfl, rfl, ⟨rfl, by decide, rfl⟩, cues_68⟩
theorem tape_73 : isTape 73 := ⟨rfl, rfl, ⟨rfl, by decide, rfl⟩, cues_75⟩
theorem tape_80 : isTape 80 := ⟨rfl, rfl, ⟨rfl, by decide, rfl⟩, cues_82⟩
theorem tape_87 : isTape 87 := ⟨rfl, rfl, ⟨rfl, by decide, rfl⟩, cues_89⟩
theorem tape_94 : isTape 94 := ⟨rfl, rfl, ⟨rfl, by decide, rfl⟩, cues_96⟩
theorem inW_RX2 : ∀ w ∈ u_ws RX2 TX2 6, w ∈ okw := in_places [114, 116, 118, 120, 122, 124] (by decide +kernel) (by decide +kernel)
theorem fl_RX2_9 : FL RX2 9 2 0 RX2 TX2 6 := ⟨inW_RX2, rfl, by decide, okw_in (List.mem_of_getElem? (i := 108) (by decide +kernel)) (by decide +kernel)⟩
theorem rl_0 : rg 0 := ⟨by decide, by decide⟩
theorem ml_RX2_30 : Cond.methodLink RX2 30 yJ7_fill_53178 ∈ okw := okw_in (List.mem_of_getElem? (i := 473) (by decide +kernel)) (by decide +kernel)
theorem inW_RX0 : ∀ w ∈ u_ws RX0 TX0 5, w ∈ okw := in_places [140, 142, 144, 146, 148] (by decide +kernel) (by decide +kernel)
theorem fl_RX0_9 : FL RX0 9 0 0 RX0 TX0 5 := ⟨inW_RX0, rfl, by decide, okw_in (List.mem_of_getElem? (i := 135) (by decide +kernel)) (by decide +kernel)⟩
theorem ml_RX0_28 : Cond.methodLink RX0 28 yJ7_fill_53178 ∈ okw := okw_in (List.mem_of_getElem? (i := 478) (by decide +kernel)) (by decide +kernel)
theorem fl_RX0_15 : FL RX0 15 0 1 RX0 TX0 5 := ⟨inW_RX0, rfl, by decide, okw_in (List.mem_of_getElem? (i := 136) (by decide +kernel)) (by decide +kernel)⟩
theorem inW_RX8 : ∀ w ∈ u_ws RX8 TX8 6, w ∈ okw := in_places [163, 165, 167, 169, 171, 173] (by decide +kernel) (by decide +kernel)
theorem fl_RX8_9 : FL RX8 9 8 0 RX8 TX8 6 := ⟨inW_RX8, rfl, by decide, okw_in (List.mem_of_getElem? (i := 152) (by decide +kernel)) (by decide +kernel)⟩
theorem ml_RX8_39 : Cond.methodLink RX8 39 yJ7_fill_031fb ∈ okw := okw_in (List.mem_of_getElem? (i := 463) (by decide +kernel)) (by decide +kernel)
theorem fl_RX8_22 : FL RX8 22 8 3 RX8 TX8 6 := ⟨inW_RX8, rfl, by decide, okw_in (List.mem_of_getElem? (i := 155) (by decide +kernel)) (by decide +kernel)⟩
theorem ml_RX8_45 : Cond.methodLink RX8 45 yJ7_fill_53178 ∈ okw := okw_in (List.mem_of_getElem? (i := 466) (by decide +kernel)) (by decide +kernel)
theorem fl_RX8_28 : FL RX8 28 8 4 RX8 TX8 6 := ⟨inW_RX8, rfl, by decide, okw_in (List.mem_of_getElem? (i := 156) (by decide +kernel)) (by decide +kernel)⟩
theorem fl_RX8_35 : FL RX8 35 8 5 RX8 TX8 6 := ⟨inW_RX8, rfl, by decide, okw_in (List.mem_of_getElem? (i := 161) (by decide +kernel)) (by decide +kernel)⟩
theorem ml_RX8_51 : Cond.methodLink RX8 51 yX0_forget ∈ okw := okw_in (List.mem_of_getElem? (i := 474) (by decide +kernel)) (by decide +kernel)
theorem mw_X0_forget : MV yX0_forget cX0_forget 1 none 0 := ⟨⟨okw_in (List.mem_of_getElem? (i := 477) (by decide +kernel)) (by decide +kernel), okw_in (List.mem_of_getElem? (i := 70) (by decide +kernel)) (by decide +kernel), by decide, by decide, by decide +kernel⟩, okw_in (List.mem_of_getElem? (i := 475) (by decide +kernel)) (by decide +kernel), okw_in (List.mem_of_getElem? (i := 476) (by decide +kernel)) (by decide +kernel)⟩
theorem ml_RX8_48 : Cond.methodLink RX8 48 yX2_forget ∈ okw := okw_in (List.mem_of_getElem? (i := 469) (by decide +kernel)) (by decide +kernel)
theorem mw_X2_forget : MV yX2_forget cX2_forget 1 none 0 := ⟨⟨okw_in (List.mem_of_getElem? (i := 472) (by decide +kernel)) (by decide +kernel), okw_in (List.mem_of_getElem? (i := 69) (by decide +kernel)) (by decide +kernel), by decide, by decide, by decide +kernel⟩, okw_in (List.mem_of_getElem? (i := 470) (by decide +kernel)) (by decide +kernel), okw_in (List.mem_of_getElem? (i := 471) (by decide +kernel)) (by decide +kernel)⟩
theorem inW_RX7 : ∀ w ∈ u_ws RX7 TX7 10, w ∈ okw := in_places [341, 343, 345, 347, 349, 351, 353, 355, 357, 359] (by decide +kernel) (by decide +kernel)
theorem fl_RX7_9 : FL RX7 9 7 4 RX7 TX7 10 := ⟨inW_RX7, rfl, by decide, okw_in (List.mem_of_getElem? (i := 334) (by decide +kernel)) (by decide +kernel)⟩
theorem ml_RX7_50 : Cond.methodLink RX7 50 yJ7_fill_53178 ∈ okw := okw_in (List.mem_of_getElem? (i := 487) (by decide +kernel)) (by decide +kernel)
theorem rl_m1 : rg (-1) := ⟨by decide, by decide⟩
theorem fl_RX7_27 : FL RX7 27 7 9 RX7 TX7 10 := ⟨inW_RX7, rfl, by decide, okw_in (List.mem_of_getElem? (i := 339) (by decide +kernel)) (by decide +kernel)⟩
theorem fp_RX7_9 : FP RX7 TX7 10 9 .int := ⟨tyX7, tyX7_ok, nmX7, rfl, by decide +kernel⟩
theorem ml_RX7_47 : Cond.methodLink RX7 47 yX7_forgetFaults ∈ okw := okw_in (List.mem_of_getElem? (i := 483) (by decide +kernel)) (by decide +kernel)
theorem mw_X7_forgetFaults : MV yX7_forgetFaults cX7_forgetFaults 1 none 0 := ⟨⟨okw_in (List.mem_of_getElem? (i := 486) (by decide +kernel)) (by decide +kernel), okw_in (List.mem_of_getElem? (i := 76) (by decide +kernel)) (by decide +kernel), by decide, by decide, by decide +kernel⟩, okw_in (List.mem_of_getElem? (i := 484) (by decide +kernel)) (by decide +kernel), okw_in (List.mem_of_getElem? (i := 485) (by decide +kernel)) (by decide +kernel)⟩
theorem inW_RX11 : ∀ w ∈ u_ws RX11 TX11 11, w ∈ okw := in_places [432, 434, 436, 438, 440, 442, 444, 446, 448, 450, 452] (by decide +kernel) (by decide +kernel)
theorem fl_RX11_10 : FL RX11 10 11 0 RX11 TX11 11 := ⟨inW_RX11, rfl, by decide, okw_in (List.mem_of_getElem? (i := 421) (by decide +kernel)) (by decide +kernel)⟩
theorem fl_RX11_19 : FL RX11 19 11 1 RX11 TX11 11 := ⟨inW_RX11, rfl, by decide, okw_in (List.mem_of_getElem? (i := 422) (by decide +kernel)) (by decide +kernel)⟩
theorem inW_RX1 : ∀ w ∈ u_ws RX1 TX1 5, w ∈ okw := in_places [193, 195, 197, 199, 201] (by decide +kernel) (by decide +kernel)
theorem fl_RX11_90 : FL RX11 90 1 4 RX1 TX1 5 := ⟨inW_RX1, rfl, by decide, okw_in (List.mem_of_getElem? (i := 188) (by decide +kernel)) (by decide +kernel)⟩
theorem fp_RX1_4 : FP RX1 TX1 5 4 .int := ⟨tyX1, tyX1_ok, nmX1, rfl, by decide +kernel⟩
theorem fl_RX11_44 : FL RX11 44 11 4 RX11 TX11 11 := ⟨inW_RX11, rfl, by decide, okw_in (List.mem_of_getElem? (i := 425) (by decide +kernel)) (by decide +kernel)⟩
theorem inW_RX4 : ∀ w ∈ u_ws RX4 TX4 4, w ∈ okw := in_places [291, 293, 295, 297] (by decide +kernel) (by decide +kernel)
theorem fl_RX11_93 : FL RX11 93 4 3 RX4 TX4 4 := ⟨inW_RX4, rfl, by decide, okw_in (List.mem_of_getElem? (i := 290) (by decide +kernel)) (by decide +kernel)⟩
theorem fp_RX4_3 : FP RX4 TX4 4 3 .int := ⟨tyX4, tyX4_ok, nmX4, rfl, by decide +kernel⟩
theorem fl_RX11_51 : FL RX11 51 11 5 RX11 TX11 11 := ⟨inW_RX11, rfl, by decide, okw_in (List.mem_of_getElem? (i := 426) (by decide +kernel)) (by decide +kernel)⟩
theorem inW_RX5 : ∀ w ∈ u_ws RX5 TX5 5, w ∈ okw := in_places [313, 315, 317, 319, 321] (by decide +kernel) (by decide +kernel)
theorem fl_RX11_94 : FL RX11 94 5 3 RX5 TX5 5 := ⟨inW_RX5, rfl, by decide, okw_in (List.mem_of_getElem? (i := 309) (by decide +kernel)) (by decide +kernel)⟩
theorem fp_RX5_3 : FP RX5 TX5 5 3 .int := ⟨tyX5, tyX5_ok, nmX5, rfl, by decide +kernel⟩
theorem fl_RX11_60 : FL RX11 60 11 6 RX11 TX11 11 := ⟨inW_RX11, rfl, by decide, okw_in (List.mem_of_getElem? (i := 427) (by decide +kernel)) (by decide +kernel)⟩
theorem fl_RX11_69 : FL RX11 69 11 7 RX11 TX11 11 := ⟨inW_RX11, rfl, by decide, okw_in (List.mem_of_getElem? (i := 428) (by decide +kernel)) (by decide +kernel)⟩
theorem inW_RX10 : ∀ w ∈ u_ws RX10 TX10 7, w ∈ okw := in_places [376, 378, 380, 382, 384, 386, 388] (by decide +kernel) (by decide +kernel)
theorem fl_RX11_96 : FL RX11 96 10 6 RX10 TX10 7 := ⟨inW_RX10, rfl, by decide, okw_in (List.mem_of_getElem? (i := 375) (by decide +kernel)) (by decide +kernel)⟩
theorem fp_RX10_6 : FP RX10 TX10 7 6 .int := ⟨tyX10, tyX10_ok, nmX10, rfl, by decide +kernel⟩
theorem rl_2 : rg 2 := ⟨by decide, by decide⟩
theorem fl_RX11_80 : FL RX11 80 11 9 RX11 TX11 11 := ⟨inW_RX11, rfl, by decide, okw_in (List.mem_of_getElem? (i := 430) (by decide +kernel)) (by decide +kernel)⟩
theorem fp_RX11_9 : FP RX11 TX11 11 9 .int := ⟨tyX11, tyX11_ok, nmX11, rfl, by decide +kernel⟩
theorem fl_RX11_84 : FL RX11 84 11 10 RX11 TX11 11 := ⟨inW_RX11, rfl, by decide, okw_in (List.mem_of_getElem? (i := 431) (by decide +kernel)) (by decide +kernel)⟩
theorem fp_RX11_10 : FP RX11 TX11 11 10 .int := ⟨tyX11, tyX11_ok, nmX11, rfl, by decide +kernel⟩
theorem ml_RX11_95 : Cond.methodLink RX11 95 yX7_forget ∈ okw := okw_in (List.mem_of_getElem? (i := 479) (by decide +kernel)) (by decide +kernel)
theorem mw_X7_forget : MV yX7_forget cX7_forget 1 none 0 := ⟨⟨okw_in (List.mem_of_getElem? (i := 482) (by decide +kernel)) (by decide +kernel), okw_in (List.mem_of_getElem? (i := 76) (by decide +kernel)) (by decide +kernel), by decide, by decide, by decide +kernel⟩, okw_in (List.mem_of_getElem? (i := 480) (by decide +kernel)) (by decide +kernel), okw_in (List.mem_of_getElem? (i := 481) (by decide +kernel)) (by decide +kernel)⟩
theorem ml_RX11_87 : Cond.methodLink RX11 87 yX8_forget ∈ okw := okw_in (List.mem_of_getElem? (i := 459) (by decide +kernel)) (by decide +kernel)
theorem mw_X8_forget : MV yX8_forget cX8_forget 1 none 0 := ⟨⟨okw_in (List.mem_of_getElem? (i := 462) (by decide +kernel)) (by decide +kernel), okw_in (List.mem_of_getElem? (i := 68) (by decide +kernel)) (by decide +kernel), by decide, by decide, by decide +kernel⟩, okw_in (List.mem_of_getElem? (i := 460) (by decide +kernel)) (by decide +kernel), okw_in (List.mem_of_getElem? (i := 461) (by decide +kernel)) (by decide +kernel)⟩
theorem rl_1 : rg 1 := ⟨by decide, by decide⟩
theorem rl_32 : rg 32 := ⟨by decide, by decide⟩
theorem ml_RX11_101 : Cond.methodLink RX11 101 yX8_setGround ∈ okw := okw_in (List.mem_of_getElem? (i := 496) (by decide +kernel)) (by decide +kernel)
theorem mw_X8_setGround : MV yX8_setGround cX8_setGround 4 none 3 := ⟨⟨okw_in (List.mem_of_getElem? (i := 499) (by decide +kernel)) (by decide +kernel), okw_in (List.mem_of_getElem? (i := 68) (by decide +kernel)) (by decide +kernel), by decide, by decide, by decide +kernel⟩, okw_in (List.mem_of_getElem? (i := 497) (by decide +kernel)) (by decide +kernel), okw_in (List.mem_of_getElem? (i := 498) (by decide +kernel)) (by decide +kernel)⟩
theorem ml_RX11_97 : Cond.methodLink RX11 97 yX8_groundOf ∈ okw := okw_in (List.mem_of_getElem? (i := 492) (by decide +kernel)) (by decide +kernel)
theorem mw_X8_groundOf : MV yX8_groundOf cX8_groundOf 3 (some .int) 2 := ⟨⟨okw_in (List.mem_of_getElem? (i := 495) (by decide +kernel)) (by decide +kernel), okw_in (List.mem_of_getElem? (i := 68) (by decide +kernel)) (by decide +kernel), by decide, by decide, by decide +kernel⟩, okw_in (List.mem_of_getElem? (i := 493) (by decide +kernel)) (by decide +kernel), okw_in (List.mem_of_getElem? (i := 494) (by decide +kernel)) (by decide +kernel)⟩
theorem rl_60 : rg 60 := ⟨by decide, by decide⟩
theorem rl_10 : rg 10 := ⟨by decide, by decide⟩
theorem rl_300 : rg 300 := ⟨by decide, by decide⟩
theorem rl_1000 : rg 1000 := ⟨by decide, by decide⟩
theorem rl_99 : rg 99 := ⟨by decide, by decide⟩
theorem rl_9 : rg 9 := ⟨by decide, by decide⟩
theorem rl_5 : rg 5 := ⟨by decide, by decide⟩
theorem fl_RX1_24 : FL RX1 24 1 4 RX1 TX1 5 := ⟨inW_RX1, rfl, by decide, okw_in (List.mem_of_getElem? (i := 187) (by decide +kernel)) (by decide +kernel)⟩
theorem rl_120 : rg 120 := ⟨by decide, by decide⟩
theorem fl_RX1_15 : FL RX1 15 1 1 RX1 TX1 5 := ⟨inW_RX1, rfl, by decide, okw_in (List.mem_of_getElem? (i := 183) (by decide +kernel)) (by decide +kernel)⟩
theorem ml_RX1_28 : Cond.methodLink RX1 28 yX1_isCue ∈ okw := okw_in (List.mem_of_getElem? (i := 515) (by decide +kernel)) (by decide +kernel)
theorem mw_X1_isCue : MV yX1_isCue cX1_isCue 2 (some .boolean) 1 := ⟨⟨okw_in (List.mem_of_getElem? (i := 518) (by decide +kernel)) (by decide +kernel), okw_in (List.mem_of_getElem? (i := 71) (by decide +kernel)) (by decide +kernel), by decide, by decide, by decide +kernel⟩, okw_in (List.mem_of_getElem? (i := 516) (by decide +kernel)) (by decide +kernel), okw_in (List.mem_of_getElem? (i := 517) (by decide +kernel)) (by decide +kernel)⟩
theorem fl_RX1_9 : FL RX1 9 1 0 RX1 TX1 5 := ⟨inW_RX1, rfl, by decide, okw_in (List.mem_of_getElem? (i := 182) (by decide +kernel)) (by decide +kernel)⟩
theorem rl_20000 : rg 20000 := ⟨by decide, by decide⟩
theorem ml_RX1_48 : Cond.methodLink RX1 48 Lib.Math.min.name ∈ okw := okw_in (List.mem_of_getElem? (i := 523) (by decide +kernel)) (by decide +kernel)
theorem mth_min : mthW Lib.Math.min.name Lib.Math.min.code 2 := ⟨okw_in (List.mem_of_getElem? (i := 524) (by decide +kernel)) (by decide +kernel), okw_in (List.mem_of_getElem? (i := 81) (by decide +kernel)) (by decide +kernel), okw_in (List.mem_of_getElem? (i := 525) (by decide +kernel)) (by decide +kernel)⟩
theorem ml_RX1_45 : Cond.methodLink RX1 45 yX1_burstOf ∈ okw := okw_in (List.mem_of_getElem? (i := 519) (by decide +kernel)) (by decide +kernel)
theorem mw_X1_burstOf : MV yX1_burstOf cX1_burstOf 2 (some .int) 1 := ⟨⟨okw_in (List.mem_of_getElem? (i := 522) (by decide +kernel)) (by decide +kernel), okw_in (List.mem_of_getElem? (i := 71) (by decide +kernel)) (by decide +kernel), by decide, by decide, by decide +kernel⟩, okw_in (List.mem_of_getElem? (i := 520) (by decide +kernel)) (by decide +kernel), okw_in (List.mem_of_getElem? (i := 521) (by decide +kernel)) (by decide +kernel)⟩
theorem ml_RX1_42 : Cond.methodLink RX1 42 yX1_kindOf ∈ okw := okw_in (List.mem_of_getElem? (i := 511) (by decide +kernel)) (by decide +kernel)
theorem mw_X1_kindOf : MV yX1_kindOf cX1_kindOf 2 (some .int) 1 := ⟨⟨okw_in (List.mem_of_getElem? (i := 514) (by decide +kernel)) (by decide +kernel), okw_in (List.mem_of_getElem? (i := 71) (by decide +kernel)) (by decide +kernel), by decide, by decide, by decide +kernel⟩, okw_in (List.mem_of_getElem? (i := 512) (by decide +kernel)) (by decide +kernel), okw_in (List.mem_of_getElem? (i := 513) (by decide +kernel)) (by decide +kernel)⟩
theorem rl_12 : rg 12 := ⟨by decide, by decide⟩
theorem fl_RX2_15 : FL RX2 15 2 1 RX2 TX2 6 := ⟨inW_RX2, rfl, by decide, okw_in (List.mem_of_getElem? (i := 109) (by decide +kernel)) (by decide +kernel)⟩
theorem fl_RX2_18 : FL RX2 18 2 2 RX2 TX2 6 := ⟨inW_RX2, rfl, by decide, okw_in (List.mem_of_getElem? (i := 110) (by decide +kernel)) (by decide +kernel)⟩
theorem fl_RX2_21 : FL RX2 21 2 3 RX2 TX2 6 := ⟨inW_RX2, rfl, by decide, okw_in (List.mem_of_getElem? (i := 111) (by decide +kernel)) (by decide +kernel)⟩
theorem fl_RX2_24 : FL RX2 24 2 4 RX2 TX2 6 := ⟨inW_RX2, rfl, by decide, okw_in (List.mem_of_getElem? (i := 112) (by decide +kernel)) (by decide +kernel)⟩
theorem fl_RX2_27 : FL RX2 27 2 5 RX2 TX2 6 := ⟨inW_RX2, rfl, by decide, okw_in (List.mem_of_getElem? (i := 113) (by decide +kernel)) (by decide +kernel)⟩
theorem ml_RX2_36 : Cond.methodLink RX2 36 yX2_isTold ∈ okw := okw_in (List.mem_of_getElem? (i := 542) (by decide +kernel)) (by decide +kernel)
theorem mw_X2_isTold : MV yX2_isTold cX2_isTold 2 (some .boolean) 1 := ⟨⟨okw_in (List.mem_of_getElem? (i := 545) (by decide +kernel)) (by decide +kernel), okw_in (List.mem_of_getElem? (i := 69) (by decide +kernel)) (by decide +kernel), by decide, by decide, by decide +kernel⟩, okw_in (List.mem_of_getElem? (i := 543) (by decide +kernel)) (by decide +kernel), okw_in (List.mem_of_getElem? (i := 544) (by decide +kernel)) (by decide +kernel)⟩
theorem rl_4 : rg 4 := ⟨by decide, by decide⟩
theorem fl_RX0_18 : FL RX0 18 0 2 RX0 TX0 5 := ⟨inW_RX0, rfl, by decide, okw_in (List.mem_of_getElem? (i := 137) (by decide +kernel)) (by decide +kernel)⟩
theorem rl_96 : rg 96 := ⟨by decide, by decide⟩
theorem rl_500 : rg 500 := ⟨by decide, by decide⟩
theorem ml_RX0_55 : Cond.methodLink RX0 55 Lib.Math.min.name ∈ okw := okw_in (List.mem_of_getElem? (i := 558) (by decide +kernel)) (by decide +kernel)
theorem ml_RX0_61 : Cond.methodLink RX0 61 Lib.Math.max.name ∈ okw := okw_in (List.mem_of_getElem? (i := 559) (by decide +kernel)) (by decide +kernel)
theorem mth_max : mthW Lib.Math.max.name Lib.Math.max.code 2 := ⟨okw_in (List.mem_of_getElem? (i := 560) (by decide +kernel)) (by decide +kernel), okw_in (List.mem_of_getElem? (i := 81) (by decide +kernel)) (by decide +kernel), okw_in (List.mem_of_getElem? (i := 561) (by decide +kernel)) (by decide +kernel)⟩
theorem fl_RX0_22 : FL RX0 22 0 3 RX0 TX0 5 := ⟨inW_RX0, rfl, by decide, okw_in (List.mem_of_getElem? (i := 138) (by decide +kernel)) (by decide +kernel)⟩
theorem fl_RX0_25 : FL RX0 25 0 4 RX0 TX0 5 := ⟨inW_RX0, rfl, by decide, okw_in (List.mem_of_getElem? (i := 139) (by decide +kernel)) (by decide +kernel)⟩
theorem ml_RX0_51 : Cond.methodLink RX0 51 yX0_reckonFall ∈ okw := okw_in (List.mem_of_getElem? (i := 554) (by decide +kernel)) (by decide +kernel)
theorem mw_X0_reckonFall : MV yX0_reckonFall cX0_reckonFall 11 none 4 := ⟨⟨okw_in (List.mem_of_getElem? (i := 557) (by decide +kernel)) (by decide +kernel), okw_in (List.mem_of_getElem? (i := 70) (by decide +kernel)) (by decide +kernel), by decide, by decide, by decide +kernel⟩, okw_in (List.mem_of_getElem? (i := 556) (by decide +kernel)) (by decide +kernel), okw_in (List.mem_of_getElem? (i := 1) (by decide +kernel)) (by decide +kernel)⟩
theorem ml_RX0_47 : Cond.methodLink RX0 47 yX0_slot ∈ okw := okw_in (List.mem_of_getElem? (i := 550) (by decide +kernel)) (by decide +kernel)
theorem mw_X0_slot : MV yX0_slot cX0_slot 4 (some .int) 3 := ⟨⟨okw_in (List.mem_of_getElem? (i := 553) (by decide +kernel)) (by decide +kernel), okw_in (List.mem_of_getElem? (i := 70) (by decide +kernel)) (by decide +kernel), by decide, by decide, by decide +kernel⟩, okw_in (List.mem_of_getElem? (i := 551) (by decide +kernel)) (by decide +kernel), okw_in (List.mem_of_getElem? (i := 552) (by decide +kernel)) (by decide +kernel)⟩
theorem ml_RX0_44 : Cond.methodLink RX0 44 yX2_burnOf ∈ okw := okw_in (List.mem_of_getElem? (i := 546) (by decide +kernel)) (by decide +kernel)
theorem mw_X2_burnOf : MV yX2_burnOf cX2_burnOf 2 (some .int) 1 := ⟨⟨okw_in (List.mem_of_getElem? (i := 549) (by decide +kernel)) (by decide +kernel), okw_in (List.mem_of_getElem? (i := 69) (by decide +kernel)) (by decide +kernel), by decide, by decide, by decide +kernel⟩, okw_in (List.mem_of_getElem? (i := 547) (by decide +kernel)) (by decide +kernel), okw_in (List.mem_of_getElem? (i := 548) (by decide +kernel)) (by decide +kernel)⟩
theorem ml_RX0_38 : Cond.methodLink RX0 38 yX2_heightOf ∈ okw := okw_in (List.mem_of_getElem? (i := 538) (by decide +kernel)) (by decide +kernel)
theorem mw_X2_heightOf : MV yX2_heightOf cX2_heightOf 2 (some .int) 1 := ⟨⟨okw_in (List.mem_of_getElem? (i := 541) (by decide +kernel)) (by decide +kernel), okw_in (List.mem_of_getElem? (i := 69) (by decide +kernel)) (by decide +kernel), by decide, by decide, by decide +kernel⟩, okw_in (List.mem_of_getElem? (i := 539) (by decide +kernel)) (by decide +kernel), okw_in (List.mem_of_getElem? (i := 540) (by decide +kernel)) (by decide +kernel)⟩
theorem ml_RX0_34 : Cond.methodLink RX0 34 yX0_reckonFalls ∈ okw := okw_in (List.mem_of_getElem? (i := 534) (by decide +kernel)) (by decide +kernel)
theorem mw_X0_reckonFalls : MV yX0_reckonFalls cX0_reckonFalls 6 none 3 := ⟨⟨okw_in (List.mem_of_getElem? (i := 537) (by decide +kernel)) (by decide +kernel), okw_in (List.mem_of_getElem? (i := 70) (by decide +kernel)) (by decide +kernel), by decide, by decide, by decide +kernel⟩, okw_in (List.mem_of_getElem? (i := 536) (by decide +kernel)) (by decide +kernel), okw_in (List.mem_of_getElem? (i := 0) (by decide +kernel)) (by decide +kernel)⟩
theorem fl_RX11_115 : FL RX11 115 8 4 RX8 TX8 6 := ⟨inW_RX8, rfl, by decide, okw_in (List.mem_of_getElem? (i := 157) (by decide +kernel)) (by decide +kernel)⟩
theorem fl_RX11_123 : FL RX11 123 8 5 RX8 TX8 6 := ⟨inW_RX8, rfl, by decide, okw_in (List.mem_of_getElem? (i := 162) (by decide +kernel)) (by decide +kernel)⟩
theorem ml_RX11_127 : Cond.methodLink RX11 127 yX0_reckonKind ∈ okw := okw_in (List.mem_of_getElem? (i := 530) (by decide +kernel)) (by decide +kernel)
theorem mw_X0_reckonKind : MV yX0_reckonKind cX0_reckonKind 4 none 2 := ⟨⟨okw_in (List.mem_of_getElem? (i := 533) (by decide +kernel)) (by decide +kernel), okw_in (List.mem_of_getElem? (i := 70) (by decide +kernel)) (by decide +kernel), by decide, by decide, by decide +kernel⟩, okw_in (List.mem_of_getElem? (i := 531) (by decide +kernel)) (by decide +kernel), okw_in (List.mem_of_getElem? (i := 532) (by decide +kernel)) (by decide +kernel)⟩
theorem ml_RX11_119 : Cond.methodLink RX11 119 yX2_tell ∈ okw := okw_in (List.mem_of_getElem? (i := 526) (by decide +kernel)) (by decide +kernel)
theorem mw_X2_tell : MV yX2_tell cX2_tell 6 none 5 := ⟨⟨okw_in (List.mem_of_getElem? (i := 529) (by decide +kernel)) (by decide +kernel), okw_in (List.mem_of_getElem? (i := 69) (by decide +kernel)) (by decide +kernel), by decide, by decide, by decide +kernel⟩, okw_in (List.mem_of_getElem? (i := 527) (by decide +kernel)) (by decide +kernel), okw_in (List.mem_of_getElem? (i := 528) (by decide +kernel)) (by decide +kernel)⟩
theorem rl_m5 : rg (-5) := ⟨by decide, by decide⟩
theorem ml_RX11_111 : Cond.methodLink RX11 111 yX1_firstBurstOfKind ∈ okw := okw_in (List.mem_of_getElem? (i := 507) (by decide +kernel)) (by decide +kernel)
theorem mw_X1_firstBurstOfKind : MV yX1_firstBurstOfKind cX1_firstBurstOfKind 4 (some .int) 1 := ⟨⟨okw_in (List.mem_of_getElem? (i := 510) (by decide +kernel)) (by decide +kernel), okw_in (List.mem_of_getElem? (i := 71) (by decide +kernel)) (by decide +kernel), by decide, by decide, by decide +kernel⟩, okw_in (List.mem_of_getElem? (i := 508) (by decide +kernel)) (by decide +kernel), okw_in (List.mem_of_getElem? (i := 509) (by decide +kernel)) (by decide +kernel)⟩
theorem ml_RX11_105 : Cond.methodLink RX11 105 yX2_isAsSaid ∈ okw := okw_in (List.mem_of_getElem? (i := 504) (by decide +kernel)) (by decide +kernel)
theorem mw_X2_isAsSaid : MS yX2_isAsSaid cX2_isAsSaid 6 (some .boolean) 4 := ⟨⟨okw_in (List.mem_of_getElem? (i := 506) (by decide +kernel)) (by decide +kernel), okw_in (List.mem_of_getElem? (i := 69) (by decide +kernel)) (by decide +kernel), by decide, by decide, by decide +kernel⟩, okw_in (List.mem_of_getElem? (i := 505) (by decide +kernel)) (by decide +kernel)⟩
theorem rl_6 : rg 6 := ⟨by decide, by decide⟩
theorem fl_RX8_15 : FL RX8 15 8 1 RX8 TX8 6 := ⟨inW_RX8, rfl, by decide, okw_in (List.mem_of_getElem? (i := 153) (by decide +kernel)) (by decide +kernel)⟩
theorem fl_RX8_19 : FL RX8 19 8 2 RX8 TX8 6 := ⟨inW_RX8, rfl, by decide, okw_in (List.mem_of_getElem? (i := 154) (by decide +kernel)) (by decide +kernel)⟩
theorem rl_40 : rg 40 := ⟨by decide, by decide⟩
theorem ml_RX11_133 : Cond.methodLink RX11 133 yX8_tellBarge ∈ okw := okw_in (List.mem_of_getElem? (i := 566) (by decide +kernel)) (by decide +kernel)
theorem mw_X8_tellBarge : MV yX8_tellBarge cX8_tellBarge 5 none 4 := ⟨⟨okw_in (List.mem_of_getElem? (i := 569) (by decide +kernel)) (by decide +kernel), okw_in (List.mem_of_getElem? (i := 68) (by decide +kernel)) (by decide +kernel), by decide, by decide, by decide +kernel⟩, okw_in (List.mem_of_getElem? (i := 567) (by decide +kernel)) (by decide +kernel), okw_in (List.mem_of_getElem? (i := 568) (by decide +kernel)) (by decide +kernel)⟩
theorem rl_m50 : rg (-50) := ⟨by decide, by decide⟩
theorem rl_50 : rg 50 := ⟨by decide, by decide⟩
theorem ml_RX11_144 : Cond.methodLink RX11 144 yX0_reckonWind ∈ okw := okw_in (List.mem_of_getElem? (i := 581) (by decide +kernel)) (by decide +kernel)
theorem mw_X0_reckonWind : MV yX0_reckonWind cX0_reckonWind 4 none 2 := ⟨⟨okw_in (List.mem_of_getElem? (i := 584) (by decide +kernel)) (by decide +kernel), okw_in (List.mem_of_getElem? (i := 70) (by decide +kernel)) (by decide +kernel), by decide, by decide, by decide +kernel⟩, okw_in (List.mem_of_getElem? (i := 582) (by decide +kernel)) (by decide +kernel), okw_in (List.mem_of_getElem? (i := 583) (by decide +kernel)) (by decide +kernel)⟩
theorem ml_RX11_141 : Cond.methodLink RX11 141 yX0_setDrift ∈ okw := okw_in (List.mem_of_getElem? (i := 577) (by decide +kernel)) (by decide +kernel)
theorem mw_X0_setDrift : MV yX0_setDrift cX0_setDrift 5 none 4 := ⟨⟨okw_in (List.mem_of_getElem? (i := 580) (by decide +kernel)) (by decide +kernel), okw_in (List.mem_of_getElem? (i := 70) (by decide +kernel)) (by decide +kernel), by decide, by decide, by decide +kernel⟩, okw_in (List.mem_of_getElem? (i := 578) (by decide +kernel)) (by decide +kernel), okw_in (List.mem_of_getElem? (i := 579) (by decide +kernel)) (by decide +kernel)⟩
theorem ml_RX11_137 : Cond.methodLink RX11 137 yX11_isDrift ∈ okw := okw_in (List.mem_of_getElem? (i := 574) (by decide +kernel)) (by decide +kernel)
theorem mw_X11_isDrift : MS yX11_isDrift cX11_isDrift 1 (some .boolean) 1 := ⟨⟨okw_in (List.mem_of_getElem? (i := 576) (by decide +kernel)) (by decide +kernel), okw_in (List.mem_of_getElem? (i := 67) (by decide +kernel)) (by decide +kernel), by decide, by decide, by decide +kernel⟩, okw_in (List.mem_of_getElem? (i := 575) (by decide +kernel)) (by decide +kernel)⟩
theorem rl_20 : rg 20 := ⟨by decide, by decide⟩
theorem rl_200 : rg 200 := ⟨by decide, by decide⟩
theorem rl_31 : rg 31 := ⟨by decide, by decide⟩
theorem ml_RX8_81 : Cond.methodLink RX8 81 Lib.Math.min.name ∈ okw := okw_in (List.mem_of_getElem? (i := 605) (by decide +kernel)) (by decide +kernel)
theorem ml_RX8_87 : Cond.methodLink RX8 87 Lib.Math.max.name ∈ okw := okw_in (List.mem_of_getElem? (i := 606) (by decide +kernel)) (by decide +kernel)
theorem ml_RX8_90 : Cond.methodLink RX8 90 yX8_groundOf ∈ okw := okw_in (List.mem_of_getElem? (i := 607) (by decide +kernel)) (by decide +kernel)
theorem ml_RX8_78 : Cond.methodLink RX8 78 yX2_heightOf ∈ okw := okw_in (List.mem_of_getElem? (i := 604) (by decide +kernel)) (by decide +kernel)
theorem ml_RX8_75 : Cond.methodLink RX8 75 yX2_isTold ∈ okw := okw_in (List.mem_of_getElem? (i := 603) (by decide +kernel)) (by decide +kernel)
theorem ml_RX8_52 : Cond.methodLink RX8 52 yX8_isBarge ∈ okw := okw_in (List.mem_of_getElem? (i := 602) (by decide +kernel)) (by decide +kernel)
theorem mw_X8_isBarge : MV yX8_isBarge cX8_isBarge 2 (some .boolean) 1 := ⟨⟨okw_in (List.mem_of_getElem? (i := 596) (by decide +kernel)) (by decide +kernel), okw_in (List.mem_of_getElem? (i := 68) (by decide +kernel)) (by decide +kernel), by decide, by decide, by decide +kernel⟩, okw_in (List.mem_of_getElem? (i := 594) (by decide +kernel)) (by decide +kernel), okw_in (List.mem_of_getElem? (i := 595) (by decide +kernel)) (by decide +kernel)⟩
theorem ml_RX11_153 : Cond.methodLink RX11 153 yX8_holds ∈ okw := okw_in (List.mem_of_getElem? (i := 598) (by decide +kernel)) (by decide +kernel)
theorem mw_X8_holds : MV yX8_holds cX8_holds 8 (some .boolean) 2 := ⟨⟨okw_in (List.mem_of_getElem? (i := 601) (by decide +kernel)) (by decide +kernel), okw_in (List.mem_of_getElem? (i := 68) (by decide +kernel)) (by decide +kernel), by decide, by decide, by decide +kernel⟩, okw_in (List.mem_of_getElem? (i := 599) (by decide +kernel)) (by decide +kernel), okw_in (List.mem_of_getElem? (i := 600) (by decide +kernel)) (by decide +kernel)⟩
theorem ml_RX11_150 : Cond.methodLink RX11 150 yX2_isTold ∈ okw := okw_in (List.mem_of_getElem? (i := 597) (by decide +kernel)) (by decide +kernel)
theorem ml_RX11_147 : Cond.methodLink RX11 147 yX8_isBarge ∈ okw := okw_in (List.mem_of_getElem? (i := 593) (by decide +kernel)) (by decide +kernel)
theorem rl_m4 : rg (-4) := ⟨by decide, by decide⟩
theorem ml_RX11_383 : Cond.methodLink RX11 383 yX11_isAngle ∈ okw := okw_in (List.mem_of_getElem? (i := 616) (by decide +kernel)) (by decide +kernel)
theorem mw_X11_isAngle : MS yX11_isAngle cX11_isAngle 1 (some .boolean) 1 := ⟨⟨okw_in (List.mem_of_getElem? (i := 618) (by decide +kernel)) (by decide +kernel), okw_in (List.mem_of_getElem? (i := 67) (by decide +kernel)) (by decide +kernel), by decide, by decide, by decide +kernel⟩, okw_in (List.mem_of_getElem? (i := 617) (by decide +kernel)) (by decide +kernel)⟩
theorem rl_m2 : rg (-2) := ⟨by decide, by decide⟩
theorem rl_100 : rg 100 := ⟨by decide, by decide⟩
theorem rl_3 : rg 3 := ⟨by decide, by decide⟩
theorem ml_RX8_116 : Cond.methodLink RX8 116 yJ9_floorDiv_7cf53 ∈ okw := okw_in (List.mem_of_getElem? (i := 644) (by decide +kernel)) (by decide +kernel)
theorem rl_m3 : rg (-3) := ⟨by decide, by decide⟩
theorem ml_RX8_113 : Cond.methodLink RX8 113 yX0_shiftYOf ∈ okw := okw_in (List.mem_of_getElem? (i := 640) (by decide +kernel)) (by decide +kernel)
theorem mw_X0_shiftYOf : MV yX0_shiftYOf cX0_shiftYOf 2 (some .int) 1 := ⟨⟨okw_in (List.mem_of_getElem? (i := 643) (by decide +kernel)) (by decide +kernel), okw_in (List.mem_of_getElem? (i := 70) (by decide +kernel)) (by decide +kernel), by decide, by decide, by decide +kernel⟩, okw_in (List.mem_of_getElem? (i := 641) (by decide +kernel)) (by decide +kernel), okw_in (List.mem_of_getElem? (i := 642) (by decide +kernel)) (by decide +kernel)⟩
theorem ml_RX8_110 : Cond.methodLink RX8 110 yX0_shiftXOf ∈ okw := okw_in (List.mem_of_getElem? (i := 636) (by decide +kernel)) (by decide +kernel)
theorem mw_X0_shiftXOf : MV yX0_shiftXOf cX0_shiftXOf 2 (some .int) 1 := ⟨⟨okw_in (List.mem_of_getElem? (i := 639) (by decide +kernel)) (by decide +kernel), okw_in (List.mem_of_getElem? (i := 70) (by decide +kernel)) (by decide +kernel), by decide, by decide, by decide +kernel⟩, okw_in (List.mem_of_getElem? (i := 637) (by decide +kernel)) (by decide +kernel), okw_in (List.mem_of_getElem? (i := 638) (by decide +kernel)) (by decide +kernel)⟩
theorem ml_RX8_107 : Cond.methodLink RX8 107 yX2_spreadOf ∈ okw := okw_in (List.mem_of_getElem? (i := 632) (by decide +kernel)) (by decide +kernel)
theorem mw_X2_spreadOf : MV yX2_spreadOf cX2_spreadOf 2 (some .int) 1 := ⟨⟨okw_in (List.mem_of_getElem? (i := 635) (by decide +kernel)) (by decide +kernel), okw_in (List.mem_of_getElem? (i := 69) (by decide +kernel)) (by decide +kernel), by decide, by decide, by decide +kernel⟩, okw_in (List.mem_of_getElem? (i := 633) (by decide +kernel)) (by decide +kernel), okw_in (List.mem_of_getElem? (i := 634) (by decide +kernel)) (by decide +kernel)⟩
theorem ml_RX8_104 : Cond.methodLink RX8 104 yX0_isHot ∈ okw := okw_in (List.mem_of_getElem? (i := 628) (by decide +kernel)) (by decide +kernel)
theorem mw_X0_isHot : MV yX0_isHot cX0_isHot 2 (some .boolean) 1 := ⟨⟨okw_in (List.mem_of_getElem? (i := 631) (by decide +kernel)) (by decide +kernel), okw_in (List.mem_of_getElem? (i := 70) (by decide +kernel)) (by decide +kernel), by decide, by decide, by decide +kernel⟩, okw_in (List.mem_of_getElem? (i := 629) (by decide +kernel)) (by decide +kernel), okw_in (List.mem_of_getElem? (i := 630) (by decide +kernel)) (by decide +kernel)⟩
theorem rl_1024 : rg 1024 := ⟨by decide, by decide⟩
theorem ml_RX8_101 : Cond.methodLink RX8 101 yX8_groundAt ∈ okw := okw_in (List.mem_of_getElem? (i := 647) (by decide +kernel)) (by decide +kernel)
theorem mw_X8_groundAt : MV yX8_groundAt cX8_groundAt 2 (some .int) 1 := ⟨⟨okw_in (List.mem_of_getElem? (i := 650) (by decide +kernel)) (by decide +kernel), okw_in (List.mem_of_getElem? (i := 68) (by decide +kernel)) (by decide +kernel), by decide, by decide, by decide +kernel⟩, okw_in (List.mem_of_getElem? (i := 649) (by decide +kernel)) (by decide +kernel), okw_in (List.mem_of_getElem? (i := 3) (by decide +kernel)) (by decide +kernel)⟩
theorem ml_RX8_97 : Cond.methodLink RX8 97 yX8_landing ∈ okw := okw_in (List.mem_of_getElem? (i := 624) (by decide +kernel)) (by decide +kernel)
theorem mw_X8_landing : MV yX8_landing cX8_landing 11 (some .int) 5 := ⟨⟨okw_in (List.mem_of_getElem? (i := 627) (by decide +kernel)) (by decide +kernel), okw_in (List.mem_of_getElem? (i := 68) (by decide +kernel)) (by decide +kernel), by decide, by decide, by decide +kernel⟩, okw_in (List.mem_of_getElem? (i := 625) (by decide +kernel)) (by decide +kernel), okw_in (List.mem_of_getElem? (i := 626) (by decide +kernel)) (by decide +kernel)⟩
theorem ml_RX8_93 : Cond.methodLink RX8 93 yX0_slot ∈ okw := okw_in (List.mem_of_getElem? (i := 623) (by decide +kernel)) (by decide +kernel)
theorem ml_RX11_160 : Cond.methodLink RX11 160 yX8_isSafe ∈ okw := okw_in (List.mem_of_getElem? (i := 619) (by decide +kernel)) (by decide +kernel)
theorem mw_X8_isSafe : MV yX8_isSafe cX8_isSafe 10 (some .boolean) 4 := ⟨⟨okw_in (List.mem_of_getElem? (i := 622) (by decide +kernel)) (by decide +kernel), okw_in (List.mem_of_getElem? (i := 68) (by decide +kernel)) (by decide +kernel), by decide, by decide, by decide +kernel⟩, okw_in (List.mem_of_getElem? (i := 620) (by decide +kernel)) (by decide +kernel), okw_in (List.mem_of_getElem? (i := 621) (by decide +kernel)) (by decide +kernel)⟩
theorem ml_RX11_157 : Cond.methodLink RX11 157 yX11_isLight ∈ okw := okw_in (List.mem_of_getElem? (i := 612) (by decide +kernel)) (by decide +kernel)
theorem mw_X11_isLight : MV yX11_isLight cX11_isLight 5 (some .boolean) 4 := ⟨⟨okw_in (List.mem_of_getElem? (i := 615) (by decide +kernel)) (by decide +kernel), okw_in (List.mem_of_getElem? (i := 67) (by decide +kernel)) (by decide +kernel), by decide, by decide, by decide +kernel⟩, okw_in (List.mem_of_getElem? (i := 614) (by decide +kernel)) (by decide +kernel), okw_in (List.mem_of_getElem? (i := 2) (by decide +kernel)) (by decide +kernel)⟩
theorem ml_RX11_167 : Cond.methodLink RX11 167 yX8_landing ∈ okw := okw_in (List.mem_of_getElem? (i := 656) (by decide +kernel)) (by decide +kernel)
theorem ml_RX11_163 : Cond.methodLink RX11 163 yX0_slot ∈ okw := okw_in (List.mem_of_getElem? (i := 655) (by decide +kernel)) (by decide +kernel)
theorem inW_RX9 : ∀ w ∈ u_ws RX9 TX9 4, w ∈ okw := in_places [411, 413, 415, 417] (by decide +kernel) (by decide +kernel)
theorem fl_RX9_22 : FL RX9 22 9 0 RX9 TX9 4 := ⟨inW_RX9, rfl, by decide, okw_in (List.mem_of_getElem? (i := 400) (by decide +kernel)) (by decide +kernel)⟩
theorem rl_m12 : rg (-12) := ⟨by decide, by decide⟩
theorem rl_m11 : rg (-11) := ⟨by decide, by decide⟩
theorem fl_RX9_26 : FL RX9 26 9 1 RX9 TX9 4 := ⟨inW_RX9, rfl, by decide, okw_in (List.mem_of_getElem? (i := 404) (by decide +kernel)) (by decide +kernel)⟩
theorem fl_RX9_9 : FL RX9 9 9 2 RX9 TX9 4 := ⟨inW_RX9, rfl, by decide, okw_in (List.mem_of_getElem? (i := 407) (by decide +kernel)) (by decide +kernel)⟩
theorem ml_RX9_39 : Cond.methodLink RX9 39 yX9_hasPlace ∈ okw := okw_in (List.mem_of_getElem? (i := 690) (by decide +kernel)) (by decide +kernel)
theorem mw_X9_hasPlace : MV yX9_hasPlace cX9_hasPlace 2 (some .boolean) 1 := ⟨⟨okw_in (List.mem_of_getElem? (i := 693) (by decide +kernel)) (by decide +kernel), okw_in (List.mem_of_getElem? (i := 78) (by decide +kernel)) (by decide +kernel), by decide, by decide, by decide +kernel⟩, okw_in (List.mem_of_getElem? (i := 691) (by decide +kernel)) (by decide +kernel), okw_in (List.mem_of_getElem? (i := 692) (by decide +kernel)) (by decide +kernel)⟩
theorem ml_RX9_43 : Cond.methodLink RX9 43 yX9_valueAt ∈ okw := okw_in (List.mem_of_getElem? (i := 686) (by decide +kernel)) (by decide +kernel)
theorem mw_X9_valueAt : MV yX9_valueAt cX9_valueAt 2 (some .long) 1 := ⟨⟨okw_in (List.mem_of_getElem? (i := 689) (by decide +kernel)) (by decide +kernel), okw_in (List.mem_of_getElem? (i := 78) (by decide +kernel)) (by decide +kernel), by decide, by decide, by decide +kernel⟩, okw_in (List.mem_of_getElem? (i := 687) (by decide +kernel)) (by decide +kernel), okw_in (List.mem_of_getElem? (i := 688) (by decide +kernel)) (by decide +kernel)⟩
theorem inW_RX6 : ∀ w ∈ u_ws RX6 TX6 7, w ∈ okw := in_places [220, 222, 224, 226, 228, 230, 232] (by decide +kernel) (by decide +kernel)
theorem fl_RX6_36 : FL RX6 36 6 5 RX6 TX6 7 := ⟨inW_RX6, rfl, by decide, okw_in (List.mem_of_getElem? (i := 218) (by decide +kernel)) (by decide +kernel)⟩
theorem fl_RX6_39 : FL RX6 39 6 6 RX6 TX6 7 := ⟨inW_RX6, rfl, by decide, okw_in (List.mem_of_getElem? (i := 219) (by decide +kernel)) (by decide +kernel)⟩
theorem fp_RX6_5 : FP RX6 TX6 7 5 .int := ⟨tyX6, tyX6_ok, nmX6, rfl, by decide +kernel⟩
theorem fl_RX6_33 : FL RX6 33 6 4 RX6 TX6 7 := ⟨inW_RX6, rfl, by decide, okw_in (List.mem_of_getElem? (i := 217) (by decide +kernel)) (by decide +kernel)⟩
theorem fl_RX6_18 : FL RX6 18 6 2 RX6 TX6 7 := ⟨inW_RX6, rfl, by decide, okw_in (List.mem_of_getElem? (i := 215) (by decide +kernel)) (by decide +kernel)⟩
theorem fl_RX6_22 : FL RX6 22 6 3 RX6 TX6 7 := ⟨inW_RX6, rfl, by decide, okw_in (List.mem_of_getElem? (i := 216) (by decide +kernel)) (by decide +kernel)⟩
theorem fp_RX6_4 : FP RX6 TX6 7 4 .int := ⟨tyX6, tyX6_ok, nmX6, rfl, by decide +kernel⟩
theorem fp_RX6_6 : FP RX6 TX6 7 6 .int := ⟨tyX6, tyX6_ok, nmX6, rfl, by decide +kernel⟩
theorem fl_RX1_18 : FL RX1 18 1 2 RX1 TX1 5 := ⟨inW_RX1, rfl, by decide, okw_in (List.mem_of_getElem? (i := 184) (by decide +kernel)) (by decide +kernel)⟩
theorem fl_RX1_21 : FL RX1 21 1 3 RX1 TX1 5 := ⟨inW_RX1, rfl, by decide, okw_in (List.mem_of_getElem? (i := 185) (by decide +kernel)) (by decide +kernel)⟩
theorem fl_RX6_25 : FL RX6 25 6 0 RX6 TX6 7 := ⟨inW_RX6, rfl, by decide, okw_in (List.mem_of_getElem? (i := 212) (by decide +kernel)) (by decide +kernel)⟩
theorem fl_RX6_107 : FL RX6 107 8 4 RX8 TX8 6 := ⟨inW_RX8, rfl, by decide, okw_in (List.mem_of_getElem? (i := 159) (by decide +kernel)) (by decide +kernel)⟩
theorem fl_RX6_12 : FL RX6 12 6 1 RX6 TX6 7 := ⟨inW_RX6, rfl, by decide, okw_in (List.mem_of_getElem? (i := 213) (by decide +kernel)) (by decide +kernel)⟩
theorem ml_RX6_119 : Cond.methodLink RX6 119 yX1_append ∈ okw := okw_in (List.mem_of_getElem? (i := 728) (by decide +kernel)) (by decide +kernel)
theorem mw_X1_append : MV yX1_append cX1_append 5 (some .boolean) 4 := ⟨⟨okw_in (List.mem_of_getElem? (i := 731) (by decide +kernel)) (by decide +kernel), okw_in (List.mem_of_getElem? (i := 71) (by decide +kernel)) (by decide +kernel), by decide, by decide, by decide +kernel⟩, okw_in (List.mem_of_getElem? (i := 729) (by decide +kernel)) (by decide +kernel), okw_in (List.mem_of_getElem? (i := 730) (by decide +kernel)) (by decide +kernel)⟩
theorem ml_RX6_116 : Cond.methodLink RX6 116 yX2_liftOf ∈ okw := okw_in (List.mem_of_getElem? (i := 724) (by decide +kernel)) (by decide +kernel)
theorem mw_X2_liftOf : MV yX2_liftOf cX2_liftOf 2 (some .int) 1 := ⟨⟨okw_in (List.mem_of_getElem? (i := 727) (by decide +kernel)) (by decide +kernel), okw_in (List.mem_of_getElem? (i := 69) (by decide +kernel)) (by decide +kernel), by decide, by decide, by decide +kernel⟩, okw_in (List.mem_of_getElem? (i := 725) (by decide +kernel)) (by decide +kernel), okw_in (List.mem_of_getElem? (i := 726) (by decide +kernel)) (by decide +kernel)⟩
theorem ml_RX6_97 : Cond.methodLink RX6 97 yX8_isBarge ∈ okw := okw_in (List.mem_of_getElem? (i := 723) (by decide +kernel)) (by decide +kernel)
theorem ml_RX6_111 : Cond.methodLink RX6 111 yX2_isTold ∈ okw := okw_in (List.mem_of_getElem? (i := 722) (by decide +kernel)) (by decide +kernel)
theorem ml_RX6_83 : Cond.methodLink RX6 83 yX6_makeCue ∈ okw := okw_in (List.mem_of_getElem? (i := 718) (by decide +kernel)) (by decide +kernel)
theorem mw_X6_makeCue : MV yX6_makeCue cX6_makeCue 5 (some .boolean) 4 := ⟨⟨okw_in (List.mem_of_getElem? (i := 721) (by decide +kernel)) (by decide +kernel), okw_in (List.mem_of_getElem? (i := 72) (by decide +kernel)) (by decide +kernel), by decide, by decide, by decide +kernel⟩, okw_in (List.mem_of_getElem? (i := 720) (by decide +kernel)) (by decide +kernel), okw_in (List.mem_of_getElem? (i := 12) (by decide +kernel)) (by decide +kernel)⟩
theorem ml_RX6_102 : Cond.methodLink RX6 102 Lib.Math.abs.name ∈ okw := okw_in (List.mem_of_getElem? (i := 744) (by decide +kernel)) (by decide +kernel)
theorem mth_abs : mthW Lib.Math.abs.name Lib.Math.abs.code 1 := ⟨okw_in (List.mem_of_getElem? (i := 745) (by decide +kernel)) (by decide +kernel), okw_in (List.mem_of_getElem? (i := 81) (by decide +kernel)) (by decide +kernel), okw_in (List.mem_of_getElem? (i := 746) (by decide +kernel)) (by decide +kernel)⟩
theorem ml_RX6_91 : Cond.methodLink RX6 91 yX6_areBehind ∈ okw := okw_in (List.mem_of_getElem? (i := 736) (by decide +kernel)) (by decide +kernel)
theorem mw_X6_areBehind : MV yX6_areBehind cX6_areBehind 4 (some .boolean) 3 := ⟨⟨okw_in (List.mem_of_getElem? (i := 739) (by decide +kernel)) (by decide +kernel), okw_in (List.mem_of_getElem? (i := 72) (by decide +kernel)) (by decide +kernel), by decide, by decide, by decide +kernel⟩, okw_in (List.mem_of_getElem? (i := 738) (by decide +kernel)) (by decide +kernel), okw_in (List.mem_of_getElem? (i := 14) (by decide +kernel)) (by decide +kernel)⟩
theorem ml_RX6_94 : Cond.methodLink RX6 94 yX6_makeRun ∈ okw := okw_in (List.mem_of_getElem? (i := 740) (by decide +kernel)) (by decide +kernel)
theorem mw_X6_makeRun : MV yX6_makeRun cX6_makeRun 9 (some .boolean) 4 := ⟨⟨okw_in (List.mem_of_getElem? (i := 743) (by decide +kernel)) (by decide +kernel), okw_in (List.mem_of_getElem? (i := 72) (by decide +kernel)) (by decide +kernel), by decide, by decide, by decide +kernel⟩, okw_in (List.mem_of_getElem? (i := 742) (by decide +kernel)) (by decide +kernel), okw_in (List.mem_of_getElem? (i := 15) (by decide +kernel)) (by decide +kernel)⟩
theorem ml_RX6_87 : Cond.methodLink RX6 87 yX6_makeFan ∈ okw := okw_in (List.mem_of_getElem? (i := 732) (by decide +kernel)) (by decide +kernel)
theorem mw_X6_makeFan : MV yX6_makeFan cX6_makeFan 5 (some .boolean) 3 := ⟨⟨okw_in (List.mem_of_getElem? (i := 735) (by decide +kernel)) (by decide +kernel), okw_in (List.mem_of_getElem? (i := 72) (by decide +kernel)) (by decide +kernel), by decide, by decide, by decide +kernel⟩, okw_in (List.mem_of_getElem? (i := 734) (by decide +kernel)) (by decide +kernel), okw_in (List.mem_of_getElem? (i := 13) (by decide +kernel)) (by decide +kernel)⟩
theorem ml_RX6_47 : Cond.methodLink RX6 47 yX9_numberAt ∈ okw := okw_in (List.mem_of_getElem? (i := 682) (by decide +kernel)) (by decide +kernel)
theorem mw_X9_numberAt : MV yX9_numberAt cX9_numberAt 2 (some .int) 1 := ⟨⟨okw_in (List.mem_of_getElem? (i := 685) (by decide +kernel)) (by decide +kernel), okw_in (List.mem_of_getElem? (i := 78) (by decide +kernel)) (by decide +kernel), by decide, by decide, by decide +kernel⟩, okw_in (List.mem_of_getElem? (i := 683) (by decide +kernel)) (by decide +kernel), okw_in (List.mem_of_getElem? (i := 684) (by decide +kernel)) (by decide +kernel)⟩
theorem gs_RX6_57 : Cond.fieldLink RX6 57 "LightScript$Scribe" "ORDER_LENGTHS" "[I" ∈ okw := okw_in (List.mem_of_getElem? (i := 695) (by decide +kernel)) (by decide +kernel)
theorem fl_RX6_60 : FL RX6 60 9 1 RX9 TX9 4 := ⟨inW_RX9, rfl, by decide, okw_in (List.mem_of_getElem? (i := 403) (by decide +kernel)) (by decide +kernel)⟩
theorem ml_RX6_76 : Cond.methodLink RX6 76 yX6_makeCues ∈ okw := okw_in (List.mem_of_getElem? (i := 713) (by decide +kernel)) (by decide +kernel)
theorem mw_X6_makeCues : MV yX6_makeCues cX6_makeCues 8 (some .boolean) 3 := ⟨⟨okw_in (List.mem_of_getElem? (i := 716) (by decide +kernel)) (by decide +kernel), okw_in (List.mem_of_getElem? (i := 72) (by decide +kernel)) (by decide +kernel), by decide, by decide, by decide +kernel⟩, okw_in (List.mem_of_getElem? (i := 715) (by decide +kernel)) (by decide +kernel), okw_in (List.mem_of_getElem? (i := 11) (by decide +kernel)) (by decide +kernel)⟩
theorem ml_RX6_73 : Cond.methodLink RX6 73 yX6_setBeat ∈ okw := okw_in (List.mem_of_getElem? (i := 709) (by decide +kernel)) (by decide +kernel)
theorem mw_X6_setBeat : MV yX6_setBeat cX6_setBeat 2 (some .boolean) 1 := ⟨⟨okw_in (List.mem_of_getElem? (i := 712) (by decide +kernel)) (by decide +kernel), okw_in (List.mem_of_getElem? (i := 72) (by decide +kernel)) (by decide +kernel), by decide, by decide, by decide +kernel⟩, okw_in (List.mem_of_getElem? (i := 711) (by decide +kernel)) (by decide +kernel), okw_in (List.mem_of_getElem? (i := 10) (by decide +kernel)) (by decide +kernel)⟩
theorem ml_RX6_70 : Cond.methodLink RX6 70 yX6_leave ∈ okw := okw_in (List.mem_of_getElem? (i := 705) (by decide +kernel)) (by decide +kernel)
theorem mw_X6_leave : MV yX6_leave cX6_leave 3 (some .int) 1 := ⟨⟨okw_in (List.mem_of_getElem? (i := 708) (by decide +kernel)) (by decide +kernel), okw_in (List.mem_of_getElem? (i := 72) (by decide +kernel)) (by decide +kernel), by decide, by decide, by decide +kernel⟩, okw_in (List.mem_of_getElem? (i := 707) (by decide +kernel)) (by decide +kernel), okw_in (List.mem_of_getElem? (i := 9) (by decide +kernel)) (by decide +kernel)⟩
theorem ml_RX6_66 : Cond.methodLink RX6 66 yX6_enter ∈ okw := okw_in (List.mem_of_getElem? (i := 701) (by decide +kernel)) (by decide +kernel)
theorem mw_X6_enter : MV yX6_enter cX6_enter 3 (some .boolean) 2 := ⟨⟨okw_in (List.mem_of_getElem? (i := 704) (by decide +kernel)) (by decide +kernel), okw_in (List.mem_of_getElem? (i := 72) (by decide +kernel)) (by decide +kernel), by decide, by decide, by decide +kernel⟩, okw_in (List.mem_of_getElem? (i := 703) (by decide +kernel)) (by decide +kernel), okw_in (List.mem_of_getElem? (i := 8) (by decide +kernel)) (by decide +kernel)⟩
theorem ml_RX6_63 : Cond.methodLink RX6 63 yX6_moveOn ∈ okw := okw_in (List.mem_of_getElem? (i := 697) (by decide +kernel)) (by decide +kernel)
theorem mw_X6_moveOn : MV yX6_moveOn cX6_moveOn 2 (some .boolean) 1 := ⟨⟨okw_in (List.mem_of_getElem? (i := 700) (by decide +kernel)) (by decide +kernel), okw_in (List.mem_of_getElem? (i := 72) (by decide +kernel)) (by decide +kernel), by decide, by decide, by decide +kernel⟩, okw_in (List.mem_of_getElem? (i := 699) (by decide +kernel)) (by decide +kernel), okw_in (List.mem_of_getElem? (i := 7) (by decide +kernel)) (by decide +kernel)⟩
theorem ml_RX6_53 : Cond.methodLink RX6 53 yX9_hasPlace ∈ okw := okw_in (List.mem_of_getElem? (i := 694) (by decide +kernel)) (by decide +kernel)
theorem fl_RX6_29 : FL RX6 29 1 4 RX1 TX1 5 := ⟨inW_RX1, rfl, by decide, okw_in (List.mem_of_getElem? (i := 186) (by decide +kernel)) (by decide +kernel)⟩
theorem kc_RX6_42 : Cond.constant RX6 42 (1000000 : Int32) ∈ okw := okw_in (List.mem_of_getElem? (i := 677) (by decide +kernel)) (by decide +kernel)
theorem rl_1000000 : rg 1000000 := ⟨by decide, by decide⟩
theorem ml_RX6_43 : Cond.methodLink RX6 43 yX6_follow ∈ okw := okw_in (List.mem_of_getElem? (i := 678) (by decide +kernel)) (by decide +kernel)
theorem mw_X6_follow : MV yX6_follow cX6_follow 6 (some .int) 2 := ⟨⟨okw_in (List.mem_of_getElem? (i := 681) (by decide +kernel)) (by decide +kernel), okw_in (List.mem_of_getElem? (i := 72) (by decide +kernel)) (by decide +kernel), by decide, by decide, by decide +kernel⟩, okw_in (List.mem_of_getElem? (i := 680) (by decide +kernel)) (by decide +kernel), okw_in (List.mem_of_getElem? (i := 6) (by decide +kernel)) (by decide +kernel)⟩
theorem ml_RX1_32 : Cond.methodLink RX1 32 arraycopyName ∈ okw := okw_in (List.mem_of_getElem? (i := 755) (by decide +kernel)) (by decide +kernel)
theorem cpy_w : cpyW := ⟨okw_in (List.mem_of_getElem? (i := 757) (by decide +kernel)) (by decide +kernel), okw_in (List.mem_of_getElem? (i := 756) (by decide +kernel)) (by decide +kernel), okw_in (List.mem_of_getElem? (i := 82) (by decide +kernel)) (by decide +kernel)⟩
theorem ml_RX11_380 : Cond.methodLink RX11 380 yX7_forgetFaults ∈ okw := okw_in (List.mem_of_getElem? (i := 758) (by decide +kernel)) (by decide +kernel)
theorem ml_RX11_377 : Cond.methodLink RX11 377 yX1_become ∈ okw := okw_in (List.mem_of_getElem? (i := 751) (by decide +kernel)) (by decide +kernel)
theorem mw_X1_become : MV yX1_become cX1_become 2 none 1 := ⟨⟨okw_in (List.mem_of_getElem? (i := 754) (by decide +kernel)) (by decide +kernel), okw_in (List.mem_of_getElem? (i := 71) (by decide +kernel)) (by decide +kernel), by decide, by decide, by decide +kernel⟩, okw_in (List.mem_of_getElem? (i := 752) (by decide +kernel)) (by decide +kernel), okw_in (List.mem_of_getElem? (i := 753) (by decide +kernel)) (by decide +kernel)⟩
theorem ml_RX11_171 : Cond.methodLink RX11 171 yX11_tapeAt ∈ okw := okw_in (List.mem_of_getElem? (i := 661) (by decide +kernel)) (by decide +kernel)
theorem mw_X11_tapeAt : MV yX11_tapeAt cX11_tapeAt 2 (some (.object "LightScript$Tape")) 1 := ⟨⟨okw_in (List.mem_of_getElem? (i := 664) (by decide +kernel)) (by decide +kernel), okw_in (List.mem_of_getElem? (i := 67) (by decide +kernel)) (by decide +kernel), by decide, by decide, by decide +kernel⟩, okw_in (List.mem_of_getElem? (i := 663) (by decide +kernel)) (by decide +kernel), okw_in (List.mem_of_getElem? (i := 4) (by decide +kernel)) (by decide +kernel)⟩
theorem fl_RX11_28 : FL RX11 28 11 2 RX11 TX11 11 := ⟨inW_RX11, rfl, by decide, okw_in (List.mem_of_getElem? (i := 423) (by decide +kernel)) (by decide +kernel)⟩
theorem fl_RX11_185 : FL RX11 185 6 1 RX6 TX6 7 := ⟨inW_RX6, rfl, by decide, okw_in (List.mem_of_getElem? (i := 214) (by decide +kernel)) (by decide +kernel)⟩
theorem ml_RX11_188 : Cond.methodLink RX11 188 yX11_takeCues ∈ okw := okw_in (List.mem_of_getElem? (i := 747) (by decide +kernel)) (by decide +kernel)
theorem mw_X11_takeCues : MV yX11_takeCues cX11_takeCues 2 none 1 := ⟨⟨okw_in (List.mem_of_getElem? (i := 750) (by decide +kernel)) (by decide +kernel), okw_in (List.mem_of_getElem? (i := 67) (by decide +kernel)) (by decide +kernel), by decide, by decide, by decide +kernel⟩, okw_in (List.mem_of_getElem? (i := 749) (by decide +kernel)) (by decide +kernel), okw_in (List.mem_of_getElem? (i := 16) (by decide +kernel)) (by decide +kernel)⟩
theorem rl_m100 : rg (-100) := ⟨by decide, by decide⟩
theorem ml_RX11_181 : Cond.methodLink RX11 181 yX6_firstFault ∈ okw := okw_in (List.mem_of_getElem? (i := 673) (by decide +kernel)) (by decide +kernel)
theorem mw_X6_firstFault : MV yX6_firstFault cX6_firstFault 5 (some .int) 1 := ⟨⟨okw_in (List.mem_of_getElem? (i := 676) (by decide +kernel)) (by decide +kernel), okw_in (List.mem_of_getElem? (i := 72) (by decide +kernel)) (by decide +kernel), by decide, by decide, by decide +kernel⟩, okw_in (List.mem_of_getElem? (i := 674) (by decide +kernel)) (by decide +kernel), okw_in (List.mem_of_getElem? (i := 675) (by decide +kernel)) (by decide +kernel)⟩
theorem ml_RX11_178 : Cond.methodLink RX11 178 yX11_refuse ∈ okw := okw_in (List.mem_of_getElem? (i := 669) (by decide +kernel)) (by decide +kernel)
theorem mw_X11_refuse : MV yX11_refuse cX11_refuse 2 (some .int) 1 := ⟨⟨okw_in (List.mem_of_getElem? (i := 672) (by decide +kernel)) (by decide +kernel), okw_in (List.mem_of_getElem? (i := 67) (by decide +kernel)) (by decide +kernel), by decide, by decide, by decide +kernel⟩, okw_in (List.mem_of_getElem? (i := 671) (by decide +kernel)) (by decide +kernel), okw_in (List.mem_of_getElem? (i := 5) (by decide +kernel)) (by decide +kernel)⟩
theorem ml_RX11_175 : Cond.methodLink RX11 175 yX9_refusalAs ∈ okw := okw_in (List.mem_of_getElem? (i := 665) (by decide +kernel)) (by decide +kernel)
theorem mw_X9_refusalAs : MV yX9_refusalAs cX9_refusalAs 2 (some .int) 1 := ⟨⟨okw_in (List.mem_of_getElem? (i := 668) (by decide +kernel)) (by decide +kernel), okw_in (List.mem_of_getElem? (i := 78) (by decide +kernel)) (by decide +kernel), by decide, by decide, by decide +kernel⟩, okw_in (List.mem_of_getElem? (i := 666) (by decide +kernel)) (by decide +kernel), okw_in (List.mem_of_getElem? (i := 667) (by decide +kernel)) (by decide +kernel)⟩
theorem ml_RX11_386 : Cond.methodLink RX11 386 yJ9_floorDiv_7cf53 ∈ okw := okw_in (List.mem_of_getElem? (i := 767) (by decide +kernel)) (by decide +kernel)
theorem ml_RX11_227 : Cond.methodLink RX11 227 yX2_liftOf ∈ okw := okw_in (List.mem_of_getElem? (i := 769) (by decide +kernel)) (by decide +kernel)
theorem ml_RX11_210 : Cond.methodLink RX11 210 yX1_kindOf ∈ okw := okw_in (List.mem_of_getElem? (i := 768) (by decide +kernel)) (by decide +kernel)
theorem ml_RX11_223 : Cond.methodLink RX11 223 yX11_stretched ∈ okw := okw_in (List.mem_of_getElem? (i := 764) (by decide +kernel)) (by decide +kernel)
theorem mw_X11_stretched : MS yX11_stretched cX11_stretched 4 (some .int) 4 := ⟨⟨okw_in (List.mem_of_getElem? (i := 766) (by decide +kernel)) (by decide +kernel), okw_in (List.mem_of_getElem? (i := 67) (by decide +kernel)) (by decide +kernel), by decide, by decide, by decide +kernel⟩, okw_in (List.mem_of_getElem? (i := 765) (by decide +kernel)) (by decide +kernel)⟩
theorem ml_RX11_207 : Cond.methodLink RX11 207 yX1_burstOf ∈ okw := okw_in (List.mem_of_getElem? (i := 763) (by decide +kernel)) (by decide +kernel)
theorem ml_RX11_230 : Cond.methodLink RX11 230 yX1_setBurst ∈ okw := okw_in (List.mem_of_getElem? (i := 770) (by decide +kernel)) (by decide +kernel)
theorem mw_X1_setBurst : MV yX1_setBurst cX1_setBurst 3 none 2 := ⟨⟨okw_in (List.mem_of_getElem? (i := 773) (by decide +kernel)) (by decide +kernel), okw_in (List.mem_of_getElem? (i := 71) (by decide +kernel)) (by decide +kernel), by decide, by decide, by decide +kernel⟩, okw_in (List.mem_of_getElem? (i := 771) (by decide +kernel)) (by decide +kernel), okw_in (List.mem_of_getElem? (i := 772) (by decide +kernel)) (by decide +kernel)⟩
theorem ml_RX1_38 : Cond.methodLink RX1 38 yX1_bargeOf ∈ okw := okw_in (List.mem_of_getElem? (i := 782) (by decide +kernel)) (by decide +kernel)
theorem mw_X1_bargeOf : MV yX1_bargeOf cX1_bargeOf 2 (some .int) 1 := ⟨⟨okw_in (List.mem_of_getElem? (i := 785) (by decide +kernel)) (by decide +kernel), okw_in (List.mem_of_getElem? (i := 71) (by decide +kernel)) (by decide +kernel), by decide, by decide, by decide +kernel⟩, okw_in (List.mem_of_getElem? (i := 783) (by decide +kernel)) (by decide +kernel), okw_in (List.mem_of_getElem? (i := 784) (by decide +kernel)) (by decide +kernel)⟩
theorem ml_RX8_65 : Cond.methodLink RX8 65 yX2_liftOf ∈ okw := okw_in (List.mem_of_getElem? (i := 813) (by decide +kernel)) (by decide +kernel)
theorem ml_RX8_62 : Cond.methodLink RX8 62 yX1_kindOf ∈ okw := okw_in (List.mem_of_getElem? (i := 812) (by decide +kernel)) (by decide +kernel)
theorem ml_RX8_56 : Cond.methodLink RX8 56 yX1_burstOf ∈ okw := okw_in (List.mem_of_getElem? (i := 811) (by decide +kernel)) (by decide +kernel)
theorem inW_RX3 : ∀ w ∈ u_ws RX3 TX3 12, w ∈ okw := in_places [255, 257, 259, 261, 263, 265, 267, 269, 271, 273, 275, 277] (by decide +kernel) (by decide +kernel)
theorem fl_RX3_34 : FL RX3 34 3 0 RX3 TX3 12 := ⟨inW_RX3, rfl, by decide, okw_in (List.mem_of_getElem? (i := 241) (by decide +kernel)) (by decide +kernel)⟩
theorem fl_RX3_38 : FL RX3 38 3 1 RX3 TX3 12 := ⟨inW_RX3, rfl, by decide, okw_in (List.mem_of_getElem? (i := 242) (by decide +kernel)) (by decide +kernel)⟩
theorem ml_RX3_94 : Cond.methodLink RX3 94 Lib.Math.abs.name ∈ okw := okw_in (List.mem_of_getElem? (i := 814) (by decide +kernel)) (by decide +kernel)
theorem fl_RX3_42 : FL RX3 42 3 9 RX3 TX3 12 := ⟨inW_RX3, rfl, by decide, okw_in (List.mem_of_getElem? (i := 250) (by decide +kernel)) (by decide +kernel)⟩
theorem ml_RX3_90 : Cond.methodLink RX3 90 yX8_fireOf ∈ okw := okw_in (List.mem_of_getElem? (i := 807) (by decide +kernel)) (by decide +kernel)
theorem mw_X8_fireOf : MV yX8_fireOf cX8_fireOf 3 (some .int) 2 := ⟨⟨okw_in (List.mem_of_getElem? (i := 810) (by decide +kernel)) (by decide +kernel), okw_in (List.mem_of_getElem? (i := 68) (by decide +kernel)) (by decide +kernel), by decide, by decide, by decide +kernel⟩, okw_in (List.mem_of_getElem? (i := 808) (by decide +kernel)) (by decide +kernel), okw_in (List.mem_of_getElem? (i := 809) (by decide +kernel)) (by decide +kernel)⟩
theorem ml_RX3_86 : Cond.methodLink RX3 86 yX8_isSafe ∈ okw := okw_in (List.mem_of_getElem? (i := 802) (by decide +kernel)) (by decide +kernel)
theorem ml_RX3_83 : Cond.methodLink RX3 83 yX1_angleOf ∈ okw := okw_in (List.mem_of_getElem? (i := 798) (by decide +kernel)) (by decide +kernel)
theorem mw_X1_angleOf : MV yX1_angleOf cX1_angleOf 2 (some .int) 1 := ⟨⟨okw_in (List.mem_of_getElem? (i := 801) (by decide +kernel)) (by decide +kernel), okw_in (List.mem_of_getElem? (i := 71) (by decide +kernel)) (by decide +kernel), by decide, by decide, by decide +kernel⟩, okw_in (List.mem_of_getElem? (i := 799) (by decide +kernel)) (by decide +kernel), okw_in (List.mem_of_getElem? (i := 800) (by decide +kernel)) (by decide +kernel)⟩
theorem fl_RX3_55 : FL RX3 55 1 4 RX1 TX1 5 := ⟨inW_RX1, rfl, by decide, okw_in (List.mem_of_getElem? (i := 189) (by decide +kernel)) (by decide +kernel)⟩
theorem ml_RX3_71 : Cond.methodLink RX3 71 yX3_areApart ∈ okw := okw_in (List.mem_of_getElem? (i := 803) (by decide +kernel)) (by decide +kernel)
theorem mw_X3_areApart : MV yX3_areApart cX3_areApart 3 (some .boolean) 2 := ⟨⟨okw_in (List.mem_of_getElem? (i := 806) (by decide +kernel)) (by decide +kernel), okw_in (List.mem_of_getElem? (i := 73) (by decide +kernel)) (by decide +kernel), by decide, by decide, by decide +kernel⟩, okw_in (List.mem_of_getElem? (i := 805) (by decide +kernel)) (by decide +kernel), okw_in (List.mem_of_getElem? (i := 18) (by decide +kernel)) (by decide +kernel)⟩
theorem ml_RX3_60 : Cond.methodLink RX3 60 yX1_bargeOf ∈ okw := okw_in (List.mem_of_getElem? (i := 791) (by decide +kernel)) (by decide +kernel)
theorem ml_RX3_78 : Cond.methodLink RX3 78 yX8_holds ∈ okw := okw_in (List.mem_of_getElem? (i := 797) (by decide +kernel)) (by decide +kernel)
theorem ml_RX3_75 : Cond.methodLink RX3 75 yX1_kindOf ∈ okw := okw_in (List.mem_of_getElem? (i := 796) (by decide +kernel)) (by decide +kernel)
theorem fl_RX3_46 : FL RX3 46 3 10 RX3 TX3 12 := ⟨inW_RX3, rfl, by decide, okw_in (List.mem_of_getElem? (i := 251) (by decide +kernel)) (by decide +kernel)⟩
theorem rl_8 : rg 8 := ⟨by decide, by decide⟩
theorem fl_RX3_9 : FL RX3 9 3 2 RX3 TX3 12 := ⟨inW_RX3, rfl, by decide, okw_in (List.mem_of_getElem? (i := 243) (by decide +kernel)) (by decide +kernel)⟩
theorem fp_RX3_9 : FP RX3 TX3 12 9 .int := ⟨tyX3, tyX3_ok, nmX3, rfl, by decide +kernel⟩
theorem fp_RX3_10 : FP RX3 TX3 12 10 .int := ⟨tyX3, tyX3_ok, nmX3, rfl, by decide +kernel⟩
theorem fl_RX3_22 : FL RX3 22 3 5 RX3 TX3 12 := ⟨inW_RX3, rfl, by decide, okw_in (List.mem_of_getElem? (i := 246) (by decide +kernel)) (by decide +kernel)⟩
theorem ml_RX3_49 : Cond.methodLink RX3 49 yJ7_fill_53178 ∈ okw := okw_in (List.mem_of_getElem? (i := 790) (by decide +kernel)) (by decide +kernel)
theorem fl_RX3_25 : FL RX3 25 3 6 RX3 TX3 12 := ⟨inW_RX3, rfl, by decide, okw_in (List.mem_of_getElem? (i := 247) (by decide +kernel)) (by decide +kernel)⟩
theorem fl_RX3_15 : FL RX3 15 3 3 RX3 TX3 12 := ⟨inW_RX3, rfl, by decide, okw_in (List.mem_of_getElem? (i := 244) (by decide +kernel)) (by decide +kernel)⟩
theorem ml_RX3_64 : Cond.methodLink RX3 64 yX3_fitsAlone ∈ okw := okw_in (List.mem_of_getElem? (i := 792) (by decide +kernel)) (by decide +kernel)
theorem mw_X3_fitsAlone : MV yX3_fitsAlone cX3_fitsAlone 6 (some .boolean) 3 := ⟨⟨okw_in (List.mem_of_getElem? (i := 795) (by decide +kernel)) (by decide +kernel), okw_in (List.mem_of_getElem? (i := 73) (by decide +kernel)) (by decide +kernel), by decide, by decide, by decide +kernel⟩, okw_in (List.mem_of_getElem? (i := 794) (by decide +kernel)) (by decide +kernel), okw_in (List.mem_of_getElem? (i := 17) (by decide +kernel)) (by decide +kernel)⟩
theorem fl_RX3_19 : FL RX3 19 3 4 RX3 TX3 12 := ⟨inW_RX3, rfl, by decide, okw_in (List.mem_of_getElem? (i := 245) (by decide +kernel)) (by decide +kernel)⟩
theorem ml_RX3_68 : Cond.methodLink RX3 68 yX3_clashesOf ∈ okw := okw_in (List.mem_of_getElem? (i := 815) (by decide +kernel)) (by decide +kernel)
theorem mw_X3_clashesOf : MV yX3_clashesOf cX3_clashesOf 4 (some .int) 1 := ⟨⟨okw_in (List.mem_of_getElem? (i := 818) (by decide +kernel)) (by decide +kernel), okw_in (List.mem_of_getElem? (i := 73) (by decide +kernel)) (by decide +kernel), by decide, by decide, by decide +kernel⟩, okw_in (List.mem_of_getElem? (i := 817) (by decide +kernel)) (by decide +kernel), okw_in (List.mem_of_getElem? (i := 19) (by decide +kernel)) (by decide +kernel)⟩
theorem ml_RX3_102 : Cond.methodLink RX3 102 Lib.Math.max.name ∈ okw := okw_in (List.mem_of_getElem? (i := 827) (by decide +kernel)) (by decide +kernel)
theorem ml_RX3_99 : Cond.methodLink RX3 99 yX8_channelsOf ∈ okw := okw_in (List.mem_of_getElem? (i := 836) (by decide +kernel)) (by decide +kernel)
theorem mw_X8_channelsOf : MV yX8_channelsOf cX8_channelsOf 2 (some .int) 1 := ⟨⟨okw_in (List.mem_of_getElem? (i := 839) (by decide +kernel)) (by decide +kernel), okw_in (List.mem_of_getElem? (i := 68) (by decide +kernel)) (by decide +kernel), by decide, by decide, by decide +kernel⟩, okw_in (List.mem_of_getElem? (i := 837) (by decide +kernel)) (by decide +kernel), okw_in (List.mem_of_getElem? (i := 838) (by decide +kernel)) (by decide +kernel)⟩
theorem fl_RX3_28 : FL RX3 28 3 7 RX3 TX3 12 := ⟨inW_RX3, rfl, by decide, okw_in (List.mem_of_getElem? (i := 248) (by decide +kernel)) (by decide +kernel)⟩
theorem fl_RX3_121 : FL RX3 121 3 11 RX3 TX3 12 := ⟨inW_RX3, rfl, by decide, okw_in (List.mem_of_getElem? (i := 253) (by decide +kernel)) (by decide +kernel)⟩
theorem fp_RX3_11 : FP RX3 TX3 12 11 .int := ⟨tyX3, tyX3_ok, nmX3, rfl, by decide +kernel⟩
theorem fl_RX3_31 : FL RX3 31 3 8 RX3 TX3 12 := ⟨inW_RX3, rfl, by decide, okw_in (List.mem_of_getElem? (i := 249) (by decide +kernel)) (by decide +kernel)⟩
theorem ml_RX3_132 : Cond.methodLink RX3 132 arraycopyName ∈ okw := okw_in (List.mem_of_getElem? (i := 831) (by decide +kernel)) (by decide +kernel)
theorem ml_RX3_141 : Cond.methodLink RX3 141 yX3_unchoose ∈ okw := okw_in (List.mem_of_getElem? (i := 848) (by decide +kernel)) (by decide +kernel)
theorem mw_X3_unchoose : MV yX3_unchoose cX3_unchoose 3 none 2 := ⟨⟨okw_in (List.mem_of_getElem? (i := 851) (by decide +kernel)) (by decide +kernel), okw_in (List.mem_of_getElem? (i := 73) (by decide +kernel)) (by decide +kernel), by decide, by decide, by decide +kernel⟩, okw_in (List.mem_of_getElem? (i := 850) (by decide +kernel)) (by decide +kernel), okw_in (List.mem_of_getElem? (i := 23) (by decide +kernel)) (by decide +kernel)⟩
theorem ml_RX3_128 : Cond.methodLink RX3 128 yX3_search ∈ okw := okw_in (List.mem_of_getElem? (i := 828) (by decide +kernel)) (by decide +kernel)
theorem mw_X3_search : MS yX3_search cX3_search 4 none 3 := ⟨⟨okw_in (List.mem_of_getElem? (i := 830) (by decide +kernel)) (by decide +kernel), okw_in (List.mem_of_getElem? (i := 73) (by decide +kernel)) (by decide +kernel), by decide, by decide, by decide +kernel⟩, okw_in (List.mem_of_getElem? (i := 829) (by decide +kernel)) (by decide +kernel)⟩
theorem ml_RX3_138 : Cond.methodLink RX3 138 yX3_loadOf ∈ okw := okw_in (List.mem_of_getElem? (i := 844) (by decide +kernel)) (by decide +kernel)
theorem mw_X3_loadOf : MV yX3_loadOf cX3_loadOf 2 (some .int) 1 := ⟨⟨okw_in (List.mem_of_getElem? (i := 847) (by decide +kernel)) (by decide +kernel), okw_in (List.mem_of_getElem? (i := 73) (by decide +kernel)) (by decide +kernel), by decide, by decide, by decide +kernel⟩, okw_in (List.mem_of_getElem? (i := 846) (by decide +kernel)) (by decide +kernel), okw_in (List.mem_of_getElem? (i := 22) (by decide +kernel)) (by decide +kernel)⟩
theorem ml_RX3_117 : Cond.methodLink RX3 117 yX3_choose ∈ okw := okw_in (List.mem_of_getElem? (i := 840) (by decide +kernel)) (by decide +kernel)
theorem mw_X3_choose : MV yX3_choose cX3_choose 3 none 2 := ⟨⟨okw_in (List.mem_of_getElem? (i := 843) (by decide +kernel)) (by decide +kernel), okw_in (List.mem_of_getElem? (i := 73) (by decide +kernel)) (by decide +kernel), by decide, by decide, by decide +kernel⟩, okw_in (List.mem_of_getElem? (i := 842) (by decide +kernel)) (by decide +kernel), okw_in (List.mem_of_getElem? (i := 21) (by decide +kernel)) (by decide +kernel)⟩
theorem ml_RX3_114 : Cond.methodLink RX3 114 yX3_mayChoose ∈ okw := okw_in (List.mem_of_getElem? (i := 832) (by decide +kernel)) (by decide +kernel)
theorem mw_X3_mayChoose : MV yX3_mayChoose cX3_mayChoose 3 (some .boolean) 2 := ⟨⟨okw_in (List.mem_of_getElem? (i := 835) (by decide +kernel)) (by decide +kernel), okw_in (List.mem_of_getElem? (i := 73) (by decide +kernel)) (by decide +kernel), by decide, by decide, by decide +kernel⟩, okw_in (List.mem_of_getElem? (i := 834) (by decide +kernel)) (by decide +kernel), okw_in (List.mem_of_getElem? (i := 20) (by decide +kernel)) (by decide +kernel)⟩
theorem rl_121 : rg 121 := ⟨by decide, by decide⟩
theorem ml_RX3_124 : Cond.methodLink RX3 124 yX3_mostLoad ∈ okw := okw_in (List.mem_of_getElem? (i := 823) (by decide +kernel)) (by decide +kernel)
theorem mw_X3_mostLoad : MV yX3_mostLoad cX3_mostLoad 3 (some .int) 0 := ⟨⟨okw_in (List.mem_of_getElem? (i := 826) (by decide +kernel)) (by decide +kernel), okw_in (List.mem_of_getElem? (i := 73) (by decide +kernel)) (by decide +kernel), by decide, by decide, by decide +kernel⟩, okw_in (List.mem_of_getElem? (i := 824) (by decide +kernel)) (by decide +kernel), okw_in (List.mem_of_getElem? (i := 825) (by decide +kernel)) (by decide +kernel)⟩
theorem ml_RX3_144 : Cond.methodLink RX3 144 yX1_setBarge ∈ okw := okw_in (List.mem_of_getElem? (i := 856) (by decide +kernel)) (by decide +kernel)
theorem mw_X1_setBarge : MV yX1_setBarge cX1_setBarge 3 none 2 := ⟨⟨okw_in (List.mem_of_getElem? (i := 859) (by decide +kernel)) (by decide +kernel), okw_in (List.mem_of_getElem? (i := 71) (by decide +kernel)) (by decide +kernel), by decide, by decide, by decide +kernel⟩, okw_in (List.mem_of_getElem? (i := 857) (by decide +kernel)) (by decide +kernel), okw_in (List.mem_of_getElem? (i := 858) (by decide +kernel)) (by decide +kernel)⟩
theorem fl_RX11_37 : FL RX11 37 11 3 RX11 TX11 11 := ⟨inW_RX11, rfl, by decide, okw_in (List.mem_of_getElem? (i := 424) (by decide +kernel)) (by decide +kernel)⟩
theorem fl_RX11_248 : FL RX11 248 3 11 RX3 TX3 12 := ⟨inW_RX3, rfl, by decide, okw_in (List.mem_of_getElem? (i := 254) (by decide +kernel)) (by decide +kernel)⟩
theorem ml_RX11_245 : Cond.methodLink RX11 245 yX3_giveBest ∈ okw := okw_in (List.mem_of_getElem? (i := 852) (by decide +kernel)) (by decide +kernel)
theorem mw_X3_giveBest : MV yX3_giveBest cX3_giveBest 2 none 0 := ⟨⟨okw_in (List.mem_of_getElem? (i := 855) (by decide +kernel)) (by decide +kernel), okw_in (List.mem_of_getElem? (i := 73) (by decide +kernel)) (by decide +kernel), by decide, by decide, by decide +kernel⟩, okw_in (List.mem_of_getElem? (i := 853) (by decide +kernel)) (by decide +kernel), okw_in (List.mem_of_getElem? (i := 854) (by decide +kernel)) (by decide +kernel)⟩
theorem ml_RX11_241 : Cond.methodLink RX11 241 yX3_findBest ∈ okw := okw_in (List.mem_of_getElem? (i := 819) (by decide +kernel)) (by decide +kernel)
theorem mw_X3_findBest : MV yX3_findBest cX3_findBest 1 (some .boolean) 0 := ⟨⟨okw_in (List.mem_of_getElem? (i := 822) (by decide +kernel)) (by decide +kernel), okw_in (List.mem_of_getElem? (i := 73) (by decide +kernel)) (by decide +kernel), by decide, by decide, by decide +kernel⟩, okw_in (List.mem_of_getElem? (i := 820) (by decide +kernel)) (by decide +kernel), okw_in (List.mem_of_getElem? (i := 821) (by decide +kernel)) (by decide +kernel)⟩
theorem ml_RX11_238 : Cond.methodLink RX11 238 yX3_prepare ∈ okw := okw_in (List.mem_of_getElem? (i := 786) (by decide +kernel)) (by decide +kernel)
theorem mw_X3_prepare : MV yX3_prepare cX3_prepare 5 none 2 := ⟨⟨okw_in (List.mem_of_getElem? (i := 789) (by decide +kernel)) (by decide +kernel), okw_in (List.mem_of_getElem? (i := 73) (by decide +kernel)) (by decide +kernel), by decide, by decide, by decide +kernel⟩, okw_in (List.mem_of_getElem? (i := 787) (by decide +kernel)) (by decide +kernel), okw_in (List.mem_of_getElem? (i := 788) (by decide +kernel)) (by decide +kernel)⟩
theorem ml_RX11_234 : Cond.methodLink RX11 234 yX1_openOnes ∈ okw := okw_in (List.mem_of_getElem? (i := 778) (by decide +kernel)) (by decide +kernel)
theorem mw_X1_openOnes : MV yX1_openOnes cX1_openOnes 3 (some .int) 0 := ⟨⟨okw_in (List.mem_of_getElem? (i := 781) (by decide +kernel)) (by decide +kernel), okw_in (List.mem_of_getElem? (i := 71) (by decide +kernel)) (by decide +kernel), by decide, by decide, by decide +kernel⟩, okw_in (List.mem_of_getElem? (i := 779) (by decide +kernel)) (by decide +kernel), okw_in (List.mem_of_getElem? (i := 780) (by decide +kernel)) (by decide +kernel)⟩
theorem fl_RX3_106 : FL RX3 106 9 1 RX9 TX9 4 := ⟨inW_RX9, rfl, by decide, okw_in (List.mem_of_getElem? (i := 405) (by decide +kernel)) (by decide +kernel)⟩
theorem ml_RX3_111 : Cond.methodLink RX3 111 yX9_numberAt ∈ okw := okw_in (List.mem_of_getElem? (i := 868) (by decide +kernel)) (by decide +kernel)
theorem fl_RX11_254 : FL RX11 254 9 1 RX9 TX9 4 := ⟨inW_RX9, rfl, by decide, okw_in (List.mem_of_getElem? (i := 406) (by decide +kernel)) (by decide +kernel)⟩
theorem fl_RX11_257 : FL RX11 257 3 10 RX3 TX3 12 := ⟨inW_RX3, rfl, by decide, okw_in (List.mem_of_getElem? (i := 252) (by decide +kernel)) (by decide +kernel)⟩
theorem ml_RX11_260 : Cond.methodLink RX11 260 yX3_mostLoad ∈ okw := okw_in (List.mem_of_getElem? (i := 869) (by decide +kernel)) (by decide +kernel)
theorem rl_m13 : rg (-13) := ⟨by decide, by decide⟩
theorem ml_RX11_251 : Cond.methodLink RX11 251 yX3_firstBroken ∈ okw := okw_in (List.mem_of_getElem? (i := 864) (by decide +kernel)) (by decide +kernel)
theorem mw_X3_firstBroken : MV yX3_firstBroken cX3_firstBroken 4 (some .int) 1 := ⟨⟨okw_in (List.mem_of_getElem? (i := 867) (by decide +kernel)) (by decide +kernel), okw_in (List.mem_of_getElem? (i := 73) (by decide +kernel)) (by decide +kernel), by decide, by decide, by decide +kernel⟩, okw_in (List.mem_of_getElem? (i := 865) (by decide +kernel)) (by decide +kernel), okw_in (List.mem_of_getElem? (i := 866) (by decide +kernel)) (by decide +kernel)⟩
theorem ml_RX11_263 : Cond.methodLink RX11 263 yX1_setBarge ∈ okw := okw_in (List.mem_of_getElem? (i := 876) (by decide +kernel)) (by decide +kernel)
theorem ml_RX11_213 : Cond.methodLink RX11 213 yX1_bargeOf ∈ okw := okw_in (List.mem_of_getElem? (i := 875) (by decide +kernel)) (by decide +kernel)
theorem ml_RX11_199 : Cond.methodLink RX11 199 yX1_isCue ∈ okw := okw_in (List.mem_of_getElem? (i := 874) (by decide +kernel)) (by decide +kernel)
theorem fl_RX4_21 : FL RX4 21 4 3 RX4 TX4 4 := ⟨inW_RX4, rfl, by decide, okw_in (List.mem_of_getElem? (i := 289) (by decide +kernel)) (by decide +kernel)⟩
theorem fl_RX4_9 : FL RX4 9 4 0 RX4 TX4 4 := ⟨inW_RX4, rfl, by decide, okw_in (List.mem_of_getElem? (i := 286) (by decide +kernel)) (by decide +kernel)⟩
theorem fl_RX4_15 : FL RX4 15 4 1 RX4 TX4 4 := ⟨inW_RX4, rfl, by decide, okw_in (List.mem_of_getElem? (i := 287) (by decide +kernel)) (by decide +kernel)⟩
theorem fl_RX4_18 : FL RX4 18 4 2 RX4 TX4 4 := ⟨inW_RX4, rfl, by decide, okw_in (List.mem_of_getElem? (i := 288) (by decide +kernel)) (by decide +kernel)⟩
theorem ml_RX11_269 : Cond.methodLink RX11 269 yX4_tell ∈ okw := okw_in (List.mem_of_getElem? (i := 884) (by decide +kernel)) (by decide +kernel)
theorem mw_X4_tell : MV yX4_tell cX4_tell 4 none 3 := ⟨⟨okw_in (List.mem_of_getElem? (i := 887) (by decide +kernel)) (by decide +kernel), okw_in (List.mem_of_getElem? (i := 74) (by decide +kernel)) (by decide +kernel), by decide, by decide, by decide +kernel⟩, okw_in (List.mem_of_getElem? (i := 885) (by decide +kernel)) (by decide +kernel), okw_in (List.mem_of_getElem? (i := 886) (by decide +kernel)) (by decide +kernel)⟩
theorem ml_RX11_266 : Cond.methodLink RX11 266 yX11_isTick ∈ okw := okw_in (List.mem_of_getElem? (i := 881) (by decide +kernel)) (by decide +kernel)
theorem mw_X11_isTick : MS yX11_isTick cX11_isTick 1 (some .boolean) 1 := ⟨⟨okw_in (List.mem_of_getElem? (i := 883) (by decide +kernel)) (by decide +kernel), okw_in (List.mem_of_getElem? (i := 67) (by decide +kernel)) (by decide +kernel), by decide, by decide, by decide +kernel⟩, okw_in (List.mem_of_getElem? (i := 882) (by decide +kernel)) (by decide +kernel)⟩
theorem ml_RX11_271 : Cond.methodLink RX11 271 yX4_windKnown ∈ okw := okw_in (List.mem_of_getElem? (i := 892) (by decide +kernel)) (by decide +kernel)
theorem mw_X4_windKnown : MV yX4_windKnown cX4_windKnown 5 (some .int) 1 := ⟨⟨okw_in (List.mem_of_getElem? (i := 895) (by decide +kernel)) (by decide +kernel), okw_in (List.mem_of_getElem? (i := 74) (by decide +kernel)) (by decide +kernel), by decide, by decide, by decide +kernel⟩, okw_in (List.mem_of_getElem? (i := 893) (by decide +kernel)) (by decide +kernel), okw_in (List.mem_of_getElem? (i := 894) (by decide +kernel)) (by decide +kernel)⟩
theorem fl_RX5_21 : FL RX5 21 5 4 RX5 TX5 5 := ⟨inW_RX5, rfl, by decide, okw_in (List.mem_of_getElem? (i := 311) (by decide +kernel)) (by decide +kernel)⟩
theorem fp_RX5_4 : FP RX5 TX5 5 4 .int := ⟨tyX5, tyX5_ok, nmX5, rfl, by decide +kernel⟩
theorem fl_RX5_25 : FL RX5 25 9 1 RX9 TX9 4 := ⟨inW_RX9, rfl, by decide, okw_in (List.mem_of_getElem? (i := 402) (by decide +kernel)) (by decide +kernel)⟩
theorem ml_RX5_34 : Cond.methodLink RX5 34 yX5_takes ∈ okw := okw_in (List.mem_of_getElem? (i := 905) (by decide +kernel)) (by decide +kernel)
theorem mw_X5_takes : MS yX5_takes cX5_takes 1 (some .int) 1 := ⟨⟨okw_in (List.mem_of_getElem? (i := 907) (by decide +kernel)) (by decide +kernel), okw_in (List.mem_of_getElem? (i := 75) (by decide +kernel)) (by decide +kernel), by decide, by decide, by decide +kernel⟩, okw_in (List.mem_of_getElem? (i := 906) (by decide +kernel)) (by decide +kernel)⟩
theorem ml_RX5_30 : Cond.methodLink RX5 30 yX9_numberAt ∈ okw := okw_in (List.mem_of_getElem? (i := 904) (by decide +kernel)) (by decide +kernel)
theorem fl_RX5_37 : FL RX5 37 5 3 RX5 TX5 5 := ⟨inW_RX5, rfl, by decide, okw_in (List.mem_of_getElem? (i := 310) (by decide +kernel)) (by decide +kernel)⟩
theorem fl_RX5_9 : FL RX5 9 5 0 RX5 TX5 5 := ⟨inW_RX5, rfl, by decide, okw_in (List.mem_of_getElem? (i := 306) (by decide +kernel)) (by decide +kernel)⟩
theorem fl_RX5_15 : FL RX5 15 5 1 RX5 TX5 5 := ⟨inW_RX5, rfl, by decide, okw_in (List.mem_of_getElem? (i := 307) (by decide +kernel)) (by decide +kernel)⟩
theorem fl_RX5_18 : FL RX5 18 5 2 RX5 TX5 5 := ⟨inW_RX5, rfl, by decide, okw_in (List.mem_of_getElem? (i := 308) (by decide +kernel)) (by decide +kernel)⟩
theorem fl_RX11_275 : FL RX11 275 5 4 RX5 TX5 5 := ⟨inW_RX5, rfl, by decide, okw_in (List.mem_of_getElem? (i := 312) (by decide +kernel)) (by decide +kernel)⟩
theorem ml_RX11_278 : Cond.methodLink RX11 278 yX5_add ∈ okw := okw_in (List.mem_of_getElem? (i := 908) (by decide +kernel)) (by decide +kernel)
theorem mw_X5_add : MV yX5_add cX5_add 5 none 1 := ⟨⟨okw_in (List.mem_of_getElem? (i := 911) (by decide +kernel)) (by decide +kernel), okw_in (List.mem_of_getElem? (i := 75) (by decide +kernel)) (by decide +kernel), by decide, by decide, by decide +kernel⟩, okw_in (List.mem_of_getElem? (i := 909) (by decide +kernel)) (by decide +kernel), okw_in (List.mem_of_getElem? (i := 910) (by decide +kernel)) (by decide +kernel)⟩
theorem ml_RX11_274 : Cond.methodLink RX11 274 yX5_firstFault ∈ okw := okw_in (List.mem_of_getElem? (i := 900) (by decide +kernel)) (by decide +kernel)
theorem mw_X5_firstFault : MV yX5_firstFault cX5_firstFault 5 (some .int) 1 := ⟨⟨okw_in (List.mem_of_getElem? (i := 903) (by decide +kernel)) (by decide +kernel), okw_in (List.mem_of_getElem? (i := 75) (by decide +kernel)) (by decide +kernel), by decide, by decide, by decide +kernel⟩, okw_in (List.mem_of_getElem? (i := 901) (by decide +kernel)) (by decide +kernel), okw_in (List.mem_of_getElem? (i := 902) (by decide +kernel)) (by decide +kernel)⟩
theorem ml_RX11_285 : Cond.methodLink RX11 285 yX7_setFault ∈ okw := okw_in (List.mem_of_getElem? (i := 924) (by decide +kernel)) (by decide +kernel)
theorem mw_X7_setFault : MV yX7_setFault cX7_setFault 3 none 2 := ⟨⟨okw_in (List.mem_of_getElem? (i := 927) (by decide +kernel)) (by decide +kernel), okw_in (List.mem_of_getElem? (i := 76) (by decide +kernel)) (by decide +kernel), by decide, by decide, by decide +kernel⟩, okw_in (List.mem_of_getElem? (i := 925) (by decide +kernel)) (by decide +kernel), okw_in (List.mem_of_getElem? (i := 926) (by decide +kernel)) (by decide +kernel)⟩
theorem ml_RX11_282 : Cond.methodLink RX11 282 yX7_faultOf ∈ okw := okw_in (List.mem_of_getElem? (i := 920) (by decide +kernel)) (by decide +kernel)
theorem mw_X7_faultOf : MV yX7_faultOf cX7_faultOf 2 (some .int) 1 := ⟨⟨okw_in (List.mem_of_getElem? (i := 923) (by decide +kernel)) (by decide +kernel), okw_in (List.mem_of_getElem? (i := 76) (by decide +kernel)) (by decide +kernel), by decide, by decide, by decide +kernel⟩, okw_in (List.mem_of_getElem? (i := 921) (by decide +kernel)) (by decide +kernel), okw_in (List.mem_of_getElem? (i := 922) (by decide +kernel)) (by decide +kernel)⟩
theorem fl_RX11_288 : FL RX11 288 7 9 RX7 TX7 10 := ⟨inW_RX7, rfl, by decide, okw_in (List.mem_of_getElem? (i := 340) (by decide +kernel)) (by decide +kernel)⟩
theorem fl_RX7_35 : FL RX7 35 7 1 RX7 TX7 10 := ⟨inW_RX7, rfl, by decide, okw_in (List.mem_of_getElem? (i := 331) (by decide +kernel)) (by decide +kernel)⟩
theorem fl_RX7_69 : FL RX7 69 1 4 RX1 TX1 5 := ⟨inW_RX1, rfl, by decide, okw_in (List.mem_of_getElem? (i := 192) (by decide +kernel)) (by decide +kernel)⟩
theorem fl_RX7_31 : FL RX7 31 7 0 RX7 TX7 10 := ⟨inW_RX7, rfl, by decide, okw_in (List.mem_of_getElem? (i := 330) (by decide +kernel)) (by decide +kernel)⟩
theorem fl_RX7_18 : FL RX7 18 7 6 RX7 TX7 10 := ⟨inW_RX7, rfl, by decide, okw_in (List.mem_of_getElem? (i := 336) (by decide +kernel)) (by decide +kernel)⟩
theorem fl_RX7_15 : FL RX7 15 7 5 RX7 TX7 10 := ⟨inW_RX7, rfl, by decide, okw_in (List.mem_of_getElem? (i := 335) (by decide +kernel)) (by decide +kernel)⟩
theorem ml_RX7_80 : Cond.methodLink RX7 80 yX8_fireOf ∈ okw := okw_in (List.mem_of_getElem? (i := 944) (by decide +kernel)) (by decide +kernel)
theorem fl_RX7_21 : FL RX7 21 7 7 RX7 TX7 10 := ⟨inW_RX7, rfl, by decide, okw_in (List.mem_of_getElem? (i := 337) (by decide +kernel)) (by decide +kernel)⟩
theorem ml_RX7_86 : Cond.methodLink RX7 86 yX1_burstOf ∈ okw := okw_in (List.mem_of_getElem? (i := 953) (by decide +kernel)) (by decide +kernel)
theorem ml_RX7_56 : Cond.methodLink RX7 56 yX7_fateOf ∈ okw := okw_in (List.mem_of_getElem? (i := 949) (by decide +kernel)) (by decide +kernel)
theorem mw_X7_fateOf : MV yX7_fateOf cX7_fateOf 2 (some .int) 1 := ⟨⟨okw_in (List.mem_of_getElem? (i := 952) (by decide +kernel)) (by decide +kernel), okw_in (List.mem_of_getElem? (i := 76) (by decide +kernel)) (by decide +kernel), by decide, by decide, by decide +kernel⟩, okw_in (List.mem_of_getElem? (i := 950) (by decide +kernel)) (by decide +kernel), okw_in (List.mem_of_getElem? (i := 951) (by decide +kernel)) (by decide +kernel)⟩
theorem ml_RX5_44 : Cond.methodLink RX5 44 yX5_pushed ∈ okw := okw_in (List.mem_of_getElem? (i := 969) (by decide +kernel)) (by decide +kernel)
theorem mw_X5_pushed : MS yX5_pushed cX5_pushed 2 (some .int) 2 := ⟨⟨okw_in (List.mem_of_getElem? (i := 971) (by decide +kernel)) (by decide +kernel), okw_in (List.mem_of_getElem? (i := 75) (by decide +kernel)) (by decide +kernel), by decide, by decide, by decide +kernel⟩, okw_in (List.mem_of_getElem? (i := 970) (by decide +kernel)) (by decide +kernel)⟩
theorem ml_RX5_53 : Cond.methodLink RX5 53 yX1_kindOf ∈ okw := okw_in (List.mem_of_getElem? (i := 973) (by decide +kernel)) (by decide +kernel)
theorem ml_RX5_48 : Cond.methodLink RX5 48 yX1_bargeOf ∈ okw := okw_in (List.mem_of_getElem? (i := 972) (by decide +kernel)) (by decide +kernel)
theorem ml_RX5_40 : Cond.methodLink RX5 40 yX5_doesHold ∈ okw := okw_in (List.mem_of_getElem? (i := 965) (by decide +kernel)) (by decide +kernel)
theorem mw_X5_doesHold : MV yX5_doesHold cX5_doesHold 10 (some .boolean) 6 := ⟨⟨okw_in (List.mem_of_getElem? (i := 968) (by decide +kernel)) (by decide +kernel), okw_in (List.mem_of_getElem? (i := 75) (by decide +kernel)) (by decide +kernel), by decide, by decide, by decide +kernel⟩, okw_in (List.mem_of_getElem? (i := 967) (by decide +kernel)) (by decide +kernel), okw_in (List.mem_of_getElem? (i := 27) (by decide +kernel)) (by decide +kernel)⟩
theorem fl_RX7_109 : FL RX7 109 8 4 RX8 TX8 6 := ⟨inW_RX8, rfl, by decide, okw_in (List.mem_of_getElem? (i := 160) (by decide +kernel)) (by decide +kernel)⟩
theorem ml_RX7_131 : Cond.methodLink RX7 131 yX8_holds ∈ okw := okw_in (List.mem_of_getElem? (i := 986) (by decide +kernel)) (by decide +kernel)
theorem ml_RX7_116 : Cond.methodLink RX7 116 yX8_isSafe ∈ okw := okw_in (List.mem_of_getElem? (i := 979) (by decide +kernel)) (by decide +kernel)
theorem ml_RX7_128 : Cond.methodLink RX7 128 yX2_liftOf ∈ okw := okw_in (List.mem_of_getElem? (i := 985) (by decide +kernel)) (by decide +kernel)
theorem ml_RX7_125 : Cond.methodLink RX7 125 yX2_colourOf ∈ okw := okw_in (List.mem_of_getElem? (i := 981) (by decide +kernel)) (by decide +kernel)
theorem mw_X2_colourOf : MV yX2_colourOf cX2_colourOf 2 (some .int) 1 := ⟨⟨okw_in (List.mem_of_getElem? (i := 984) (by decide +kernel)) (by decide +kernel), okw_in (List.mem_of_getElem? (i := 69) (by decide +kernel)) (by decide +kernel), by decide, by decide, by decide +kernel⟩, okw_in (List.mem_of_getElem? (i := 982) (by decide +kernel)) (by decide +kernel), okw_in (List.mem_of_getElem? (i := 983) (by decide +kernel)) (by decide +kernel)⟩
theorem ml_RX7_120 : Cond.methodLink RX7 120 yX2_isTold ∈ okw := okw_in (List.mem_of_getElem? (i := 980) (by decide +kernel)) (by decide +kernel)
theorem ml_RX7_113 : Cond.methodLink RX7 113 yX1_angleOf ∈ okw := okw_in (List.mem_of_getElem? (i := 978) (by decide +kernel)) (by decide +kernel)
theorem ml_RX7_97 : Cond.methodLink RX7 97 yX1_bargeOf ∈ okw := okw_in (List.mem_of_getElem? (i := 960) (by decide +kernel)) (by decide +kernel)
theorem ml_RX7_94 : Cond.methodLink RX7 94 yX1_kindOf ∈ okw := okw_in (List.mem_of_getElem? (i := 959) (by decide +kernel)) (by decide +kernel)
theorem fl_RX7_39 : FL RX7 39 7 2 RX7 TX7 10 := ⟨inW_RX7, rfl, by decide, okw_in (List.mem_of_getElem? (i := 332) (by decide +kernel)) (by decide +kernel)⟩
theorem fl_RX7_24 : FL RX7 24 7 8 RX7 TX7 10 := ⟨inW_RX7, rfl, by decide, okw_in (List.mem_of_getElem? (i := 338) (by decide +kernel)) (by decide +kernel)⟩
theorem fl_RX7_43 : FL RX7 43 7 3 RX7 TX7 10 := ⟨inW_RX7, rfl, by decide, okw_in (List.mem_of_getElem? (i := 333) (by decide +kernel)) (by decide +kernel)⟩
theorem ml_RX7_106 : Cond.methodLink RX7 106 yX7_kindToFire ∈ okw := okw_in (List.mem_of_getElem? (i := 974) (by decide +kernel)) (by decide +kernel)
theorem mw_X7_kindToFire : MV yX7_kindToFire cX7_kindToFire 8 (some .int) 2 := ⟨⟨okw_in (List.mem_of_getElem? (i := 977) (by decide +kernel)) (by decide +kernel), okw_in (List.mem_of_getElem? (i := 76) (by decide +kernel)) (by decide +kernel), by decide, by decide, by decide +kernel⟩, okw_in (List.mem_of_getElem? (i := 976) (by decide +kernel)) (by decide +kernel), okw_in (List.mem_of_getElem? (i := 28) (by decide +kernel)) (by decide +kernel)⟩
theorem ml_RX7_100 : Cond.methodLink RX7 100 yX5_anyHolds ∈ okw := okw_in (List.mem_of_getElem? (i := 961) (by decide +kernel)) (by decide +kernel)
theorem mw_X5_anyHolds : MV yX5_anyHolds cX5_anyHolds 7 (some .boolean) 5 := ⟨⟨okw_in (List.mem_of_getElem? (i := 964) (by decide +kernel)) (by decide +kernel), okw_in (List.mem_of_getElem? (i := 75) (by decide +kernel)) (by decide +kernel), by decide, by decide, by decide +kernel⟩, okw_in (List.mem_of_getElem? (i := 962) (by decide +kernel)) (by decide +kernel), okw_in (List.mem_of_getElem? (i := 963) (by decide +kernel)) (by decide +kernel)⟩
theorem ml_RX7_89 : Cond.methodLink RX7 89 yX4_windKnown ∈ okw := okw_in (List.mem_of_getElem? (i := 958) (by decide +kernel)) (by decide +kernel)
theorem ml_RX7_76 : Cond.methodLink RX7 76 yX7_reckonFate ∈ okw := okw_in (List.mem_of_getElem? (i := 954) (by decide +kernel)) (by decide +kernel)
theorem mw_X7_reckonFate : MV yX7_reckonFate cX7_reckonFate 6 none 3 := ⟨⟨okw_in (List.mem_of_getElem? (i := 957) (by decide +kernel)) (by decide +kernel), okw_in (List.mem_of_getElem? (i := 76) (by decide +kernel)) (by decide +kernel), by decide, by decide, by decide +kernel⟩, okw_in (List.mem_of_getElem? (i := 956) (by decide +kernel)) (by decide +kernel), okw_in (List.mem_of_getElem? (i := 26) (by decide +kernel)) (by decide +kernel)⟩
theorem ml_RX7_72 : Cond.methodLink RX7 72 yX7_misfiresSeen ∈ okw := okw_in (List.mem_of_getElem? (i := 945) (by decide +kernel)) (by decide +kernel)
theorem mw_X7_misfiresSeen : MV yX7_misfiresSeen cX7_misfiresSeen 6 (some .int) 2 := ⟨⟨okw_in (List.mem_of_getElem? (i := 948) (by decide +kernel)) (by decide +kernel), okw_in (List.mem_of_getElem? (i := 76) (by decide +kernel)) (by decide +kernel), by decide, by decide, by decide +kernel⟩, okw_in (List.mem_of_getElem? (i := 947) (by decide +kernel)) (by decide +kernel), okw_in (List.mem_of_getElem? (i := 25) (by decide +kernel)) (by decide +kernel)⟩
theorem ml_RX7_66 : Cond.methodLink RX7 66 yX7_sortByFire ∈ okw := okw_in (List.mem_of_getElem? (i := 940) (by decide +kernel)) (by decide +kernel)
theorem mw_X7_sortByFire : MV yX7_sortByFire cX7_sortByFire 4 none 0 := ⟨⟨okw_in (List.mem_of_getElem? (i := 943) (by decide +kernel)) (by decide +kernel), okw_in (List.mem_of_getElem? (i := 76) (by decide +kernel)) (by decide +kernel), by decide, by decide, by decide +kernel⟩, okw_in (List.mem_of_getElem? (i := 942) (by decide +kernel)) (by decide +kernel), okw_in (List.mem_of_getElem? (i := 24) (by decide +kernel)) (by decide +kernel)⟩
theorem ml_RX11_294 : Cond.methodLink RX11 294 yX7_fateOf ∈ okw := okw_in (List.mem_of_getElem? (i := 987) (by decide +kernel)) (by decide +kernel)
theorem ml_RX11_291 : Cond.methodLink RX11 291 yX7_reckon ∈ okw := okw_in (List.mem_of_getElem? (i := 936) (by decide +kernel)) (by decide +kernel)
theorem mw_X7_reckon : MV yX7_reckon cX7_reckon 2 none 0 := ⟨⟨okw_in (List.mem_of_getElem? (i := 939) (by decide +kernel)) (by decide +kernel), okw_in (List.mem_of_getElem? (i := 76) (by decide +kernel)) (by decide +kernel), by decide, by decide, by decide +kernel⟩, okw_in (List.mem_of_getElem? (i := 937) (by decide +kernel)) (by decide +kernel), okw_in (List.mem_of_getElem? (i := 938) (by decide +kernel)) (by decide +kernel)⟩
theorem ml_RX11_304 : Cond.methodLink RX11 304 yX7_cueAt ∈ okw := okw_in (List.mem_of_getElem? (i := 996) (by decide +kernel)) (by decide +kernel)
theorem mw_X7_cueAt : MV yX7_cueAt cX7_cueAt 2 (some .int) 1 := ⟨⟨okw_in (List.mem_of_getElem? (i := 999) (by decide +kernel)) (by decide +kernel), okw_in (List.mem_of_getElem? (i := 76) (by decide +kernel)) (by decide +kernel), by decide, by decide, by decide +kernel⟩, okw_in (List.mem_of_getElem? (i := 997) (by decide +kernel)) (by decide +kernel), okw_in (List.mem_of_getElem? (i := 998) (by decide +kernel)) (by decide +kernel)⟩
theorem fl_RX10_34 : FL RX10 34 10 6 RX10 TX10 7 := ⟨inW_RX10, rfl, by decide, okw_in (List.mem_of_getElem? (i := 374) (by decide +kernel)) (by decide +kernel)⟩
theorem fl_RX10_9 : FL RX10 9 10 3 RX10 TX10 7 := ⟨inW_RX10, rfl, by decide, okw_in (List.mem_of_getElem? (i := 371) (by decide +kernel)) (by decide +kernel)⟩
theorem fl_RX10_15 : FL RX10 15 10 4 RX10 TX10 7 := ⟨inW_RX10, rfl, by decide, okw_in (List.mem_of_getElem? (i := 372) (by decide +kernel)) (by decide +kernel)⟩
theorem rl_20010 : rg 20010 := ⟨by decide, by decide⟩
theorem ml_RX11_307 : Cond.methodLink RX11 307 yX10_tell ∈ okw := okw_in (List.mem_of_getElem? (i := 1004) (by decide +kernel)) (by decide +kernel)
theorem mw_X10_tell : MV yX10_tell cX10_tell 4 none 2 := ⟨⟨okw_in (List.mem_of_getElem? (i := 1007) (by decide +kernel)) (by decide +kernel), okw_in (List.mem_of_getElem? (i := 77) (by decide +kernel)) (by decide +kernel), by decide, by decide, by decide +kernel⟩, okw_in (List.mem_of_getElem? (i := 1005) (by decide +kernel)) (by decide +kernel), okw_in (List.mem_of_getElem? (i := 1006) (by decide +kernel)) (by decide +kernel)⟩
theorem ml_RX7_60 : Cond.methodLink RX7 60 yX1_isCue ∈ okw := okw_in (List.mem_of_getElem? (i := 1024) (by decide +kernel)) (by decide +kernel)
theorem fl_RX10_26 : FL RX10 26 10 1 RX10 TX10 7 := ⟨inW_RX10, rfl, by decide, okw_in (List.mem_of_getElem? (i := 369) (by decide +kernel)) (by decide +kernel)⟩
theorem fl_RX10_38 : FL RX10 38 1 4 RX1 TX1 5 := ⟨inW_RX1, rfl, by decide, okw_in (List.mem_of_getElem? (i := 190) (by decide +kernel)) (by decide +kernel)⟩
theorem fl_RX10_30 : FL RX10 30 10 2 RX10 TX10 7 := ⟨inW_RX10, rfl, by decide, okw_in (List.mem_of_getElem? (i := 370) (by decide +kernel)) (by decide +kernel)⟩
theorem ml_RX10_41 : Cond.methodLink RX10 41 yX7_isExpected ∈ okw := okw_in (List.mem_of_getElem? (i := 1020) (by decide +kernel)) (by decide +kernel)
theorem mw_X7_isExpected : MV yX7_isExpected cX7_isExpected 3 (some .boolean) 1 := ⟨⟨okw_in (List.mem_of_getElem? (i := 1023) (by decide +kernel)) (by decide +kernel), okw_in (List.mem_of_getElem? (i := 76) (by decide +kernel)) (by decide +kernel), by decide, by decide, by decide +kernel⟩, okw_in (List.mem_of_getElem? (i := 1021) (by decide +kernel)) (by decide +kernel), okw_in (List.mem_of_getElem? (i := 1022) (by decide +kernel)) (by decide +kernel)⟩
theorem fl_RX10_22 : FL RX10 22 10 0 RX10 TX10 7 := ⟨inW_RX10, rfl, by decide, okw_in (List.mem_of_getElem? (i := 368) (by decide +kernel)) (by decide +kernel)⟩
theorem fl_RX10_62 : FL RX10 62 8 4 RX8 TX8 6 := ⟨inW_RX8, rfl, by decide, okw_in (List.mem_of_getElem? (i := 158) (by decide +kernel)) (by decide +kernel)⟩
theorem ml_RX10_81 : Cond.methodLink RX10 81 yX2_lateOf ∈ okw := okw_in (List.mem_of_getElem? (i := 1048) (by decide +kernel)) (by decide +kernel)
theorem mw_X2_lateOf : MV yX2_lateOf cX2_lateOf 2 (some .int) 1 := ⟨⟨okw_in (List.mem_of_getElem? (i := 1051) (by decide +kernel)) (by decide +kernel), okw_in (List.mem_of_getElem? (i := 69) (by decide +kernel)) (by decide +kernel), by decide, by decide, by decide +kernel⟩, okw_in (List.mem_of_getElem? (i := 1049) (by decide +kernel)) (by decide +kernel), okw_in (List.mem_of_getElem? (i := 1050) (by decide +kernel)) (by decide +kernel)⟩
theorem ml_RX10_68 : Cond.methodLink RX10 68 yX7_kindHad ∈ okw := okw_in (List.mem_of_getElem? (i := 1037) (by decide +kernel)) (by decide +kernel)
theorem mw_X7_kindHad : MV yX7_kindHad cX7_kindHad 2 (some .int) 1 := ⟨⟨okw_in (List.mem_of_getElem? (i := 1040) (by decide +kernel)) (by decide +kernel), okw_in (List.mem_of_getElem? (i := 76) (by decide +kernel)) (by decide +kernel), by decide, by decide, by decide +kernel⟩, okw_in (List.mem_of_getElem? (i := 1038) (by decide +kernel)) (by decide +kernel), okw_in (List.mem_of_getElem? (i := 1039) (by decide +kernel)) (by decide +kernel)⟩
theorem ml_RX10_76 : Cond.methodLink RX10 76 Lib.Math.abs.name ∈ okw := okw_in (List.mem_of_getElem? (i := 1043) (by decide +kernel)) (by decide +kernel)
theorem ml_RX10_59 : Cond.methodLink RX10 59 yX10_lateOf ∈ okw := okw_in (List.mem_of_getElem? (i := 1044) (by decide +kernel)) (by decide +kernel)
theorem mw_X10_lateOf : MV yX10_lateOf cX10_lateOf 2 (some .int) 1 := ⟨⟨okw_in (List.mem_of_getElem? (i := 1047) (by decide +kernel)) (by decide +kernel), okw_in (List.mem_of_getElem? (i := 77) (by decide +kernel)) (by decide +kernel), by decide, by decide, by decide +kernel⟩, okw_in (List.mem_of_getElem? (i := 1046) (by decide +kernel)) (by decide +kernel), okw_in (List.mem_of_getElem? (i := 31) (by decide +kernel)) (by decide +kernel)⟩
theorem ml_RX10_55 : Cond.methodLink RX10 55 yX1_burstOf ∈ okw := okw_in (List.mem_of_getElem? (i := 1042) (by decide +kernel)) (by decide +kernel)
theorem ml_RX10_71 : Cond.methodLink RX10 71 yX2_colourOf ∈ okw := okw_in (List.mem_of_getElem? (i := 1041) (by decide +kernel)) (by decide +kernel)
theorem fl_RX10_18 : FL RX10 18 10 5 RX10 TX10 7 := ⟨inW_RX10, rfl, by decide, okw_in (List.mem_of_getElem? (i := 373) (by decide +kernel)) (by decide +kernel)⟩
theorem ml_RX10_47 : Cond.methodLink RX10 47 yX10_mayBe ∈ okw := okw_in (List.mem_of_getElem? (i := 1033) (by decide +kernel)) (by decide +kernel)
theorem mw_X10_mayBe : MV yX10_mayBe cX10_mayBe 4 (some .boolean) 3 := ⟨⟨okw_in (List.mem_of_getElem? (i := 1036) (by decide +kernel)) (by decide +kernel), okw_in (List.mem_of_getElem? (i := 77) (by decide +kernel)) (by decide +kernel), by decide, by decide, by decide +kernel⟩, okw_in (List.mem_of_getElem? (i := 1035) (by decide +kernel)) (by decide +kernel), okw_in (List.mem_of_getElem? (i := 30) (by decide +kernel)) (by decide +kernel)⟩
theorem ml_RX10_51 : Cond.methodLink RX10 51 yX10_firstToEnd ∈ okw := okw_in (List.mem_of_getElem? (i := 1029) (by decide +kernel)) (by decide +kernel)
theorem mw_X10_firstToEnd : MV yX10_firstToEnd cX10_firstToEnd 8 (some .int) 3 := ⟨⟨okw_in (List.mem_of_getElem? (i := 1032) (by decide +kernel)) (by decide +kernel), okw_in (List.mem_of_getElem? (i := 77) (by decide +kernel)) (by decide +kernel), by decide, by decide, by decide +kernel⟩, okw_in (List.mem_of_getElem? (i := 1031) (by decide +kernel)) (by decide +kernel), okw_in (List.mem_of_getElem? (i := 29) (by decide +kernel)) (by decide +kernel)⟩
theorem ml_RX11_312 : Cond.methodLink RX11 312 yX10_greatestMatching ∈ okw := okw_in (List.mem_of_getElem? (i := 1025) (by decide +kernel)) (by decide +kernel)
theorem mw_X10_greatestMatching : MV yX10_greatestMatching cX10_greatestMatching 5 (some .int) 1 := ⟨⟨okw_in (List.mem_of_getElem? (i := 1028) (by decide +kernel)) (by decide +kernel), okw_in (List.mem_of_getElem? (i := 77) (by decide +kernel)) (by decide +kernel), by decide, by decide, by decide +kernel⟩, okw_in (List.mem_of_getElem? (i := 1026) (by decide +kernel)) (by decide +kernel), okw_in (List.mem_of_getElem? (i := 1027) (by decide +kernel)) (by decide +kernel)⟩
theorem ml_RX11_309 : Cond.methodLink RX11 309 yX10_expected ∈ okw := okw_in (List.mem_of_getElem? (i := 1016) (by decide +kernel)) (by decide +kernel)
theorem mw_X10_expected : MV yX10_expected cX10_expected 3 (some .int) 0 := ⟨⟨okw_in (List.mem_of_getElem? (i := 1019) (by decide +kernel)) (by decide +kernel), okw_in (List.mem_of_getElem? (i := 77) (by decide +kernel)) (by decide +kernel), by decide, by decide, by decide +kernel⟩, okw_in (List.mem_of_getElem? (i := 1017) (by decide +kernel)) (by decide +kernel), okw_in (List.mem_of_getElem? (i := 1018) (by decide +kernel)) (by decide +kernel)⟩
theorem ml_RX11_318 : Cond.methodLink RX11 318 yX10_mayBeSeen ∈ okw := okw_in (List.mem_of_getElem? (i := 1057) (by decide +kernel)) (by decide +kernel)
theorem mw_X10_mayBeSeen : MV yX10_mayBeSeen cX10_mayBeSeen 3 (some .boolean) 1 := ⟨⟨okw_in (List.mem_of_getElem? (i := 1060) (by decide +kernel)) (by decide +kernel), okw_in (List.mem_of_getElem? (i := 77) (by decide +kernel)) (by decide +kernel), by decide, by decide, by decide +kernel⟩, okw_in (List.mem_of_getElem? (i := 1058) (by decide +kernel)) (by decide +kernel), okw_in (List.mem_of_getElem? (i := 1059) (by decide +kernel)) (by decide +kernel)⟩
theorem ml_RX11_315 : Cond.methodLink RX11 315 yX7_isExpected ∈ okw := okw_in (List.mem_of_getElem? (i := 1056) (by decide +kernel)) (by decide +kernel)
theorem fp_RX9_0 : FP RX9 TX9 4 0 .int := ⟨tyX9, tyX9_ok, nmX9, rfl, by decide +kernel⟩
theorem fp_RX9_1 : FP RX9 TX9 4 1 .int := ⟨tyX9, tyX9_ok, nmX9, rfl, by decide +kernel⟩
theorem ml_RX9_29 : Cond.methodLink RX9 29 yJ7_fill_d0a16 ∈ okw := okw_in (List.mem_of_getElem? (i := 1073) (by decide +kernel)) (by decide +kernel)
theorem ml_RX11_321 : Cond.methodLink RX11 321 yX9_makeRow ∈ okw := okw_in (List.mem_of_getElem? (i := 1069) (by decide +kernel)) (by decide +kernel)
theorem mw_X9_makeRow : MV yX9_makeRow cX9_makeRow 3 none 2 := ⟨⟨okw_in (List.mem_of_getElem? (i := 1072) (by decide +kernel)) (by decide +kernel), okw_in (List.mem_of_getElem? (i := 78) (by decide +kernel)) (by decide +kernel), by decide, by decide, by decide +kernel⟩, okw_in (List.mem_of_getElem? (i := 1070) (by decide +kernel)) (by decide +kernel), okw_in (List.mem_of_getElem? (i := 1071) (by decide +kernel)) (by decide +kernel)⟩
theorem rl_m14 : rg (-14) := ⟨by decide, by decide⟩
theorem fl_RX9_18 : FL RX9 18 9 3 RX9 TX9 4 := ⟨inW_RX9, rfl, by decide, okw_in (List.mem_of_getElem? (i := 409) (by decide +kernel)) (by decide +kernel)⟩
theorem ml_RX9_35 : Cond.methodLink RX9 35 yX1_become ∈ okw := okw_in (List.mem_of_getElem? (i := 1084) (by decide +kernel)) (by decide +kernel)
theorem ml_RX11_324 : Cond.methodLink RX11 324 yX9_makeShow ∈ okw := okw_in (List.mem_of_getElem? (i := 1080) (by decide +kernel)) (by decide +kernel)
theorem mw_X9_makeShow : MV yX9_makeShow cX9_makeShow 2 none 1 := ⟨⟨okw_in (List.mem_of_getElem? (i := 1083) (by decide +kernel)) (by decide +kernel), okw_in (List.mem_of_getElem? (i := 78) (by decide +kernel)) (by decide +kernel), by decide, by decide, by decide +kernel⟩, okw_in (List.mem_of_getElem? (i := 1081) (by decide +kernel)) (by decide +kernel), okw_in (List.mem_of_getElem? (i := 1082) (by decide +kernel)) (by decide +kernel)⟩
theorem fl_RX8_68 : FL RX8 68 1 4 RX1 TX1 5 := ⟨inW_RX1, rfl, by decide, okw_in (List.mem_of_getElem? (i := 191) (by decide +kernel)) (by decide +kernel)⟩
theorem ml_RX8_72 : Cond.methodLink RX8 72 yX1_bargeOf ∈ okw := okw_in (List.mem_of_getElem? (i := 1093) (by decide +kernel)) (by decide +kernel)
theorem fl_RX11_327 : FL RX11 327 9 3 RX9 TX9 4 := ⟨inW_RX9, rfl, by decide, okw_in (List.mem_of_getElem? (i := 410) (by decide +kernel)) (by decide +kernel)⟩
theorem ml_RX11_219 : Cond.methodLink RX11 219 yX8_fireOf ∈ okw := okw_in (List.mem_of_getElem? (i := 1094) (by decide +kernel)) (by decide +kernel)
theorem ml_RX11_330 : Cond.methodLink RX11 330 yX8_tellsAllOf ∈ okw := okw_in (List.mem_of_getElem? (i := 1089) (by decide +kernel)) (by decide +kernel)
theorem mw_X8_tellsAllOf : MV yX8_tellsAllOf cX8_tellsAllOf 4 (some .boolean) 1 := ⟨⟨okw_in (List.mem_of_getElem? (i := 1092) (by decide +kernel)) (by decide +kernel), okw_in (List.mem_of_getElem? (i := 68) (by decide +kernel)) (by decide +kernel), by decide, by decide, by decide +kernel⟩, okw_in (List.mem_of_getElem? (i := 1090) (by decide +kernel)) (by decide +kernel), okw_in (List.mem_of_getElem? (i := 1091) (by decide +kernel)) (by decide +kernel)⟩
theorem fl_RX11_337 : FL RX11 337 9 0 RX9 TX9 4 := ⟨inW_RX9, rfl, by decide, okw_in (List.mem_of_getElem? (i := 401) (by decide +kernel)) (by decide +kernel)⟩
theorem ml_RX9_47 : Cond.methodLink RX9 47 yX9_narrowed ∈ okw := okw_in (List.mem_of_getElem? (i := 1188) (by decide +kernel)) (by decide +kernel)
theorem mw_X9_narrowed : MV yX9_narrowed cX9_narrowed 3 (some .long) 1 := ⟨⟨okw_in (List.mem_of_getElem? (i := 1191) (by decide +kernel)) (by decide +kernel), okw_in (List.mem_of_getElem? (i := 78) (by decide +kernel)) (by decide +kernel), by decide, by decide, by decide +kernel⟩, okw_in (List.mem_of_getElem? (i := 1190) (by decide +kernel)) (by decide +kernel), okw_in (List.mem_of_getElem? (i := 33) (by decide +kernel)) (by decide +kernel)⟩
theorem ml_RX11_346 : Cond.methodLink RX11 346 yX9_setValue ∈ okw := okw_in (List.mem_of_getElem? (i := 1184) (by decide +kernel)) (by decide +kernel)
theorem mw_X9_setValue : MV yX9_setValue cX9_setValue 4 none 2 := ⟨⟨okw_in (List.mem_of_getElem? (i := 1187) (by decide +kernel)) (by decide +kernel), okw_in (List.mem_of_getElem? (i := 78) (by decide +kernel)) (by decide +kernel), by decide, by decide, by decide +kernel⟩, okw_in (List.mem_of_getElem? (i := 1185) (by decide +kernel)) (by decide +kernel), okw_in (List.mem_of_getElem? (i := 1186) (by decide +kernel)) (by decide +kernel)⟩
theorem ml_RX11_343 : Cond.methodLink RX11 343 yX9_hasPlace ∈ okw := okw_in (List.mem_of_getElem? (i := 1183) (by decide +kernel)) (by decide +kernel)
theorem ml_RX11_340 : Cond.methodLink RX11 340 yX9_isRow ∈ okw := okw_in (List.mem_of_getElem? (i := 1179) (by decide +kernel)) (by decide +kernel)
theorem mw_X9_isRow : MV yX9_isRow cX9_isRow 1 (some .boolean) 0 := ⟨⟨okw_in (List.mem_of_getElem? (i := 1182) (by decide +kernel)) (by decide +kernel), okw_in (List.mem_of_getElem? (i := 78) (by decide +kernel)) (by decide +kernel), by decide, by decide, by decide +kernel⟩, okw_in (List.mem_of_getElem? (i := 1180) (by decide +kernel)) (by decide +kernel), okw_in (List.mem_of_getElem? (i := 1181) (by decide +kernel)) (by decide +kernel)⟩
theorem fl_RX11_361 : FL RX11 361 9 2 RX9 TX9 4 := ⟨inW_RX9, rfl, by decide, okw_in (List.mem_of_getElem? (i := 408) (by decide +kernel)) (by decide +kernel)⟩
theorem ml_RX11_365 : Cond.methodLink RX11 365 arraycopyName ∈ okw := okw_in (List.mem_of_getElem? (i := 1200) (by decide +kernel)) (by decide +kernel)
theorem ml_RX11_358 : Cond.methodLink RX11 358 yX9_hasPlaces ∈ okw := okw_in (List.mem_of_getElem? (i := 1196) (by decide +kernel)) (by decide +kernel)
theorem mw_X9_hasPlaces : MV yX9_hasPlaces cX9_hasPlaces 3 (some .boolean) 2 := ⟨⟨okw_in (List.mem_of_getElem? (i := 1199) (by decide +kernel)) (by decide +kernel), okw_in (List.mem_of_getElem? (i := 78) (by decide +kernel)) (by decide +kernel), by decide, by decide, by decide +kernel⟩, okw_in (List.mem_of_getElem? (i := 1197) (by decide +kernel)) (by decide +kernel), okw_in (List.mem_of_getElem? (i := 1198) (by decide +kernel)) (by decide +kernel)⟩
theorem ml_RX11_374 : Cond.methodLink RX11 374 yX8_bargesTold ∈ okw := okw_in (List.mem_of_getElem? (i := 1209) (by decide +kernel)) (by decide +kernel)
theorem mw_X8_bargesTold : MV yX8_bargesTold cX8_bargesTold 3 (some .int) 0 := ⟨⟨okw_in (List.mem_of_getElem? (i := 1212) (by decide +kernel)) (by decide +kernel), okw_in (List.mem_of_getElem? (i := 68) (by decide +kernel)) (by decide +kernel), by decide, by decide, by decide +kernel⟩, okw_in (List.mem_of_getElem? (i := 1210) (by decide +kernel)) (by decide +kernel), okw_in (List.mem_of_getElem? (i := 1211) (by decide +kernel)) (by decide +kernel)⟩
theorem ml_RX11_371 : Cond.methodLink RX11 371 yX2_number ∈ okw := okw_in (List.mem_of_getElem? (i := 1205) (by decide +kernel)) (by decide +kernel)
theorem mw_X2_number : MV yX2_number cX2_number 3 (some .int) 0 := ⟨⟨okw_in (List.mem_of_getElem? (i := 1208) (by decide +kernel)) (by decide +kernel), okw_in (List.mem_of_getElem? (i := 69) (by decide +kernel)) (by decide +kernel), by decide, by decide, by decide +kernel⟩, okw_in (List.mem_of_getElem? (i := 1206) (by decide +kernel)) (by decide +kernel), okw_in (List.mem_of_getElem? (i := 1207) (by decide +kernel)) (by decide +kernel)⟩
theorem inW_RX12 : ∀ w ∈ u_ws RX12 TX12 57, w ∈ okw := in_places [1328, 1330, 1332, 1334, 1336, 1338, 1340, 1342, 1344, 1346, 1348, 1350, 1352, 1354, 1356, 1358, 1360, 1362, 1364, 1366, 1368, 1370, 1372, 1374, 1376, 1378, 1380, 1382, 1384, 1386, 1388, 1390, 1392, 1394, 1396, 1398, 1400, 1402, 1404, 1406, 1408, 1410, 1412, 1414, 1416, 1418, 1420, 1422, 1424, 1426, 1428, 1430, 1432, 1434, 1436, 1438, 1440] (by decide +kernel) (by decide +kernel)
theorem fl_RX12_148 : FL RX12 148 12 38 RX12 TX12 57 := ⟨inW_RX12, rfl, by decide, okw_in (List.mem_of_getElem? (i := 1309) (by decide +kernel)) (by decide +kernel)⟩
theorem fl_RX12_152 : FL RX12 152 12 37 RX12 TX12 57 := ⟨inW_RX12, rfl, by decide, okw_in (List.mem_of_getElem? (i := 1308) (by decide +kernel)) (by decide +kernel)⟩
theorem fp_RX12_37 : FP RX12 TX12 57 37 .int := ⟨tyX12, tyX12_ok, nmX12, rfl, by decide +kernel⟩
theorem fl_RX12_155 : FL RX12 155 12 54 RX12 TX12 57 := ⟨inW_RX12, rfl, by decide, okw_in (List.mem_of_getElem? (i := 1325) (by decide +kernel)) (by decide +kernel)⟩
theorem fp_RX12_54 : FP RX12 TX12 57 54 .boolean := ⟨tyX12, tyX12_ok, nmX12, rfl, by decide +kernel⟩
theorem fl_RX12_9 : FL RX12 9 12 0 RX12 TX12 57 := ⟨inW_RX12, rfl, by decide, okw_in (List.mem_of_getElem? (i := 1271) (by decide +kernel)) (by decide +kernel)⟩
theorem fl_RX12_13 : FL RX12 13 12 1 RX12 TX12 57 := ⟨inW_RX12, rfl, by decide, okw_in (List.mem_of_getElem? (i := 1272) (by decide +kernel)) (by decide +kernel)⟩
theorem fl_RX12_37 : FL RX12 37 12 9 RX12 TX12 57 := ⟨inW_RX12, rfl, by decide, okw_in (List.mem_of_getElem? (i := 1280) (by decide +kernel)) (by decide +kernel)⟩
theorem fl_RX12_40 : FL RX12 40 12 10 RX12 TX12 57 := ⟨inW_RX12, rfl, by decide, okw_in (List.mem_of_getElem? (i := 1281) (by decide +kernel)) (by decide +kernel)⟩
theorem fl_RX12_43 : FL RX12 43 12 11 RX12 TX12 57 := ⟨inW_RX12, rfl, by decide, okw_in (List.mem_of_getElem? (i := 1282) (by decide +kernel)) (by decide +kernel)⟩
theorem fl_RX12_159 : FL RX12 159 12 32 RX12 TX12 57 := ⟨inW_RX12, rfl, by decide, okw_in (List.mem_of_getElem? (i := 1303) (by decide +kernel)) (by decide +kernel)⟩
theorem fp_RX12_32 : FP RX12 TX12 57 32 .int := ⟨tyX12, tyX12_ok, nmX12, rfl, by decide +kernel⟩
theorem fl_RX12_162 : FL RX12 162 12 33 RX12 TX12 57 := ⟨inW_RX12, rfl, by decide, okw_in (List.mem_of_getElem? (i := 1304) (by decide +kernel)) (by decide +kernel)⟩
theorem fp_RX12_33 : FP RX12 TX12 57 33 .int := ⟨tyX12, tyX12_ok, nmX12, rfl, by decide +kernel⟩
theorem fl_RX12_165 : FL RX12 165 12 34 RX12 TX12 57 := ⟨inW_RX12, rfl, by decide, okw_in (List.mem_of_getElem? (i := 1305) (by decide +kernel)) (by decide +kernel)⟩
theorem fp_RX12_34 : FP RX12 TX12 57 34 .int := ⟨tyX12, tyX12_ok, nmX12, rfl, by decide +kernel⟩
theorem fl_RX12_168 : FL RX12 168 12 35 RX12 TX12 57 := ⟨inW_RX12, rfl, by decide, okw_in (List.mem_of_getElem? (i := 1306) (by decide +kernel)) (by decide +kernel)⟩
theorem fp_RX12_35 : FP RX12 TX12 57 35 .int := ⟨tyX12, tyX12_ok, nmX12, rfl, by decide +kernel⟩
theorem fl_RX12_171 : FL RX12 171 12 36 RX12 TX12 57 := ⟨inW_RX12, rfl, by decide, okw_in (List.mem_of_getElem? (i := 1307) (by decide +kernel)) (by decide +kernel)⟩
theorem fp_RX12_36 : FP RX12 TX12 57 36 .int := ⟨tyX12, tyX12_ok, nmX12, rfl, by decide +kernel⟩
theorem fl_RX12_174 : FL RX12 174 12 31 RX12 TX12 57 := ⟨inW_RX12, rfl, by decide, okw_in (List.mem_of_getElem? (i := 1302) (by decide +kernel)) (by decide +kernel)⟩
theorem fp_RX12_31 : FP RX12 TX12 57 31 .int := ⟨tyX12, tyX12_ok, nmX12, rfl, by decide +kernel⟩
theorem ml_RX12_177 : Cond.methodLink RX12 177 yX12_isIn ∈ okw := okw_in (List.mem_of_getElem? (i := 1452) (by decide +kernel)) (by decide +kernel)
theorem mw_X12_isIn : MS yX12_isIn cX12_isIn 3 (some .boolean) 3 := ⟨⟨okw_in (List.mem_of_getElem? (i := 1454) (by decide +kernel)) (by decide +kernel), okw_in (List.mem_of_getElem? (i := 79) (by decide +kernel)) (by decide +kernel), by decide, by decide, by decide +kernel⟩, okw_in (List.mem_of_getElem? (i := 1453) (by decide +kernel)) (by decide +kernel)⟩
theorem rl_11 : rg 11 := ⟨by decide, by decide⟩
theorem kc_RX12_181 : Cond.constant RX12 181 (99999 : Int32) ∈ okw := okw_in (List.mem_of_getElem? (i := 1459) (by decide +kernel)) (by decide +kernel)
theorem rl_99999 : rg 99999 := ⟨by decide, by decide⟩
theorem fl_RX12_49 : FL RX12 49 12 13 RX12 TX12 57 := ⟨inW_RX12, rfl, by decide, okw_in (List.mem_of_getElem? (i := 1284) (by decide +kernel)) (by decide +kernel)⟩
theorem fl_RX12_46 : FL RX12 46 12 12 RX12 TX12 57 := ⟨inW_RX12, rfl, by decide, okw_in (List.mem_of_getElem? (i := 1283) (by decide +kernel)) (by decide +kernel)⟩
theorem fl_RX12_16 : FL RX12 16 12 2 RX12 TX12 57 := ⟨inW_RX12, rfl, by decide, okw_in (List.mem_of_getElem? (i := 1273) (by decide +kernel)) (by decide +kernel)⟩
theorem fl_RX12_19 : FL RX12 19 12 3 RX12 TX12 57 := ⟨inW_RX12, rfl, by decide, okw_in (List.mem_of_getElem? (i := 1274) (by decide +kernel)) (by decide +kernel)⟩
theorem fl_RX12_22 : FL RX12 22 12 4 RX12 TX12 57 := ⟨inW_RX12, rfl, by decide, okw_in (List.mem_of_getElem? (i := 1275) (by decide +kernel)) (by decide +kernel)⟩
theorem fl_RX12_25 : FL RX12 25 12 5 RX12 TX12 57 := ⟨inW_RX12, rfl, by decide, okw_in (List.mem_of_getElem? (i := 1276) (by decide +kernel)) (by decide +kernel)⟩
theorem fl_RX12_28 : FL RX12 28 12 6 RX12 TX12 57 := ⟨inW_RX12, rfl, by decide, okw_in (List.mem_of_getElem? (i := 1277) (by decide +kernel)) (by decide +kernel)⟩
theorem fl_RX12_31 : FL RX12 31 12 7 RX12 TX12 57 := ⟨inW_RX12, rfl, by decide, okw_in (List.mem_of_getElem? (i := 1278) (by decide +kernel)) (by decide +kernel)⟩
theorem fl_RX12_34 : FL RX12 34 12 8 RX12 TX12 57 := ⟨inW_RX12, rfl, by decide, okw_in (List.mem_of_getElem? (i := 1279) (by decide +kernel)) (by decide +kernel)⟩
theorem ml_RX12_182 : Cond.methodLink RX12 182 yX12_amount ∈ okw := okw_in (List.mem_of_getElem? (i := 1488) (by decide +kernel)) (by decide +kernel)
theorem mw_X12_amount : MS yX12_amount cX12_amount 1 (some .int) 1 := ⟨⟨okw_in (List.mem_of_getElem? (i := 1490) (by decide +kernel)) (by decide +kernel), okw_in (List.mem_of_getElem? (i := 79) (by decide +kernel)) (by decide +kernel), by decide, by decide, by decide +kernel⟩, okw_in (List.mem_of_getElem? (i := 1489) (by decide +kernel)) (by decide +kernel)⟩
theorem ml_RX12_193 : Cond.methodLink RX12 193 yX12_mayHold ∈ okw := okw_in (List.mem_of_getElem? (i := 1484) (by decide +kernel)) (by decide +kernel)
theorem mw_X12_mayHold : MV yX12_mayHold cX12_mayHold 5 (some .boolean) 2 := ⟨⟨okw_in (List.mem_of_getElem? (i := 1487) (by decide +kernel)) (by decide +kernel), okw_in (List.mem_of_getElem? (i := 79) (by decide +kernel)) (by decide +kernel), by decide, by decide, by decide +kernel⟩, okw_in (List.mem_of_getElem? (i := 1486) (by decide +kernel)) (by decide +kernel), okw_in (List.mem_of_getElem? (i := 36) (by decide +kernel)) (by decide +kernel)⟩
theorem ml_RX12_190 : Cond.methodLink RX12 190 yX12_isKind ∈ okw := okw_in (List.mem_of_getElem? (i := 1480) (by decide +kernel)) (by decide +kernel)
theorem mw_X12_isKind : MV yX12_isKind cX12_isKind 2 (some .boolean) 1 := ⟨⟨okw_in (List.mem_of_getElem? (i := 1483) (by decide +kernel)) (by decide +kernel), okw_in (List.mem_of_getElem? (i := 79) (by decide +kernel)) (by decide +kernel), by decide, by decide, by decide +kernel⟩, okw_in (List.mem_of_getElem? (i := 1482) (by decide +kernel)) (by decide +kernel), okw_in (List.mem_of_getElem? (i := 35) (by decide +kernel)) (by decide +kernel)⟩
theorem ml_RX12_186 : Cond.methodLink RX12 186 yX12_isBarge ∈ okw := okw_in (List.mem_of_getElem? (i := 1476) (by decide +kernel)) (by decide +kernel)
theorem mw_X12_isBarge : MV yX12_isBarge cX12_isBarge 2 (some .boolean) 1 := ⟨⟨okw_in (List.mem_of_getElem? (i := 1479) (by decide +kernel)) (by decide +kernel), okw_in (List.mem_of_getElem? (i := 79) (by decide +kernel)) (by decide +kernel), by decide, by decide, by decide +kernel⟩, okw_in (List.mem_of_getElem? (i := 1478) (by decide +kernel)) (by decide +kernel), okw_in (List.mem_of_getElem? (i := 34) (by decide +kernel)) (by decide +kernel)⟩
theorem rl_6400 : rg 6400 := ⟨by decide, by decide⟩
theorem rl_m10 : rg (-10) := ⟨by decide, by decide⟩
theorem ml_RX12_197 : Cond.methodLink RX12 197 yX12_lands ∈ okw := okw_in (List.mem_of_getElem? (i := 1503) (by decide +kernel)) (by decide +kernel)
theorem mw_X12_lands : MV yX12_lands cX12_lands 12 (some .int) 6 := ⟨⟨okw_in (List.mem_of_getElem? (i := 1506) (by decide +kernel)) (by decide +kernel), okw_in (List.mem_of_getElem? (i := 79) (by decide +kernel)) (by decide +kernel), by decide, by decide, by decide +kernel⟩, okw_in (List.mem_of_getElem? (i := 1505) (by decide +kernel)) (by decide +kernel), okw_in (List.mem_of_getElem? (i := 39) (by decide +kernel)) (by decide +kernel)⟩
theorem ml_RX12_205 : Cond.methodLink RX12 205 yX12_isSafe ∈ okw := okw_in (List.mem_of_getElem? (i := 1499) (by decide +kernel)) (by decide +kernel)
theorem mw_X12_isSafe : MV yX12_isSafe cX12_isSafe 8 (some .boolean) 4 := ⟨⟨okw_in (List.mem_of_getElem? (i := 1502) (by decide +kernel)) (by decide +kernel), okw_in (List.mem_of_getElem? (i := 79) (by decide +kernel)) (by decide +kernel), by decide, by decide, by decide +kernel⟩, okw_in (List.mem_of_getElem? (i := 1501) (by decide +kernel)) (by decide +kernel), okw_in (List.mem_of_getElem? (i := 38) (by decide +kernel)) (by decide +kernel)⟩
theorem ml_RX12_201 : Cond.methodLink RX12 201 yX12_isLight ∈ okw := okw_in (List.mem_of_getElem? (i := 1495) (by decide +kernel)) (by decide +kernel)
theorem mw_X12_isLight : MV yX12_isLight cX12_isLight 5 (some .boolean) 4 := ⟨⟨okw_in (List.mem_of_getElem? (i := 1498) (by decide +kernel)) (by decide +kernel), okw_in (List.mem_of_getElem? (i := 79) (by decide +kernel)) (by decide +kernel), by decide, by decide, by decide +kernel⟩, okw_in (List.mem_of_getElem? (i := 1497) (by decide +kernel)) (by decide +kernel), okw_in (List.mem_of_getElem? (i := 37) (by decide +kernel)) (by decide +kernel)⟩
theorem fl_RX12_100 : FL RX12 100 12 30 RX12 TX12 57 := ⟨inW_RX12, rfl, by decide, okw_in (List.mem_of_getElem? (i := 1301) (by decide +kernel)) (by decide +kernel)⟩
theorem fl_RX12_208 : FL RX12 208 12 39 RX12 TX12 57 := ⟨inW_RX12, rfl, by decide, okw_in (List.mem_of_getElem? (i := 1310) (by decide +kernel)) (by decide +kernel)⟩
theorem fl_RX12_61 : FL RX12 61 12 17 RX12 TX12 57 := ⟨inW_RX12, rfl, by decide, okw_in (List.mem_of_getElem? (i := 1288) (by decide +kernel)) (by decide +kernel)⟩
theorem fl_RX12_64 : FL RX12 64 12 18 RX12 TX12 57 := ⟨inW_RX12, rfl, by decide, okw_in (List.mem_of_getElem? (i := 1289) (by decide +kernel)) (by decide +kernel)⟩
theorem fl_RX12_67 : FL RX12 67 12 19 RX12 TX12 57 := ⟨inW_RX12, rfl, by decide, okw_in (List.mem_of_getElem? (i := 1290) (by decide +kernel)) (by decide +kernel)⟩
theorem fl_RX12_70 : FL RX12 70 12 20 RX12 TX12 57 := ⟨inW_RX12, rfl, by decide, okw_in (List.mem_of_getElem? (i := 1291) (by decide +kernel)) (by decide +kernel)⟩
theorem fp_RX12_39 : FP RX12 TX12 57 39 .int := ⟨tyX12, tyX12_ok, nmX12, rfl, by decide +kernel⟩
theorem fl_RX12_218 : FL RX12 218 12 40 RX12 TX12 57 := ⟨inW_RX12, rfl, by decide, okw_in (List.mem_of_getElem? (i := 1311) (by decide +kernel)) (by decide +kernel)⟩
theorem ml_RX12_215 : Cond.methodLink RX12 215 yX12_makes ∈ okw := okw_in (List.mem_of_getElem? (i := 1542) (by decide +kernel)) (by decide +kernel)
theorem mw_X12_makes : MV yX12_makes cX12_makes 5 (some .boolean) 4 := ⟨⟨okw_in (List.mem_of_getElem? (i := 1545) (by decide +kernel)) (by decide +kernel), okw_in (List.mem_of_getElem? (i := 79) (by decide +kernel)) (by decide +kernel), by decide, by decide, by decide +kernel⟩, okw_in (List.mem_of_getElem? (i := 1544) (by decide +kernel)) (by decide +kernel), okw_in (List.mem_of_getElem? (i := 45) (by decide +kernel)) (by decide +kernel)⟩
theorem ml_RX12_211 : Cond.methodLink RX12 211 yX12_word ∈ okw := okw_in (List.mem_of_getElem? (i := 1530) (by decide +kernel)) (by decide +kernel)
theorem mw_X12_word : MV yX12_word cX12_word 3 (some .int) 2 := ⟨⟨okw_in (List.mem_of_getElem? (i := 1533) (by decide +kernel)) (by decide +kernel), okw_in (List.mem_of_getElem? (i := 79) (by decide +kernel)) (by decide +kernel), by decide, by decide, by decide +kernel⟩, okw_in (List.mem_of_getElem? (i := 1532) (by decide +kernel)) (by decide +kernel), okw_in (List.mem_of_getElem? (i := 43) (by decide +kernel)) (by decide +kernel)⟩
theorem fp_RX12_40 : FP RX12 TX12 57 40 .int := ⟨tyX12, tyX12_ok, nmX12, rfl, by decide +kernel⟩
theorem fl_RX12_94 : FL RX12 94 12 28 RX12 TX12 57 := ⟨inW_RX12, rfl, by decide, okw_in (List.mem_of_getElem? (i := 1299) (by decide +kernel)) (by decide +kernel)⟩
theorem ml_RX12_225 : Cond.methodLink RX12 225 yX12_cuesBy ∈ okw := okw_in (List.mem_of_getElem? (i := 1538) (by decide +kernel)) (by decide +kernel)
theorem mw_X12_cuesBy : MV yX12_cuesBy cX12_cuesBy 11 (some .boolean) 3 := ⟨⟨okw_in (List.mem_of_getElem? (i := 1541) (by decide +kernel)) (by decide +kernel), okw_in (List.mem_of_getElem? (i := 79) (by decide +kernel)) (by decide +kernel), by decide, by decide, by decide +kernel⟩, okw_in (List.mem_of_getElem? (i := 1540) (by decide +kernel)) (by decide +kernel), okw_in (List.mem_of_getElem? (i := 44) (by decide +kernel)) (by decide +kernel)⟩
theorem fl_RX12_107 : FL RX12 107 12 42 RX12 TX12 57 := ⟨inW_RX12, rfl, by decide, okw_in (List.mem_of_getElem? (i := 1313) (by decide +kernel)) (by decide +kernel)⟩
theorem fl_RX12_104 : FL RX12 104 12 41 RX12 TX12 57 := ⟨inW_RX12, rfl, by decide, okw_in (List.mem_of_getElem? (i := 1312) (by decide +kernel)) (by decide +kernel)⟩
theorem kc_RX12_224 : Cond.constant RX12 224 (1000000 : Int32) ∈ okw := okw_in (List.mem_of_getElem? (i := 1537) (by decide +kernel)) (by decide +kernel)
theorem ml_RX12_221 : Cond.methodLink RX12 221 yX12_numbers ∈ okw := okw_in (List.mem_of_getElem? (i := 1534) (by decide +kernel)) (by decide +kernel)
theorem mw_X12_numbers : MS yX12_numbers cX12_numbers 1 (some .int) 1 := ⟨⟨okw_in (List.mem_of_getElem? (i := 1536) (by decide +kernel)) (by decide +kernel), okw_in (List.mem_of_getElem? (i := 79) (by decide +kernel)) (by decide +kernel), by decide, by decide, by decide +kernel⟩, okw_in (List.mem_of_getElem? (i := 1535) (by decide +kernel)) (by decide +kernel)⟩
theorem fl_RX12_91 : FL RX12 91 12 27 RX12 TX12 57 := ⟨inW_RX12, rfl, by decide, okw_in (List.mem_of_getElem? (i := 1298) (by decide +kernel)) (by decide +kernel)⟩
theorem ml_RX12_228 : Cond.methodLink RX12 228 yX12_host ∈ okw := okw_in (List.mem_of_getElem? (i := 1522) (by decide +kernel)) (by decide +kernel)
theorem mw_X12_host : MV yX12_host cX12_host 2 (some .int) 1 := ⟨⟨okw_in (List.mem_of_getElem? (i := 1525) (by decide +kernel)) (by decide +kernel), okw_in (List.mem_of_getElem? (i := 79) (by decide +kernel)) (by decide +kernel), by decide, by decide, by decide +kernel⟩, okw_in (List.mem_of_getElem? (i := 1524) (by decide +kernel)) (by decide +kernel), okw_in (List.mem_of_getElem? (i := 41) (by decide +kernel)) (by decide +kernel)⟩
theorem fl_RX12_58 : FL RX12 58 12 16 RX12 TX12 57 := ⟨inW_RX12, rfl, by decide, okw_in (List.mem_of_getElem? (i := 1287) (by decide +kernel)) (by decide +kernel)⟩
theorem fl_RX12_52 : FL RX12 52 12 14 RX12 TX12 57 := ⟨inW_RX12, rfl, by decide, okw_in (List.mem_of_getElem? (i := 1285) (by decide +kernel)) (by decide +kernel)⟩
theorem fl_RX12_55 : FL RX12 55 12 15 RX12 TX12 57 := ⟨inW_RX12, rfl, by decide, okw_in (List.mem_of_getElem? (i := 1286) (by decide +kernel)) (by decide +kernel)⟩
theorem ml_RX12_240 : Cond.methodLink RX12 240 yX12_comes ∈ okw := okw_in (List.mem_of_getElem? (i := 1546) (by decide +kernel)) (by decide +kernel)
theorem mw_X12_comes : MV yX12_comes cX12_comes 3 none 1 := ⟨⟨okw_in (List.mem_of_getElem? (i := 1549) (by decide +kernel)) (by decide +kernel), okw_in (List.mem_of_getElem? (i := 79) (by decide +kernel)) (by decide +kernel), by decide, by decide, by decide +kernel⟩, okw_in (List.mem_of_getElem? (i := 1548) (by decide +kernel)) (by decide +kernel), okw_in (List.mem_of_getElem? (i := 46) (by decide +kernel)) (by decide +kernel)⟩
theorem ml_RX12_237 : Cond.methodLink RX12 237 yX12_writes ∈ okw := okw_in (List.mem_of_getElem? (i := 1526) (by decide +kernel)) (by decide +kernel)
theorem mw_X12_writes : MV yX12_writes cX12_writes 8 (some .int) 1 := ⟨⟨okw_in (List.mem_of_getElem? (i := 1529) (by decide +kernel)) (by decide +kernel), okw_in (List.mem_of_getElem? (i := 79) (by decide +kernel)) (by decide +kernel), by decide, by decide, by decide +kernel⟩, okw_in (List.mem_of_getElem? (i := 1528) (by decide +kernel)) (by decide +kernel), okw_in (List.mem_of_getElem? (i := 42) (by decide +kernel)) (by decide +kernel)⟩
theorem ml_RX12_234 : Cond.methodLink RX12 234 yX12_wrongBytes ∈ okw := okw_in (List.mem_of_getElem? (i := 1518) (by decide +kernel)) (by decide +kernel)
theorem mw_X12_wrongBytes : MV yX12_wrongBytes cX12_wrongBytes 2 (some .int) 1 := ⟨⟨okw_in (List.mem_of_getElem? (i := 1521) (by decide +kernel)) (by decide +kernel), okw_in (List.mem_of_getElem? (i := 79) (by decide +kernel)) (by decide +kernel), by decide, by decide, by decide +kernel⟩, okw_in (List.mem_of_getElem? (i := 1520) (by decide +kernel)) (by decide +kernel), okw_in (List.mem_of_getElem? (i := 40) (by decide +kernel)) (by decide +kernel)⟩
theorem ml_RX12_231 : Cond.methodLink RX12 231 yX12_isTape ∈ okw := okw_in (List.mem_of_getElem? (i := 1515) (by decide +kernel)) (by decide +kernel)
theorem mw_X12_isTape : MS yX12_isTape cX12_isTape 1 (some .boolean) 1 := ⟨⟨okw_in (List.mem_of_getElem? (i := 1517) (by decide +kernel)) (by decide +kernel), okw_in (List.mem_of_getElem? (i := 79) (by decide +kernel)) (by decide +kernel), by decide, by decide, by decide +kernel⟩, okw_in (List.mem_of_getElem? (i := 1516) (by decide +kernel)) (by decide +kernel)⟩
theorem fp_RX12_38 : FP RX12 TX12 57 38 .int := ⟨tyX12, tyX12_ok, nmX12, rfl, by decide +kernel⟩
theorem ml_RX12_244 : Cond.methodLink RX12 244 yX12_isCue ∈ okw := okw_in (List.mem_of_getElem? (i := 1554) (by decide +kernel)) (by decide +kernel)
theorem mw_X12_isCue : MV yX12_isCue cX12_isCue 2 (some .boolean) 1 := ⟨⟨okw_in (List.mem_of_getElem? (i := 1557) (by decide +kernel)) (by decide +kernel), okw_in (List.mem_of_getElem? (i := 79) (by decide +kernel)) (by decide +kernel), by decide, by decide, by decide +kernel⟩, okw_in (List.mem_of_getElem? (i := 1556) (by decide +kernel)) (by decide +kernel), okw_in (List.mem_of_getElem? (i := 47) (by decide +kernel)) (by decide +kernel)⟩
theorem ml_RX12_247 : Cond.methodLink RX12 247 yX12_stretched ∈ okw := okw_in (List.mem_of_getElem? (i := 1562) (by decide +kernel)) (by decide +kernel)
theorem mw_X12_stretched : MS yX12_stretched cX12_stretched 4 (some .int) 4 := ⟨⟨okw_in (List.mem_of_getElem? (i := 1564) (by decide +kernel)) (by decide +kernel), okw_in (List.mem_of_getElem? (i := 79) (by decide +kernel)) (by decide +kernel), by decide, by decide, by decide +kernel⟩, okw_in (List.mem_of_getElem? (i := 1563) (by decide +kernel)) (by decide +kernel)⟩
theorem fl_RX12_251 : FL RX12 251 12 47 RX12 TX12 57 := ⟨inW_RX12, rfl, by decide, okw_in (List.mem_of_getElem? (i := 1318) (by decide +kernel)) (by decide +kernel)⟩
theorem fp_RX12_47 : FP RX12 TX12 57 47 .int := ⟨tyX12, tyX12_ok, nmX12, rfl, by decide +kernel⟩
theorem fl_RX12_119 : FL RX12 119 12 46 RX12 TX12 57 := ⟨inW_RX12, rfl, by decide, okw_in (List.mem_of_getElem? (i := 1317) (by decide +kernel)) (by decide +kernel)⟩
theorem fl_RX12_110 : FL RX12 110 12 43 RX12 TX12 57 := ⟨inW_RX12, rfl, by decide, okw_in (List.mem_of_getElem? (i := 1314) (by decide +kernel)) (by decide +kernel)⟩
theorem ml_RX12_254 : Cond.methodLink RX12 254 yX12_fire ∈ okw := okw_in (List.mem_of_getElem? (i := 1581) (by decide +kernel)) (by decide +kernel)
theorem mw_X12_fire : MV yX12_fire cX12_fire 2 (some .int) 1 := ⟨⟨okw_in (List.mem_of_getElem? (i := 1584) (by decide +kernel)) (by decide +kernel), okw_in (List.mem_of_getElem? (i := 79) (by decide +kernel)) (by decide +kernel), by decide, by decide, by decide +kernel⟩, okw_in (List.mem_of_getElem? (i := 1583) (by decide +kernel)) (by decide +kernel), okw_in (List.mem_of_getElem? (i := 51) (by decide +kernel)) (by decide +kernel)⟩
theorem fl_RX12_122 : FL RX12 122 12 49 RX12 TX12 57 := ⟨inW_RX12, rfl, by decide, okw_in (List.mem_of_getElem? (i := 1320) (by decide +kernel)) (by decide +kernel)⟩
theorem ml_RX12_257 : Cond.methodLink RX12 257 yX12_mayStand ∈ okw := okw_in (List.mem_of_getElem? (i := 1577) (by decide +kernel)) (by decide +kernel)
theorem mw_X12_mayStand : MV yX12_mayStand cX12_mayStand 5 (some .boolean) 3 := ⟨⟨okw_in (List.mem_of_getElem? (i := 1580) (by decide +kernel)) (by decide +kernel), okw_in (List.mem_of_getElem? (i := 79) (by decide +kernel)) (by decide +kernel), by decide, by decide, by decide +kernel⟩, okw_in (List.mem_of_getElem? (i := 1579) (by decide +kernel)) (by decide +kernel), okw_in (List.mem_of_getElem? (i := 50) (by decide +kernel)) (by decide +kernel)⟩
theorem fl_RX12_113 : FL RX12 113 12 44 RX12 TX12 57 := ⟨inW_RX12, rfl, by decide, okw_in (List.mem_of_getElem? (i := 1315) (by decide +kernel)) (by decide +kernel)⟩
theorem fl_RX12_260 : FL RX12 260 12 48 RX12 TX12 57 := ⟨inW_RX12, rfl, by decide, okw_in (List.mem_of_getElem? (i := 1319) (by decide +kernel)) (by decide +kernel)⟩
theorem ml_RX12_269 : Cond.methodLink RX12 269 yX12_lays ∈ okw := okw_in (List.mem_of_getElem? (i := 1585) (by decide +kernel)) (by decide +kernel)
theorem mw_X12_lays : MV yX12_lays cX12_lays 3 none 1 := ⟨⟨okw_in (List.mem_of_getElem? (i := 1588) (by decide +kernel)) (by decide +kernel), okw_in (List.mem_of_getElem? (i := 79) (by decide +kernel)) (by decide +kernel), by decide, by decide, by decide +kernel⟩, okw_in (List.mem_of_getElem? (i := 1587) (by decide +kernel)) (by decide +kernel), okw_in (List.mem_of_getElem? (i := 52) (by decide +kernel)) (by decide +kernel)⟩
theorem ml_RX12_266 : Cond.methodLink RX12 266 yX12_mayGet ∈ okw := okw_in (List.mem_of_getElem? (i := 1593) (by decide +kernel)) (by decide +kernel)
theorem mw_X12_mayGet : MV yX12_mayGet cX12_mayGet 5 (some .boolean) 2 := ⟨⟨okw_in (List.mem_of_getElem? (i := 1596) (by decide +kernel)) (by decide +kernel), okw_in (List.mem_of_getElem? (i := 79) (by decide +kernel)) (by decide +kernel), by decide, by decide, by decide +kernel⟩, okw_in (List.mem_of_getElem? (i := 1595) (by decide +kernel)) (by decide +kernel), okw_in (List.mem_of_getElem? (i := 54) (by decide +kernel)) (by decide +kernel)⟩
theorem fp_RX12_48 : FP RX12 TX12 57 48 .int := ⟨tyX12, tyX12_ok, nmX12, rfl, by decide +kernel⟩
theorem fl_RX12_116 : FL RX12 116 12 45 RX12 TX12 57 := ⟨inW_RX12, rfl, by decide, okw_in (List.mem_of_getElem? (i := 1316) (by decide +kernel)) (by decide +kernel)⟩
theorem ml_RX12_263 : Cond.methodLink RX12 263 yX12_greatest ∈ okw := okw_in (List.mem_of_getElem? (i := 1589) (by decide +kernel)) (by decide +kernel)
theorem mw_X12_greatest : MV yX12_greatest cX12_greatest 3 (some .int) 0 := ⟨⟨okw_in (List.mem_of_getElem? (i := 1592) (by decide +kernel)) (by decide +kernel), okw_in (List.mem_of_getElem? (i := 79) (by decide +kernel)) (by decide +kernel), by decide, by decide, by decide +kernel⟩, okw_in (List.mem_of_getElem? (i := 1591) (by decide +kernel)) (by decide +kernel), okw_in (List.mem_of_getElem? (i := 53) (by decide +kernel)) (by decide +kernel)⟩
theorem ml_RX12_275 : Cond.methodLink RX12 275 yX12_findFits ∈ okw := okw_in (List.mem_of_getElem? (i := 1573) (by decide +kernel)) (by decide +kernel)
theorem mw_X12_findFits : MV yX12_findFits cX12_findFits 4 none 1 := ⟨⟨okw_in (List.mem_of_getElem? (i := 1576) (by decide +kernel)) (by decide +kernel), okw_in (List.mem_of_getElem? (i := 79) (by decide +kernel)) (by decide +kernel), by decide, by decide, by decide +kernel⟩, okw_in (List.mem_of_getElem? (i := 1575) (by decide +kernel)) (by decide +kernel), okw_in (List.mem_of_getElem? (i := 49) (by decide +kernel)) (by decide +kernel)⟩
theorem ml_RX12_272 : Cond.methodLink RX12 272 yX12_gathers ∈ okw := okw_in (List.mem_of_getElem? (i := 1569) (by decide +kernel)) (by decide +kernel)
theorem mw_X12_gathers : MV yX12_gathers cX12_gathers 2 none 0 := ⟨⟨okw_in (List.mem_of_getElem? (i := 1572) (by decide +kernel)) (by decide +kernel), okw_in (List.mem_of_getElem? (i := 79) (by decide +kernel)) (by decide +kernel), by decide, by decide, by decide +kernel⟩, okw_in (List.mem_of_getElem? (i := 1571) (by decide +kernel)) (by decide +kernel), okw_in (List.mem_of_getElem? (i := 48) (by decide +kernel)) (by decide +kernel)⟩
theorem fl_RX12_73 : FL RX12 73 12 21 RX12 TX12 57 := ⟨inW_RX12, rfl, by decide, okw_in (List.mem_of_getElem? (i := 1292) (by decide +kernel)) (by decide +kernel)⟩
theorem fl_RX12_76 : FL RX12 76 12 22 RX12 TX12 57 := ⟨inW_RX12, rfl, by decide, okw_in (List.mem_of_getElem? (i := 1293) (by decide +kernel)) (by decide +kernel)⟩
theorem fl_RX12_79 : FL RX12 79 12 23 RX12 TX12 57 := ⟨inW_RX12, rfl, by decide, okw_in (List.mem_of_getElem? (i := 1294) (by decide +kernel)) (by decide +kernel)⟩
theorem ml_RX12_278 : Cond.methodLink RX12 278 yX12_knownWind ∈ okw := okw_in (List.mem_of_getElem? (i := 1613) (by decide +kernel)) (by decide +kernel)
theorem mw_X12_knownWind : MV yX12_knownWind cX12_knownWind 4 (some .int) 1 := ⟨⟨okw_in (List.mem_of_getElem? (i := 1616) (by decide +kernel)) (by decide +kernel), okw_in (List.mem_of_getElem? (i := 79) (by decide +kernel)) (by decide +kernel), by decide, by decide, by decide +kernel⟩, okw_in (List.mem_of_getElem? (i := 1615) (by decide +kernel)) (by decide +kernel), okw_in (List.mem_of_getElem? (i := 55) (by decide +kernel)) (by decide +kernel)⟩
theorem fl_RX12_82 : FL RX12 82 12 24 RX12 TX12 57 := ⟨inW_RX12, rfl, by decide, okw_in (List.mem_of_getElem? (i := 1295) (by decide +kernel)) (by decide +kernel)⟩
theorem rl_m99 : rg (-99) := ⟨by decide, by decide⟩
theorem ml_RX12_281 : Cond.methodLink RX12 281 yX12_orders ∈ okw := okw_in (List.mem_of_getElem? (i := 1621) (by decide +kernel)) (by decide +kernel)
theorem mw_X12_orders : MV yX12_orders cX12_orders 8 (some .int) 1 := ⟨⟨okw_in (List.mem_of_getElem? (i := 1624) (by decide +kernel)) (by decide +kernel), okw_in (List.mem_of_getElem? (i := 79) (by decide +kernel)) (by decide +kernel), by decide, by decide, by decide +kernel⟩, okw_in (List.mem_of_getElem? (i := 1623) (by decide +kernel)) (by decide +kernel), okw_in (List.mem_of_getElem? (i := 56) (by decide +kernel)) (by decide +kernel)⟩
theorem fl_RX12_126 : FL RX12 126 12 50 RX12 TX12 57 := ⟨inW_RX12, rfl, by decide, okw_in (List.mem_of_getElem? (i := 1321) (by decide +kernel)) (by decide +kernel)⟩
theorem fl_RX12_132 : FL RX12 132 12 52 RX12 TX12 57 := ⟨inW_RX12, rfl, by decide, okw_in (List.mem_of_getElem? (i := 1323) (by decide +kernel)) (by decide +kernel)⟩
theorem fl_RX12_129 : FL RX12 129 12 51 RX12 TX12 57 := ⟨inW_RX12, rfl, by decide, okw_in (List.mem_of_getElem? (i := 1322) (by decide +kernel)) (by decide +kernel)⟩
theorem ml_RX12_287 : Cond.methodLink RX12 287 yX12_holdsFor ∈ okw := okw_in (List.mem_of_getElem? (i := 1649) (by decide +kernel)) (by decide +kernel)
theorem mw_X12_holdsFor : MV yX12_holdsFor cX12_holdsFor 8 (some .boolean) 3 := ⟨⟨okw_in (List.mem_of_getElem? (i := 1652) (by decide +kernel)) (by decide +kernel), okw_in (List.mem_of_getElem? (i := 79) (by decide +kernel)) (by decide +kernel), by decide, by decide, by decide +kernel⟩, okw_in (List.mem_of_getElem? (i := 1651) (by decide +kernel)) (by decide +kernel), okw_in (List.mem_of_getElem? (i := 59) (by decide +kernel)) (by decide +kernel)⟩
theorem fl_RX12_135 : FL RX12 135 12 53 RX12 TX12 57 := ⟨inW_RX12, rfl, by decide, okw_in (List.mem_of_getElem? (i := 1324) (by decide +kernel)) (by decide +kernel)⟩
theorem ml_RX12_290 : Cond.methodLink RX12 290 yX12_otherKind ∈ okw := okw_in (List.mem_of_getElem? (i := 1653) (by decide +kernel)) (by decide +kernel)
theorem mw_X12_otherKind : MV yX12_otherKind cX12_otherKind 4 (some .int) 2 := ⟨⟨okw_in (List.mem_of_getElem? (i := 1656) (by decide +kernel)) (by decide +kernel), okw_in (List.mem_of_getElem? (i := 79) (by decide +kernel)) (by decide +kernel), by decide, by decide, by decide +kernel⟩, okw_in (List.mem_of_getElem? (i := 1655) (by decide +kernel)) (by decide +kernel), okw_in (List.mem_of_getElem? (i := 60) (by decide +kernel)) (by decide +kernel)⟩
theorem ml_RX12_284 : Cond.methodLink RX12 284 yX12_fateOf ∈ okw := okw_in (List.mem_of_getElem? (i := 1645) (by decide +kernel)) (by decide +kernel)
theorem mw_X12_fateOf : MV yX12_fateOf cX12_fateOf 6 (some .int) 2 := ⟨⟨okw_in (List.mem_of_getElem? (i := 1648) (by decide +kernel)) (by decide +kernel), okw_in (List.mem_of_getElem? (i := 79) (by decide +kernel)) (by decide +kernel), by decide, by decide, by decide +kernel⟩, okw_in (List.mem_of_getElem? (i := 1647) (by decide +kernel)) (by decide +kernel), okw_in (List.mem_of_getElem? (i := 58) (by decide +kernel)) (by decide +kernel)⟩
theorem ml_RX12_293 : Cond.methodLink RX12 293 yX12_plays ∈ okw := okw_in (List.mem_of_getElem? (i := 1641) (by decide +kernel)) (by decide +kernel)
theorem mw_X12_plays : MV yX12_plays cX12_plays 3 none 0 := ⟨⟨okw_in (List.mem_of_getElem? (i := 1644) (by decide +kernel)) (by decide +kernel), okw_in (List.mem_of_getElem? (i := 79) (by decide +kernel)) (by decide +kernel), by decide, by decide, by decide +kernel⟩, okw_in (List.mem_of_getElem? (i := 1643) (by decide +kernel)) (by decide +kernel), okw_in (List.mem_of_getElem? (i := 57) (by decide +kernel)) (by decide +kernel)⟩
theorem fl_RX12_85 : FL RX12 85 12 25 RX12 TX12 57 := ⟨inW_RX12, rfl, by decide, okw_in (List.mem_of_getElem? (i := 1296) (by decide +kernel)) (by decide +kernel)⟩
theorem fl_RX12_88 : FL RX12 88 12 26 RX12 TX12 57 := ⟨inW_RX12, rfl, by decide, okw_in (List.mem_of_getElem? (i := 1297) (by decide +kernel)) (by decide +kernel)⟩
theorem fl_RX12_141 : FL RX12 141 12 56 RX12 TX12 57 := ⟨inW_RX12, rfl, by decide, okw_in (List.mem_of_getElem? (i := 1327) (by decide +kernel)) (by decide +kernel)⟩
theorem fl_RX12_138 : FL RX12 138 12 55 RX12 TX12 57 := ⟨inW_RX12, rfl, by decide, okw_in (List.mem_of_getElem? (i := 1326) (by decide +kernel)) (by decide +kernel)⟩
theorem ml_RX12_299 : Cond.methodLink RX12 299 yX12_finds ∈ okw := okw_in (List.mem_of_getElem? (i := 1689) (by decide +kernel)) (by decide +kernel)
theorem mw_X12_finds : MV yX12_finds cX12_finds 3 (some .boolean) 1 := ⟨⟨okw_in (List.mem_of_getElem? (i := 1692) (by decide +kernel)) (by decide +kernel), okw_in (List.mem_of_getElem? (i := 79) (by decide +kernel)) (by decide +kernel), by decide, by decide, by decide +kernel⟩, okw_in (List.mem_of_getElem? (i := 1691) (by decide +kernel)) (by decide +kernel), okw_in (List.mem_of_getElem? (i := 63) (by decide +kernel)) (by decide +kernel)⟩
theorem ml_RX12_296 : Cond.methodLink RX12 296 yX12_mayBe ∈ okw := okw_in (List.mem_of_getElem? (i := 1693) (by decide +kernel)) (by decide +kernel)
theorem mw_X12_mayBe : MV yX12_mayBe cX12_mayBe 3 (some .boolean) 2 := ⟨⟨okw_in (List.mem_of_getElem? (i := 1696) (by decide +kernel)) (by decide +kernel), okw_in (List.mem_of_getElem? (i := 79) (by decide +kernel)) (by decide +kernel), by decide, by decide, by decide +kernel⟩, okw_in (List.mem_of_getElem? (i := 1695) (by decide +kernel)) (by decide +kernel), okw_in (List.mem_of_getElem? (i := 64) (by decide +kernel)) (by decide +kernel)⟩
theorem ml_RX12_302 : Cond.methodLink RX12 302 yX12_isShown ∈ okw := okw_in (List.mem_of_getElem? (i := 1681) (by decide +kernel)) (by decide +kernel)
theorem mw_X12_isShown : MV yX12_isShown cX12_isShown 2 (some .boolean) 1 := ⟨⟨okw_in (List.mem_of_getElem? (i := 1684) (by decide +kernel)) (by decide +kernel), okw_in (List.mem_of_getElem? (i := 79) (by decide +kernel)) (by decide +kernel), by decide, by decide, by decide +kernel⟩, okw_in (List.mem_of_getElem? (i := 1683) (by decide +kernel)) (by decide +kernel), okw_in (List.mem_of_getElem? (i := 61) (by decide +kernel)) (by decide +kernel)⟩
theorem ml_RX12_305 : Cond.methodLink RX12 305 yX12_matching ∈ okw := okw_in (List.mem_of_getElem? (i := 1685) (by decide +kernel)) (by decide +kernel)
theorem mw_X12_matching : MV yX12_matching cX12_matching 5 (some .int) 1 := ⟨⟨okw_in (List.mem_of_getElem? (i := 1688) (by decide +kernel)) (by decide +kernel), okw_in (List.mem_of_getElem? (i := 79) (by decide +kernel)) (by decide +kernel), by decide, by decide, by decide +kernel⟩, okw_in (List.mem_of_getElem? (i := 1687) (by decide +kernel)) (by decide +kernel), okw_in (List.mem_of_getElem? (i := 62) (by decide +kernel)) (by decide +kernel)⟩
theorem fl_RX12_97 : FL RX12 97 12 29 RX12 TX12 57 := ⟨inW_RX12, rfl, by decide, okw_in (List.mem_of_getElem? (i := 1300) (by decide +kernel)) (by decide +kernel)⟩
theorem rl_480 : rg 480 := ⟨by decide, by decide⟩
theorem ml_RX12_308 : Cond.methodLink RX12 308 yX12_wrongShow ∈ okw := okw_in (List.mem_of_getElem? (i := 1717) (by decide +kernel)) (by decide +kernel)
theorem mw_X12_wrongShow : MV yX12_wrongShow cX12_wrongShow 2 (some .int) 1 := ⟨⟨okw_in (List.mem_of_getElem? (i := 1720) (by decide +kernel)) (by decide +kernel), okw_in (List.mem_of_getElem? (i := 79) (by decide +kernel)) (by decide +kernel), by decide, by decide, by decide +kernel⟩, okw_in (List.mem_of_getElem? (i := 1719) (by decide +kernel)) (by decide +kernel), okw_in (List.mem_of_getElem? (i := 65) (by decide +kernel)) (by decide +kernel)⟩
theorem rl_m15 : rg (-15) := ⟨by decide, by decide⟩
theorem ml_RX12_311 : Cond.methodLink RX12 311 yX12_narrow ∈ okw := okw_in (List.mem_of_getElem? (i := 1733) (by decide +kernel)) (by decide +kernel)
theorem mw_X12_narrow : MS yX12_narrow cX12_narrow 3 (some .long) 2 := ⟨⟨okw_in (List.mem_of_getElem? (i := 1735) (by decide +kernel)) (by decide +kernel), okw_in (List.mem_of_getElem? (i := 79) (by decide +kernel)) (by decide +kernel), by decide, by decide, by decide +kernel⟩, okw_in (List.mem_of_getElem? (i := 1734) (by decide +kernel)) (by decide +kernel)⟩
theorem fl_RX11_75 : FL RX11 75 11 8 RX11 TX11 11 := ⟨inW_RX11, rfl, by decide, okw_in (List.mem_of_getElem? (i := 429) (by decide +kernel)) (by decide +kernel)⟩
