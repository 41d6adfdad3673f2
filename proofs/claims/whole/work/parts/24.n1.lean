section
set_option linter.unusedVariables false
theorem ck_e {α : Type} {v : Int} {K : Int → Option α} (h1 : -2147483648 ≤ v) (h2 : v ≤ 2147483647) : ck v K = K v := if_pos ⟨h1, h2⟩
theorem rd_e {α : Type} {σ : Sg} {i n : Nat} {x : Int} {K : Int → Option α} (h1 : 0 ≤ x) (h2 : x < (n : Int)) : rd σ i n x K = K (σ i x) := if_pos ⟨h1, h2⟩
theorem wr_e {α : Type} {σ : Sg} {i n : Nat} {x v : Int} {K : Sg → Option α} (h1 : 0 ≤ x) (h2 : x < (n : Int)) : wr σ i n x v K = K (put σ i x v) := if_pos ⟨h1, h2⟩
theorem wrB_e {α : Type} {σ : Sg} {i n : Nat} {x v : Int} {K : Sg → Option α} (h1 : 0 ≤ x) (h2 : x < (n : Int)) (h3 : -128 ≤ v) (h4 : v ≤ 127) : wrB σ i n x v K = K (put σ i x v) := if_pos ⟨⟨h1, h2⟩, h3, h4⟩
theorem wrZ_e {α : Type} {σ : Sg} {i n : Nat} {x v : Int} {K : Sg → Option α} (h1 : 0 ≤ x) (h2 : x < (n : Int)) (h3 : 0 ≤ v) (h4 : v ≤ 1) : wrZ σ i n x v K = K (put σ i x v) := if_pos ⟨⟨h1, h2⟩, by omega⟩
theorem dv_e {α : Type} {a b : Int} {K : Int → Option α} (h1 : 0 ≤ a) (h2 : 0 < b) : dv a b K = K (a / b) := if_pos ⟨h1, h2⟩
theorem md_e {α : Type} {a b : Int} {K : Int → Option α} (h1 : 0 ≤ a) (h2 : 0 < b) : md a b K = K (a % b) := if_pos ⟨h1, h2⟩
theorem fdv_e {α : Type} {a b : Int} {K : Int → Option α} (h2 : 0 < b) : fdv a b K = K (a / b) := if_pos h2
theorem cpy_e {α : Type} {σ : Sg} {i j ni nj : Nat} {a b n : Int} {K : Sg → Option α} (h1 : 0 ≤ a) (h2 : 0 ≤ b) (h3 : 0 ≤ n) (h4 : a + n ≤ (ni : Int)) (h5 : b + n ≤ (nj : Int)) : cpy σ i j ni nj a b n K = K (copA σ i j a b n) := if_pos ⟨h1, h2, h3, h4, h5⟩
theorem filB_e {α : Type} {σ : Sg} {i n : Nat} {v : Int} {K : Sg → Option α} (h3 : -128 ≤ v) (h4 : v ≤ 127) : filB σ i n v K = K (fillA σ i n v) := if_pos ⟨h3, h4⟩
theorem iT {α : Type} {c : Prop} [Decidable c] {a b : α} (h : c) : (if c then a else b) = a := if_pos h
theorem iF {α : Type} {c : Prop} [Decidable c] {a b : α} (h : ¬ c) : (if c then a else b) = b := if_neg h
theorem put_ne {σ : Sg} {i j : Nat} {k v : Int} (h : j ≠ i) : put σ i k v j = σ j := if_neg h
theorem put_at {σ : Sg} {i : Nat} {k v p : Int} : put σ i k v i p = if p = k then v else σ i p := by unfold put setA; rw [if_pos rfl]
theorem put_T {σ : Sg} {i : Nat} {k v p : Int} (h : p = k) : put σ i k v i p = v := by rw [put_at, if_pos h]
theorem put_F {σ : Sg} {i : Nat} {k v p : Int} (h : p ≠ k) : put σ i k v i p = σ i p := by rw [put_at, if_neg h]
theorem setA_ne {σ : Sg} {i j : Nat} {f : Int → Int} (h : j ≠ i) : setA σ i f j = σ j := if_neg h
theorem setA_at {σ : Sg} {i : Nat} {f : Int → Int} : setA σ i f i = f := if_pos rfl
theorem filI_e {α : Type} {σ : Sg} {i n : Nat} {v : Int} {K : Sg → Option α} : filI σ i n v K = K (fillA σ i n v) := by
  generalize hx : K (fillA σ i n v) = x; unfold filI; rw [hx]
theorem filL_e {α : Type} {σ : Sg} {i n : Nat} {v : Int} {K : Sg → Option α} : filL σ i n v K = K (fillA σ i n v) := by
  generalize hx : K (fillA σ i n v) = x; unfold filL; rw [hx]
theorem st1_e {α : Type} {σ : Sg} {K : Sg → Option α} : st1 σ K = K σ := by
  generalize hx : K σ = x; unfold st1; rw [hx]
theorem bnd_e {α β : Type} {a : α} {K : α → Option β} : (some a).bind K = K a := by
  generalize hx : K a = x; rw [Option.bind_some, hx]
theorem isIn_T {x a b : Int} {σ : Sg} (h1 : a ≤ x) (h2 : x ≤ b) : fX12_isIn x a b σ = some 1 := by
  unfold fX12_isIn; rw [if_neg (by omega), if_pos h2]
theorem isIn_F {x a b : Int} {σ : Sg} (h : ¬ (a ≤ x ∧ x ≤ b)) : fX12_isIn x a b σ = some 0 := by
  unfold fX12_isIn; split
  · rfl
  · rw [if_neg (by omega)]
theorem ten : (1 : Int) = 0 ↔ False := by decide



abbrev Vw : Type := ((Int → Int) × (Int → Int) × (Int → Int) × (Int → Int) × (Int → Int)) × ((Int → Int) × (Int → Int) × (Int → Int) × (Int → Int) × (Int → Int)) × ((Int → Int) × (Int → Int) × (Int → Int) × (Int → Int) × (Int → Int)) × ((Int → Int) × (Int → Int) × (Int → Int) × (Int → Int) × (Int → Int)) × ((Int → Int) × Int × Int × Int × Int)
abbrev vw (τ : Sg) : Vw := ((τ 1, τ 2, τ 3, τ 4, τ 5), (τ 6, τ 7, τ 8, τ 9, τ 10), (τ 11, τ 12, τ 13, τ 14, τ 15), (τ 16, τ 17, τ 22, τ 23, τ 24), (τ 25, τ 0 32, τ 0 33, τ 0 34, τ 0 35))
def told (V : Vw) (k : Int) : Prop := (0 ≤ k ∧ k < 12) ∧ 0 < V.1.2.1 k
def isB (V : Vw) (s : Int) : Prop := (0 ≤ s ∧ s < 6) ∧ 0 < V.2.1.2.2.2.2 s
noncomputable def bi (p : Prop) : Int := @ite Int p (Classical.propDecidable p) 1 0
theorem bi_T {p : Prop} (h : p) : bi p = 1 := by unfold bi; rw [if_pos h]
theorem bi_F {p : Prop} (h : ¬ p) : bi p = 0 := by unfold bi; rw [if_neg h]
theorem bi_0 {p : Prop} : bi p = 0 ↔ ¬ p := by
  by_cases h : p
  · rw [bi_T h]; simp [h]
  · rw [bi_F h]; simp [h]
theorem bi_1 {p : Prop} : bi p = 1 ↔ p := by
  by_cases h : p
  · rw [bi_T h]; simp [h]
  · rw [bi_F h]; simp [h]
theorem bi_or {p : Prop} : bi p = 0 ∨ bi p = 1 := by
  by_cases h : p
  · right; exact bi_T h
  · left; exact bi_F h
theorem bi_cong {p q : Prop} (h : p ↔ q) : bi p = bi q := by rw [propext h]

def fallV (dx dy : Int → Int) (b : Int) : Nat → Int → Int → Int → Option (Int × Int)
  | 0, _, _, _ => none
  | t + 1, x, y, z =>
    let l := if z / 500 < 4 then z / 500 else 4
    if z - 25 ≤ 0 then some (x + dx (b + l), y + dy (b + l))
    else fallV dx dy b t (x + dx (b + l)) (y + dy (b + l)) (z - 25)

def rulV (w o m : Int → Int) : Nat → Int → Int → Int → Prop
  | 0, k, _, d => (0 ≤ k ∧ k < 800) ∧ w k = 0 ∧ d = 1
  | n + 1, k, i, d => ((0 ≤ k ∧ k + 1 < 800) ∧ (0 ≤ i ∧ i < 160)) ∧ (1 ≤ w k ∧ w k ≤ 8) ∧ o i = w k ∧ (0 ≤ d ∧ d ≤ 8) ∧
    (w k ≤ 5 → m i = w (k + 1) ∧ (0 ≤ w (k + 1) ∧ w (k + 1) ≤ 127) ∧ d < 8 ∧ rulV w o m n (k + 2) (i + 1) (d + 1)) ∧
    (w k = 8 → 1 ≤ d ∧ rulV w o m n (k + 1) (i + 1) d) ∧
    (w k = 6 ∨ w k = 7 → 2 ≤ d ∧ rulV w o m n (k + 1) (i + 1) (d - 1))

def fallAt (σ : Sg) (q : Int) (o : Option (Int × Int)) : Prop :=
  match o with
  | none => σ 16 q = 0
  | some (x, y) => σ 16 q = 1 ∧ σ 17 q = x ∧ σ 18 q = y
def fallOk (σ : Sg) (V : Vw) (k w p u : Int) : Prop := fallAt σ ((k * 4 + w) * 2 + p) (fallV V.2.2.1.1 V.2.2.1.2.1 (5 * w) (V.1.2.2.2.2 k).toNat 0 0 (u * V.1.2.2.1 k))
abbrev RelN (σ : Sg) (V : Vw) : Prop := (∀ i, 0 ≤ i → i < 1024 → σ 2 i = V.1.1 i ∧ 0 ≤ V.1.1 i ∧ V.1.1 i ≤ 2) ∧ (∀ k, 0 ≤ k → k < 12 → (σ 7 k = V.1.2.1 k ∧ σ 8 k = V.1.2.2.1 k ∧ σ 9 k = V.1.2.2.2.1 k ∧ σ 10 k = V.1.2.2.2.2 k ∧ σ 11 k = V.2.1.1 k ∧ σ 12 k = V.2.1.2.1 k) ∧ (0 ≤ V.1.2.1 k ∧ V.1.2.1 k ≤ 60) ∧ (0 < V.1.2.1 k → (10 ≤ V.1.2.2.1 k ∧ V.1.2.2.1 k ≤ 300) ∧ (0 ≤ V.1.2.2.2.1 k ∧ V.1.2.2.2.1 k ≤ 60) ∧ (1 ≤ V.1.2.2.2.2 k ∧ V.1.2.2.2.2 k ≤ 99) ∧ (1 ≤ V.2.1.1 k ∧ V.2.1.1 k ≤ 9) ∧ (0 ≤ V.2.1.2.1 k ∧ V.2.1.2.1 k ≤ 5))) ∧ (∀ s, 0 ≤ s → s < 6 → σ 5 s = V.2.1.2.2.2.2 s ∧ (0 ≤ V.2.1.2.2.2.2 s ∧ V.2.1.2.2.2.2 s ≤ 40) ∧ (0 < V.2.1.2.2.2.2 s → (V.2.1.2.2.1 s = 200 * σ 3 s + 100 ∧ 0 ≤ σ 3 s ∧ σ 3 s < 32) ∧ (V.2.1.2.2.2.1 s = 200 * σ 4 s + 100 ∧ 0 ≤ σ 4 s ∧ σ 4 s < 32))) ∧ (∀ j, 0 ≤ j → j < 20 → σ 14 j = V.2.2.1.1 j ∧ σ 15 j = V.2.2.1.2.1 j ∧ (-50 ≤ V.2.2.1.1 j ∧ V.2.2.1.1 j ≤ 50) ∧ (-50 ≤ V.2.2.1.2.1 j ∧ V.2.2.1.2.1 j ≤ 50)) ∧ (σ 19 4 = V.2.2.2.2.2.1 ∧ 0 ≤ V.2.2.2.2.2.1 ∧ V.2.2.2.2.2.1 ≤ 120) ∧ (∀ c, 0 ≤ c → c < V.2.2.2.2.2.1 → (σ 20 c = V.2.2.1.2.2.1 c ∧ σ 21 c = V.2.2.1.2.2.2.1 c ∧ σ 22 c = V.2.2.1.2.2.2.2 c ∧ σ 23 c = V.2.2.2.1.1 c ∧ σ 49 c = V.2.2.2.1.2.1 c) ∧ told V (V.2.2.1.2.2.2.1 c) ∧ (V.2.2.1.2.2.2.2 c = -1 ∨ isB V (V.2.2.1.2.2.2.2 c)) ∧ (-4 ≤ V.2.2.2.1.1 c ∧ V.2.2.2.1.1 c ≤ 4) ∧ (V.1.2.1 (V.2.2.1.2.2.2.1 c) ≤ V.2.2.1.2.2.1 c ∧ V.2.2.1.2.2.1 c ≤ 20000) ∧ (0 ≤ V.2.2.2.1.2.1 c ∧ V.2.2.2.1.2.1 c ≤ 6)) ∧ ((σ 40 3 = V.2.2.2.2.2.2.1 ∧ 0 ≤ V.2.2.2.2.2.2.1 ∧ V.2.2.2.2.2.2.1 ≤ 20) ∧ ∀ i, 0 ≤ i → i < V.2.2.2.2.2.2.1 → (σ 41 i = V.2.2.2.1.2.2.1 i ∧ 0 ≤ V.2.2.2.1.2.2.1 i ∧ V.2.2.2.1.2.2.1 i < 4) ∧ (σ 42 i = V.2.2.2.1.2.2.2.1 i ∧ 0 ≤ V.2.2.2.1.2.2.2.1 i ∧ V.2.2.2.1.2.2.2.1 i ≤ 20000) ∧ (σ 43 i = V.2.2.2.1.2.2.2.2 i ∧ 0 ≤ V.2.2.2.1.2.2.2.2 i ∧ V.2.2.2.1.2.2.2.2 i ≤ 20000)) ∧ ((σ 44 3 = V.2.2.2.2.2.2.2.1 ∧ 0 ≤ V.2.2.2.2.2.2.2.1 ∧ V.2.2.2.2.2.2.2.1 ≤ 8) ∧ ∀ r, 0 ≤ r → r < V.2.2.2.2.2.2.2.1 → (0 ≤ σ 47 r ∧ σ 47 r ≤ 20) ∧ rulV V.2.2.2.2.1 (σ 45) (σ 46) (σ 47 r).toNat (100 * r) (20 * r) 0) ∧ (σ 48 9 = V.2.2.2.2.2.2.2.2 ∧ -1 ≤ V.2.2.2.2.2.2.2.2 ∧ V.2.2.2.2.2.2.2.2 ≤ 20000)
theorem RelN.g {σ : Sg} {V : Vw} (h : RelN σ V) : ∀ i, 0 ≤ i → i < 1024 → σ 2 i = V.1.1 i ∧ 0 ≤ V.1.1 i ∧ V.1.1 i ≤ 2 := h.1
theorem RelN.k {σ : Sg} {V : Vw} (h : RelN σ V) : ∀ k, 0 ≤ k → k < 12 → (σ 7 k = V.1.2.1 k ∧ σ 8 k = V.1.2.2.1 k ∧ σ 9 k = V.1.2.2.2.1 k ∧ σ 10 k = V.1.2.2.2.2 k ∧ σ 11 k = V.2.1.1 k ∧ σ 12 k = V.2.1.2.1 k) ∧ (0 ≤ V.1.2.1 k ∧ V.1.2.1 k ≤ 60) ∧ (0 < V.1.2.1 k → (10 ≤ V.1.2.2.1 k ∧ V.1.2.2.1 k ≤ 300) ∧ (0 ≤ V.1.2.2.2.1 k ∧ V.1.2.2.2.1 k ≤ 60) ∧ (1 ≤ V.1.2.2.2.2 k ∧ V.1.2.2.2.2 k ≤ 99) ∧ (1 ≤ V.2.1.1 k ∧ V.2.1.1 k ≤ 9) ∧ (0 ≤ V.2.1.2.1 k ∧ V.2.1.2.1 k ≤ 5)) := h.2.1
theorem RelN.b {σ : Sg} {V : Vw} (h : RelN σ V) : ∀ s, 0 ≤ s → s < 6 → σ 5 s = V.2.1.2.2.2.2 s ∧ (0 ≤ V.2.1.2.2.2.2 s ∧ V.2.1.2.2.2.2 s ≤ 40) ∧ (0 < V.2.1.2.2.2.2 s → (V.2.1.2.2.1 s = 200 * σ 3 s + 100 ∧ 0 ≤ σ 3 s ∧ σ 3 s < 32) ∧ (V.2.1.2.2.2.1 s = 200 * σ 4 s + 100 ∧ 0 ≤ σ 4 s ∧ σ 4 s < 32)) := h.2.2.1
theorem RelN.d {σ : Sg} {V : Vw} (h : RelN σ V) : ∀ j, 0 ≤ j → j < 20 → σ 14 j = V.2.2.1.1 j ∧ σ 15 j = V.2.2.1.2.1 j ∧ (-50 ≤ V.2.2.1.1 j ∧ V.2.2.1.1 j ≤ 50) ∧ (-50 ≤ V.2.2.1.2.1 j ∧ V.2.2.1.2.1 j ≤ 50) := h.2.2.2.1
theorem RelN.n {σ : Sg} {V : Vw} (h : RelN σ V) : σ 19 4 = V.2.2.2.2.2.1 ∧ 0 ≤ V.2.2.2.2.2.1 ∧ V.2.2.2.2.2.1 ≤ 120 := h.2.2.2.2.1
theorem RelN.c {σ : Sg} {V : Vw} (h : RelN σ V) : ∀ c, 0 ≤ c → c < V.2.2.2.2.2.1 → (σ 20 c = V.2.2.1.2.2.1 c ∧ σ 21 c = V.2.2.1.2.2.2.1 c ∧ σ 22 c = V.2.2.1.2.2.2.2 c ∧ σ 23 c = V.2.2.2.1.1 c ∧ σ 49 c = V.2.2.2.1.2.1 c) ∧ told V (V.2.2.1.2.2.2.1 c) ∧ (V.2.2.1.2.2.2.2 c = -1 ∨ isB V (V.2.2.1.2.2.2.2 c)) ∧ (-4 ≤ V.2.2.2.1.1 c ∧ V.2.2.2.1.1 c ≤ 4) ∧ (V.1.2.1 (V.2.2.1.2.2.2.1 c) ≤ V.2.2.1.2.2.1 c ∧ V.2.2.1.2.2.1 c ≤ 20000) ∧ (0 ≤ V.2.2.2.1.2.1 c ∧ V.2.2.2.1.2.1 c ≤ 6) := h.2.2.2.2.2.1
theorem RelN.m {σ : Sg} {V : Vw} (h : RelN σ V) : (σ 40 3 = V.2.2.2.2.2.2.1 ∧ 0 ≤ V.2.2.2.2.2.2.1 ∧ V.2.2.2.2.2.2.1 ≤ 20) ∧ ∀ i, 0 ≤ i → i < V.2.2.2.2.2.2.1 → (σ 41 i = V.2.2.2.1.2.2.1 i ∧ 0 ≤ V.2.2.2.1.2.2.1 i ∧ V.2.2.2.1.2.2.1 i < 4) ∧ (σ 42 i = V.2.2.2.1.2.2.2.1 i ∧ 0 ≤ V.2.2.2.1.2.2.2.1 i ∧ V.2.2.2.1.2.2.2.1 i ≤ 20000) ∧ (σ 43 i = V.2.2.2.1.2.2.2.2 i ∧ 0 ≤ V.2.2.2.1.2.2.2.2 i ∧ V.2.2.2.1.2.2.2.2 i ≤ 20000) := h.2.2.2.2.2.2.1
theorem RelN.r {σ : Sg} {V : Vw} (h : RelN σ V) : (σ 44 3 = V.2.2.2.2.2.2.2.1 ∧ 0 ≤ V.2.2.2.2.2.2.2.1 ∧ V.2.2.2.2.2.2.2.1 ≤ 8) ∧ ∀ r, 0 ≤ r → r < V.2.2.2.2.2.2.2.1 → (0 ≤ σ 47 r ∧ σ 47 r ≤ 20) ∧ rulV V.2.2.2.2.1 (σ 45) (σ 46) (σ 47 r).toNat (100 * r) (20 * r) 0 := h.2.2.2.2.2.2.2.1
theorem RelN.h {σ : Sg} {V : Vw} (h : RelN σ V) : σ 48 9 = V.2.2.2.2.2.2.2.2 ∧ -1 ≤ V.2.2.2.2.2.2.2.2 ∧ V.2.2.2.2.2.2.2.2 ≤ 20000 := h.2.2.2.2.2.2.2.2
theorem RelN.mk {σ : Sg} {V : Vw} (g : ∀ i, 0 ≤ i → i < 1024 → σ 2 i = V.1.1 i ∧ 0 ≤ V.1.1 i ∧ V.1.1 i ≤ 2) (k : ∀ k, 0 ≤ k → k < 12 → (σ 7 k = V.1.2.1 k ∧ σ 8 k = V.1.2.2.1 k ∧ σ 9 k = V.1.2.2.2.1 k ∧ σ 10 k = V.1.2.2.2.2 k ∧ σ 11 k = V.2.1.1 k ∧ σ 12 k = V.2.1.2.1 k) ∧ (0 ≤ V.1.2.1 k ∧ V.1.2.1 k ≤ 60) ∧ (0 < V.1.2.1 k → (10 ≤ V.1.2.2.1 k ∧ V.1.2.2.1 k ≤ 300) ∧ (0 ≤ V.1.2.2.2.1 k ∧ V.1.2.2.2.1 k ≤ 60) ∧ (1 ≤ V.1.2.2.2.2 k ∧ V.1.2.2.2.2 k ≤ 99) ∧ (1 ≤ V.2.1.1 k ∧ V.2.1.1 k ≤ 9) ∧ (0 ≤ V.2.1.2.1 k ∧ V.2.1.2.1 k ≤ 5))) (b : ∀ s, 0 ≤ s → s < 6 → σ 5 s = V.2.1.2.2.2.2 s ∧ (0 ≤ V.2.1.2.2.2.2 s ∧ V.2.1.2.2.2.2 s ≤ 40) ∧ (0 < V.2.1.2.2.2.2 s → (V.2.1.2.2.1 s = 200 * σ 3 s + 100 ∧ 0 ≤ σ 3 s ∧ σ 3 s < 32) ∧ (V.2.1.2.2.2.1 s = 200 * σ 4 s + 100 ∧ 0 ≤ σ 4 s ∧ σ 4 s < 32))) (d : ∀ j, 0 ≤ j → j < 20 → σ 14 j = V.2.2.1.1 j ∧ σ 15 j = V.2.2.1.2.1 j ∧ (-50 ≤ V.2.2.1.1 j ∧ V.2.2.1.1 j ≤ 50) ∧ (-50 ≤ V.2.2.1.2.1 j ∧ V.2.2.1.2.1 j ≤ 50)) (n : σ 19 4 = V.2.2.2.2.2.1 ∧ 0 ≤ V.2.2.2.2.2.1 ∧ V.2.2.2.2.2.1 ≤ 120) (c : ∀ c, 0 ≤ c → c < V.2.2.2.2.2.1 → (σ 20 c = V.2.2.1.2.2.1 c ∧ σ 21 c = V.2.2.1.2.2.2.1 c ∧ σ 22 c = V.2.2.1.2.2.2.2 c ∧ σ 23 c = V.2.2.2.1.1 c ∧ σ 49 c = V.2.2.2.1.2.1 c) ∧ told V (V.2.2.1.2.2.2.1 c) ∧ (V.2.2.1.2.2.2.2 c = -1 ∨ isB V (V.2.2.1.2.2.2.2 c)) ∧ (-4 ≤ V.2.2.2.1.1 c ∧ V.2.2.2.1.1 c ≤ 4) ∧ (V.1.2.1 (V.2.2.1.2.2.2.1 c) ≤ V.2.2.1.2.2.1 c ∧ V.2.2.1.2.2.1 c ≤ 20000) ∧ (0 ≤ V.2.2.2.1.2.1 c ∧ V.2.2.2.1.2.1 c ≤ 6)) (m : (σ 40 3 = V.2.2.2.2.2.2.1 ∧ 0 ≤ V.2.2.2.2.2.2.1 ∧ V.2.2.2.2.2.2.1 ≤ 20) ∧ ∀ i, 0 ≤ i → i < V.2.2.2.2.2.2.1 → (σ 41 i = V.2.2.2.1.2.2.1 i ∧ 0 ≤ V.2.2.2.1.2.2.1 i ∧ V.2.2.2.1.2.2.1 i < 4) ∧ (σ 42 i = V.2.2.2.1.2.2.2.1 i ∧ 0 ≤ V.2.2.2.1.2.2.2.1 i ∧ V.2.2.2.1.2.2.2.1 i ≤ 20000) ∧ (σ 43 i = V.2.2.2.1.2.2.2.2 i ∧ 0 ≤ V.2.2.2.1.2.2.2.2 i ∧ V.2.2.2.1.2.2.2.2 i ≤ 20000)) (r : (σ 44 3 = V.2.2.2.2.2.2.2.1 ∧ 0 ≤ V.2.2.2.2.2.2.2.1 ∧ V.2.2.2.2.2.2.2.1 ≤ 8) ∧ ∀ r, 0 ≤ r → r < V.2.2.2.2.2.2.2.1 → (0 ≤ σ 47 r ∧ σ 47 r ≤ 20) ∧ rulV V.2.2.2.2.1 (σ 45) (σ 46) (σ 47 r).toNat (100 * r) (20 * r) 0) (h : σ 48 9 = V.2.2.2.2.2.2.2.2 ∧ -1 ≤ V.2.2.2.2.2.2.2.2 ∧ V.2.2.2.2.2.2.2.2 ≤ 20000) : RelN σ V := ⟨g, k, b, d, n, c, m, r, h⟩
abbrev RelV (σ : Sg) (V : Vw) : Prop := (RelN σ V) ∧ (∀ k w, told V k → 0 ≤ w → w < 4 → fallOk σ V k w 0 10 ∧ fallOk σ V k w 1 5)
theorem RelV.toRelN {σ : Sg} {V : Vw} (h : RelV σ V) : RelN σ V := h.1
theorem RelV.f {σ : Sg} {V : Vw} (h : RelV σ V) : ∀ k w, told V k → 0 ≤ w → w < 4 → fallOk σ V k w 0 10 ∧ fallOk σ V k w 1 5 := h.2
theorem RelV.g {σ : Sg} {V : Vw} (h : RelV σ V) : ∀ i, 0 ≤ i → i < 1024 → σ 2 i = V.1.1 i ∧ 0 ≤ V.1.1 i ∧ V.1.1 i ≤ 2 := h.1.g
theorem RelV.k {σ : Sg} {V : Vw} (h : RelV σ V) : ∀ k, 0 ≤ k → k < 12 → (σ 7 k = V.1.2.1 k ∧ σ 8 k = V.1.2.2.1 k ∧ σ 9 k = V.1.2.2.2.1 k ∧ σ 10 k = V.1.2.2.2.2 k ∧ σ 11 k = V.2.1.1 k ∧ σ 12 k = V.2.1.2.1 k) ∧ (0 ≤ V.1.2.1 k ∧ V.1.2.1 k ≤ 60) ∧ (0 < V.1.2.1 k → (10 ≤ V.1.2.2.1 k ∧ V.1.2.2.1 k ≤ 300) ∧ (0 ≤ V.1.2.2.2.1 k ∧ V.1.2.2.2.1 k ≤ 60) ∧ (1 ≤ V.1.2.2.2.2 k ∧ V.1.2.2.2.2 k ≤ 99) ∧ (1 ≤ V.2.1.1 k ∧ V.2.1.1 k ≤ 9) ∧ (0 ≤ V.2.1.2.1 k ∧ V.2.1.2.1 k ≤ 5)) := h.1.k
theorem RelV.b {σ : Sg} {V : Vw} (h : RelV σ V) : ∀ s, 0 ≤ s → s < 6 → σ 5 s = V.2.1.2.2.2.2 s ∧ (0 ≤ V.2.1.2.2.2.2 s ∧ V.2.1.2.2.2.2 s ≤ 40) ∧ (0 < V.2.1.2.2.2.2 s → (V.2.1.2.2.1 s = 200 * σ 3 s + 100 ∧ 0 ≤ σ 3 s ∧ σ 3 s < 32) ∧ (V.2.1.2.2.2.1 s = 200 * σ 4 s + 100 ∧ 0 ≤ σ 4 s ∧ σ 4 s < 32)) := h.1.b
theorem RelV.d {σ : Sg} {V : Vw} (h : RelV σ V) : ∀ j, 0 ≤ j → j < 20 → σ 14 j = V.2.2.1.1 j ∧ σ 15 j = V.2.2.1.2.1 j ∧ (-50 ≤ V.2.2.1.1 j ∧ V.2.2.1.1 j ≤ 50) ∧ (-50 ≤ V.2.2.1.2.1 j ∧ V.2.2.1.2.1 j ≤ 50) := h.1.d
theorem RelV.n {σ : Sg} {V : Vw} (h : RelV σ V) : σ 19 4 = V.2.2.2.2.2.1 ∧ 0 ≤ V.2.2.2.2.2.1 ∧ V.2.2.2.2.2.1 ≤ 120 := h.1.n
theorem RelV.c {σ : Sg} {V : Vw} (h : RelV σ V) : ∀ c, 0 ≤ c → c < V.2.2.2.2.2.1 → (σ 20 c = V.2.2.1.2.2.1 c ∧ σ 21 c = V.2.2.1.2.2.2.1 c ∧ σ 22 c = V.2.2.1.2.2.2.2 c ∧ σ 23 c = V.2.2.2.1.1 c ∧ σ 49 c = V.2.2.2.1.2.1 c) ∧ told V (V.2.2.1.2.2.2.1 c) ∧ (V.2.2.1.2.2.2.2 c = -1 ∨ isB V (V.2.2.1.2.2.2.2 c)) ∧ (-4 ≤ V.2.2.2.1.1 c ∧ V.2.2.2.1.1 c ≤ 4) ∧ (V.1.2.1 (V.2.2.1.2.2.2.1 c) ≤ V.2.2.1.2.2.1 c ∧ V.2.2.1.2.2.1 c ≤ 20000) ∧ (0 ≤ V.2.2.2.1.2.1 c ∧ V.2.2.2.1.2.1 c ≤ 6) := h.1.c
theorem RelV.m {σ : Sg} {V : Vw} (h : RelV σ V) : (σ 40 3 = V.2.2.2.2.2.2.1 ∧ 0 ≤ V.2.2.2.2.2.2.1 ∧ V.2.2.2.2.2.2.1 ≤ 20) ∧ ∀ i, 0 ≤ i → i < V.2.2.2.2.2.2.1 → (σ 41 i = V.2.2.2.1.2.2.1 i ∧ 0 ≤ V.2.2.2.1.2.2.1 i ∧ V.2.2.2.1.2.2.1 i < 4) ∧ (σ 42 i = V.2.2.2.1.2.2.2.1 i ∧ 0 ≤ V.2.2.2.1.2.2.2.1 i ∧ V.2.2.2.1.2.2.2.1 i ≤ 20000) ∧ (σ 43 i = V.2.2.2.1.2.2.2.2 i ∧ 0 ≤ V.2.2.2.1.2.2.2.2 i ∧ V.2.2.2.1.2.2.2.2 i ≤ 20000) := h.1.m
theorem RelV.r {σ : Sg} {V : Vw} (h : RelV σ V) : (σ 44 3 = V.2.2.2.2.2.2.2.1 ∧ 0 ≤ V.2.2.2.2.2.2.2.1 ∧ V.2.2.2.2.2.2.2.1 ≤ 8) ∧ ∀ r, 0 ≤ r → r < V.2.2.2.2.2.2.2.1 → (0 ≤ σ 47 r ∧ σ 47 r ≤ 20) ∧ rulV V.2.2.2.2.1 (σ 45) (σ 46) (σ 47 r).toNat (100 * r) (20 * r) 0 := h.1.r
theorem RelV.h {σ : Sg} {V : Vw} (h : RelV σ V) : σ 48 9 = V.2.2.2.2.2.2.2.2 ∧ -1 ≤ V.2.2.2.2.2.2.2.2 ∧ V.2.2.2.2.2.2.2.2 ≤ 20000 := h.1.h
theorem RelV.all {σ : Sg} {V : Vw} (g : ∀ i, 0 ≤ i → i < 1024 → σ 2 i = V.1.1 i ∧ 0 ≤ V.1.1 i ∧ V.1.1 i ≤ 2) (k : ∀ k, 0 ≤ k → k < 12 → (σ 7 k = V.1.2.1 k ∧ σ 8 k = V.1.2.2.1 k ∧ σ 9 k = V.1.2.2.2.1 k ∧ σ 10 k = V.1.2.2.2.2 k ∧ σ 11 k = V.2.1.1 k ∧ σ 12 k = V.2.1.2.1 k) ∧ (0 ≤ V.1.2.1 k ∧ V.1.2.1 k ≤ 60) ∧ (0 < V.1.2.1 k → (10 ≤ V.1.2.2.1 k ∧ V.1.2.2.1 k ≤ 300) ∧ (0 ≤ V.1.2.2.2.1 k ∧ V.1.2.2.2.1 k ≤ 60) ∧ (1 ≤ V.1.2.2.2.2 k ∧ V.1.2.2.2.2 k ≤ 99) ∧ (1 ≤ V.2.1.1 k ∧ V.2.1.1 k ≤ 9) ∧ (0 ≤ V.2.1.2.1 k ∧ V.2.1.2.1 k ≤ 5))) (b : ∀ s, 0 ≤ s → s < 6 → σ 5 s = V.2.1.2.2.2.2 s ∧ (0 ≤ V.2.1.2.2.2.2 s ∧ V.2.1.2.2.2.2 s ≤ 40) ∧ (0 < V.2.1.2.2.2.2 s → (V.2.1.2.2.1 s = 200 * σ 3 s + 100 ∧ 0 ≤ σ 3 s ∧ σ 3 s < 32) ∧ (V.2.1.2.2.2.1 s = 200 * σ 4 s + 100 ∧ 0 ≤ σ 4 s ∧ σ 4 s < 32))) (d : ∀ j, 0 ≤ j → j < 20 → σ 14 j = V.2.2.1.1 j ∧ σ 15 j = V.2.2.1.2.1 j ∧ (-50 ≤ V.2.2.1.1 j ∧ V.2.2.1.1 j ≤ 50) ∧ (-50 ≤ V.2.2.1.2.1 j ∧ V.2.2.1.2.1 j ≤ 50)) (n : σ 19 4 = V.2.2.2.2.2.1 ∧ 0 ≤ V.2.2.2.2.2.1 ∧ V.2.2.2.2.2.1 ≤ 120) (c : ∀ c, 0 ≤ c → c < V.2.2.2.2.2.1 → (σ 20 c = V.2.2.1.2.2.1 c ∧ σ 21 c = V.2.2.1.2.2.2.1 c ∧ σ 22 c = V.2.2.1.2.2.2.2 c ∧ σ 23 c = V.2.2.2.1.1 c ∧ σ 49 c = V.2.2.2.1.2.1 c) ∧ told V (V.2.2.1.2.2.2.1 c) ∧ (V.2.2.1.2.2.2.2 c = -1 ∨ isB V (V.2.2.1.2.2.2.2 c)) ∧ (-4 ≤ V.2.2.2.1.1 c ∧ V.2.2.2.1.1 c ≤ 4) ∧ (V.1.2.1 (V.2.2.1.2.2.2.1 c) ≤ V.2.2.1.2.2.1 c ∧ V.2.2.1.2.2.1 c ≤ 20000) ∧ (0 ≤ V.2.2.2.1.2.1 c ∧ V.2.2.2.1.2.1 c ≤ 6)) (m : (σ 40 3 = V.2.2.2.2.2.2.1 ∧ 0 ≤ V.2.2.2.2.2.2.1 ∧ V.2.2.2.2.2.2.1 ≤ 20) ∧ ∀ i, 0 ≤ i → i < V.2.2.2.2.2.2.1 → (σ 41 i = V.2.2.2.1.2.2.1 i ∧ 0 ≤ V.2.2.2.1.2.2.1 i ∧ V.2.2.2.1.2.2.1 i < 4) ∧ (σ 42 i = V.2.2.2.1.2.2.2.1 i ∧ 0 ≤ V.2.2.2.1.2.2.2.1 i ∧ V.2.2.2.1.2.2.2.1 i ≤ 20000) ∧ (σ 43 i = V.2.2.2.1.2.2.2.2 i ∧ 0 ≤ V.2.2.2.1.2.2.2.2 i ∧ V.2.2.2.1.2.2.2.2 i ≤ 20000)) (r : (σ 44 3 = V.2.2.2.2.2.2.2.1 ∧ 0 ≤ V.2.2.2.2.2.2.2.1 ∧ V.2.2.2.2.2.2.2.1 ≤ 8) ∧ ∀ r, 0 ≤ r → r < V.2.2.2.2.2.2.2.1 → (0 ≤ σ 47 r ∧ σ 47 r ≤ 20) ∧ rulV V.2.2.2.2.1 (σ 45) (σ 46) (σ 47 r).toNat (100 * r) (20 * r) 0) (h : σ 48 9 = V.2.2.2.2.2.2.2.2 ∧ -1 ≤ V.2.2.2.2.2.2.2.2 ∧ V.2.2.2.2.2.2.2.2 ≤ 20000) (f : ∀ k w, told V k → 0 ≤ w → w < 4 → fallOk σ V k w 0 10 ∧ fallOk σ V k w 1 5) : RelV σ V := ⟨⟨g, k, b, d, n, c, m, r, h⟩, f⟩
theorem RelV.mk {σ : Sg} {V : Vw} (toRelN : RelN σ V) (f : ∀ k w, told V k → 0 ≤ w → w < 4 → fallOk σ V k w 0 10 ∧ fallOk σ V k w 1 5) : RelV σ V := ⟨toRelN, f⟩
theorem RelN_congr {σ σ' : Sg} {V : Vw} (R : RelN σ V) (h : ∀ j ∈ [2, 3, 4, 5, 7, 8, 9, 10, 11, 12, 14, 15, 19, 20, 21, 22, 23, 40, 41, 42, 43, 44, 45, 46, 47, 48, 49], σ' j = σ j) : RelN σ' V := by
  have e : ∀ j, j ∈ [2, 3, 4, 5, 7, 8, 9, 10, 11, 12, 14, 15, 19, 20, 21, 22, 23, 40, 41, 42, 43, 44, 45, 46, 47, 48, 49] → σ' j = σ j := h
  refine RelN.mk ?_ ?_ ?_ ?_ ?_ ?_ ?_ ?_ ?_
  · rw [e 2 (by decide)]; exact R.g
  · rw [e 7 (by decide), e 8 (by decide), e 9 (by decide), e 10 (by decide), e 11 (by decide), e 12 (by decide)]; exact R.k
  · rw [e 3 (by decide), e 4 (by decide), e 5 (by decide)]; exact R.b
  · rw [e 14 (by decide), e 15 (by decide)]; exact R.d
  · rw [e 19 (by decide)]; exact R.n
  · rw [e 20 (by decide), e 21 (by decide), e 22 (by decide), e 23 (by decide), e 49 (by decide)]; exact R.c
  · rw [e 40 (by decide), e 41 (by decide), e 42 (by decide), e 43 (by decide)]; exact R.m
  · rw [e 44 (by decide), e 45 (by decide), e 46 (by decide), e 47 (by decide)]; exact R.r
  · rw [e 48 (by decide)]; exact R.h
theorem RelV_congr {σ σ' : Sg} {V : Vw} (R : RelV σ V) (h : ∀ j ∈ [2, 3, 4, 5, 7, 8, 9, 10, 11, 12, 14, 15, 16, 17, 18, 19, 20, 21, 22, 23, 40, 41, 42, 43, 44, 45, 46, 47, 48, 49], σ' j = σ j) : RelV σ' V := by
  refine ⟨RelN_congr R.toRelN (fun j hj => h j ?_), ?_⟩
  · simp only [List.mem_cons, List.not_mem_nil, or_false] at hj ⊢; omega
  · intro k w h1 h2 h3
    have := R.f k w h1 h2 h3
    unfold fallOk fallAt at this ⊢
    rw [h 16 (by decide), h 17 (by decide), h 18 (by decide)]; exact this
end

section
set_option linter.unusedVariables false
variable {σ τ : Sg} {V : Vw}

theorem cc_isCue {c : Int} (R : RelN σ V) : fX1_isCue 19 c σ = some (bi (0 ≤ c ∧ c < V.2.2.2.2.2.1)) := by
  have h := R.n
  unfold fX1_isCue
  by_cases h1 : c < 0
  · rw [bi_F (by omega)]; (try simp (disch := omega) only [↓ck_e, ↓rd_e, ↓wr_e, ↓wrB_e, ↓wrZ_e, ↓dv_e, ↓md_e, ↓fdv_e, ↓cpy_e, ↓filB_e, ↓filI_e, ↓filL_e, ↓st1_e, ↓bnd_e, ↓iT, ↓iF, ↓reduceIte, put_ne, put_T, put_F, isIn_T, isIn_F])
  · by_cases h2 : c < V.2.2.2.2.2.1
    · rw [bi_T (by omega)]; (try simp (disch := omega) only [↓ck_e, ↓rd_e, ↓wr_e, ↓wrB_e, ↓wrZ_e, ↓dv_e, ↓md_e, ↓fdv_e, ↓cpy_e, ↓filB_e, ↓filI_e, ↓filL_e, ↓st1_e, ↓bnd_e, ↓iT, ↓iF, ↓reduceIte, put_ne, put_T, put_F, isIn_T, isIn_F])
    · rw [bi_F (by omega)]; (try simp (disch := omega) only [↓ck_e, ↓rd_e, ↓wr_e, ↓wrB_e, ↓wrZ_e, ↓dv_e, ↓md_e, ↓fdv_e, ↓cpy_e, ↓filB_e, ↓filI_e, ↓filL_e, ↓st1_e, ↓bnd_e, ↓iT, ↓iF, ↓reduceIte, put_ne, put_T, put_F, isIn_T, isIn_F])
theorem cc_burst {c : Int} (R : RelN σ V) (h0 : 0 ≤ c) (h1 : c < V.2.2.2.2.2.1) : fX1_burstOf 19 c σ = some (V.2.2.1.2.2.1 c) := by
  have h := R.n
  unfold fX1_burstOf; rw [cc_isCue R, bi_T ⟨h0, h1⟩]; (try simp (disch := omega) only [↓ck_e, ↓rd_e, ↓wr_e, ↓wrB_e, ↓wrZ_e, ↓dv_e, ↓md_e, ↓fdv_e, ↓cpy_e, ↓filB_e, ↓filI_e, ↓filL_e, ↓st1_e, ↓bnd_e, ↓iT, ↓iF, ↓reduceIte, put_ne, put_T, put_F, isIn_T, isIn_F])
  rw [((R.c c h0 h1).1).1]
theorem cc_kind {c : Int} (R : RelN σ V) (h0 : 0 ≤ c) (h1 : c < V.2.2.2.2.2.1) : fX1_kindOf 19 c σ = some (V.2.2.1.2.2.2.1 c) := by
  have h := R.n
  unfold fX1_kindOf; rw [cc_isCue R, bi_T ⟨h0, h1⟩]; (try simp (disch := omega) only [↓ck_e, ↓rd_e, ↓wr_e, ↓wrB_e, ↓wrZ_e, ↓dv_e, ↓md_e, ↓fdv_e, ↓cpy_e, ↓filB_e, ↓filI_e, ↓filL_e, ↓st1_e, ↓bnd_e, ↓iT, ↓iF, ↓reduceIte, put_ne, put_T, put_F, isIn_T, isIn_F])
  rw [((R.c c h0 h1).1).2.1]
theorem cc_barge {c : Int} (R : RelN σ V) (h0 : 0 ≤ c) (h1 : c < V.2.2.2.2.2.1) : fX1_bargeOf 19 c σ = some (V.2.2.1.2.2.2.2 c) := by
  have h := R.n
  unfold fX1_bargeOf; rw [cc_isCue R, bi_T ⟨h0, h1⟩]; (try simp (disch := omega) only [↓ck_e, ↓rd_e, ↓wr_e, ↓wrB_e, ↓wrZ_e, ↓dv_e, ↓md_e, ↓fdv_e, ↓cpy_e, ↓filB_e, ↓filI_e, ↓filL_e, ↓st1_e, ↓bnd_e, ↓iT, ↓iF, ↓reduceIte, put_ne, put_T, put_F, isIn_T, isIn_F])
  rw [((R.c c h0 h1).1).2.2.1]
theorem cc_angle {c : Int} (R : RelN σ V) (h0 : 0 ≤ c) (h1 : c < V.2.2.2.2.2.1) : fX1_angleOf 19 c σ = some (V.2.2.2.1.1 c) := by
  have h := R.n
  unfold fX1_angleOf; rw [cc_isCue R, bi_T ⟨h0, h1⟩]; (try simp (disch := omega) only [↓ck_e, ↓rd_e, ↓wr_e, ↓wrB_e, ↓wrZ_e, ↓dv_e, ↓md_e, ↓fdv_e, ↓cpy_e, ↓filB_e, ↓filI_e, ↓filL_e, ↓st1_e, ↓bnd_e, ↓iT, ↓iF, ↓reduceIte, put_ne, put_T, put_F, isIn_T, isIn_F])
  rw [((R.c c h0 h1).1).2.2.2.1]
theorem cc_fault {c : Int} (R : RelN σ V) (h0 : 0 ≤ c) (h1 : c < V.2.2.2.2.2.1) : fX7_faultOf c σ = some (V.2.2.2.1.2.1 c) := by
  have h := R.n
  unfold fX7_faultOf; (try simp (disch := omega) only [↓ck_e, ↓rd_e, ↓wr_e, ↓wrB_e, ↓wrZ_e, ↓dv_e, ↓md_e, ↓fdv_e, ↓cpy_e, ↓filB_e, ↓filI_e, ↓filL_e, ↓st1_e, ↓bnd_e, ↓iT, ↓iF, ↓reduceIte, put_ne, put_T, put_F, isIn_T, isIn_F])
  rw [((R.c c h0 h1).1).2.2.2.2]
theorem cc_told {k : Int} (R : RelN σ V) : fX2_isTold k σ = some (bi (told V k)) := by
  unfold fX2_isTold told
  by_cases h1 : 0 ≤ k ∧ k < 12
  · have e := ((R.k k h1.1 h1.2).1).1
    by_cases h2 : 0 < V.1.2.1 k
    · rw [bi_T ⟨h1, h2⟩]; (try simp (disch := omega) only [↓ck_e, ↓rd_e, ↓wr_e, ↓wrB_e, ↓wrZ_e, ↓dv_e, ↓md_e, ↓fdv_e, ↓cpy_e, ↓filB_e, ↓filI_e, ↓filL_e, ↓st1_e, ↓bnd_e, ↓iT, ↓iF, ↓reduceIte, put_ne, put_T, put_F, isIn_T, isIn_F])
    · rw [bi_F (fun x => h2 x.2)]; (try simp (disch := omega) only [↓ck_e, ↓rd_e, ↓wr_e, ↓wrB_e, ↓wrZ_e, ↓dv_e, ↓md_e, ↓fdv_e, ↓cpy_e, ↓filB_e, ↓filI_e, ↓filL_e, ↓st1_e, ↓bnd_e, ↓iT, ↓iF, ↓reduceIte, put_ne, put_T, put_F, isIn_T, isIn_F])
  · rw [bi_F (fun x => h1 x.1)]
    by_cases h3 : k < 0 <;> (try simp (disch := omega) only [↓ck_e, ↓rd_e, ↓wr_e, ↓wrB_e, ↓wrZ_e, ↓dv_e, ↓md_e, ↓fdv_e, ↓cpy_e, ↓filB_e, ↓filI_e, ↓filL_e, ↓st1_e, ↓bnd_e, ↓iT, ↓iF, ↓reduceIte, put_ne, put_T, put_F, isIn_T, isIn_F])
theorem cc_toldT {k : Int} (R : RelN σ V) (h : told V k) : fX2_isTold k σ = some 1 := by rw [cc_told R, bi_T h]
theorem cc_lift {k : Int} (R : RelN σ V) (h : told V k) : fX2_liftOf k σ = some (V.1.2.1 k) := by
  have h1 := h.1; have e := (R.k k h1.1 h1.2).1
  unfold fX2_liftOf; rw [cc_toldT R h]; (try simp (disch := omega) only [↓ck_e, ↓rd_e, ↓wr_e, ↓wrB_e, ↓wrZ_e, ↓dv_e, ↓md_e, ↓fdv_e, ↓cpy_e, ↓filB_e, ↓filI_e, ↓filL_e, ↓st1_e, ↓bnd_e, ↓iT, ↓iF, ↓reduceIte, put_ne, put_T, put_F, isIn_T, isIn_F]); rw [e.1]
theorem cc_height {k : Int} (R : RelN σ V) (h : told V k) : fX2_heightOf k σ = some (V.1.2.2.1 k) := by
  have h1 := h.1; have e := (R.k k h1.1 h1.2).1
  unfold fX2_heightOf; rw [cc_toldT R h]; (try simp (disch := omega) only [↓ck_e, ↓rd_e, ↓wr_e, ↓wrB_e, ↓wrZ_e, ↓dv_e, ↓md_e, ↓fdv_e, ↓cpy_e, ↓filB_e, ↓filI_e, ↓filL_e, ↓st1_e, ↓bnd_e, ↓iT, ↓iF, ↓reduceIte, put_ne, put_T, put_F, isIn_T, isIn_F]); rw [e.2.1]
theorem cc_spread {k : Int} (R : RelN σ V) (h : told V k) : fX2_spreadOf k σ = some (V.1.2.2.2.1 k) := by
  have h1 := h.1; have e := (R.k k h1.1 h1.2).1
  unfold fX2_spreadOf; rw [cc_toldT R h]; (try simp (disch := omega) only [↓ck_e, ↓rd_e, ↓wr_e, ↓wrB_e, ↓wrZ_e, ↓dv_e, ↓md_e, ↓fdv_e, ↓cpy_e, ↓filB_e, ↓filI_e, ↓filL_e, ↓st1_e, ↓bnd_e, ↓iT, ↓iF, ↓reduceIte, put_ne, put_T, put_F, isIn_T, isIn_F]); rw [e.2.2.1]
theorem cc_burn {k : Int} (R : RelN σ V) (h : told V k) : fX2_burnOf k σ = some (V.1.2.2.2.2 k) := by
  have h1 := h.1; have e := (R.k k h1.1 h1.2).1
  unfold fX2_burnOf; rw [cc_toldT R h]; (try simp (disch := omega) only [↓ck_e, ↓rd_e, ↓wr_e, ↓wrB_e, ↓wrZ_e, ↓dv_e, ↓md_e, ↓fdv_e, ↓cpy_e, ↓filB_e, ↓filI_e, ↓filL_e, ↓st1_e, ↓bnd_e, ↓iT, ↓iF, ↓reduceIte, put_ne, put_T, put_F, isIn_T, isIn_F]); rw [e.2.2.2.1]
theorem cc_colour {k : Int} (R : RelN σ V) (h : told V k) : fX2_colourOf k σ = some (V.2.1.1 k) := by
  have h1 := h.1; have e := (R.k k h1.1 h1.2).1
  unfold fX2_colourOf; rw [cc_toldT R h]; (try simp (disch := omega) only [↓ck_e, ↓rd_e, ↓wr_e, ↓wrB_e, ↓wrZ_e, ↓dv_e, ↓md_e, ↓fdv_e, ↓cpy_e, ↓filB_e, ↓filI_e, ↓filL_e, ↓st1_e, ↓bnd_e, ↓iT, ↓iF, ↓reduceIte, put_ne, put_T, put_F, isIn_T, isIn_F]); rw [e.2.2.2.2.1]
theorem cc_late {k : Int} (R : RelN σ V) (h : told V k) : fX2_lateOf k σ = some (V.2.1.2.1 k) := by
  have h1 := h.1; have e := (R.k k h1.1 h1.2).1
  unfold fX2_lateOf; rw [cc_toldT R h]; (try simp (disch := omega) only [↓ck_e, ↓rd_e, ↓wr_e, ↓wrB_e, ↓wrZ_e, ↓dv_e, ↓md_e, ↓fdv_e, ↓cpy_e, ↓filB_e, ↓filI_e, ↓filL_e, ↓st1_e, ↓bnd_e, ↓iT, ↓iF, ↓reduceIte, put_ne, put_T, put_F, isIn_T, isIn_F]); rw [e.2.2.2.2.2]
theorem cc_isBarge {s : Int} (R : RelN σ V) : fX8_isBarge s σ = some (bi (isB V s)) := by
  unfold fX8_isBarge isB
  by_cases h1 : 0 ≤ s ∧ s < 6
  · have e := (R.b s h1.1 h1.2).1
    by_cases h2 : 0 < V.2.1.2.2.2.2 s
    · rw [bi_T ⟨h1, h2⟩]; (try simp (disch := omega) only [↓ck_e, ↓rd_e, ↓wr_e, ↓wrB_e, ↓wrZ_e, ↓dv_e, ↓md_e, ↓fdv_e, ↓cpy_e, ↓filB_e, ↓filI_e, ↓filL_e, ↓st1_e, ↓bnd_e, ↓iT, ↓iF, ↓reduceIte, put_ne, put_T, put_F, isIn_T, isIn_F])
    · rw [bi_F (fun x => h2 x.2)]; (try simp (disch := omega) only [↓ck_e, ↓rd_e, ↓wr_e, ↓wrB_e, ↓wrZ_e, ↓dv_e, ↓md_e, ↓fdv_e, ↓cpy_e, ↓filB_e, ↓filI_e, ↓filL_e, ↓st1_e, ↓bnd_e, ↓iT, ↓iF, ↓reduceIte, put_ne, put_T, put_F, isIn_T, isIn_F])
  · rw [bi_F (fun x => h1 x.1)]
    by_cases h3 : s < 0 <;> (try simp (disch := omega) only [↓ck_e, ↓rd_e, ↓wr_e, ↓wrB_e, ↓wrZ_e, ↓dv_e, ↓md_e, ↓fdv_e, ↓cpy_e, ↓filB_e, ↓filI_e, ↓filL_e, ↓st1_e, ↓bnd_e, ↓iT, ↓iF, ↓reduceIte, put_ne, put_T, put_F, isIn_T, isIn_F])
theorem cc_channels {s : Int} (R : RelN σ V) (h0 : 0 ≤ s) (h1 : s < 6) : fX8_channelsOf s σ = some (V.2.1.2.2.2.2 s) := by
  have e := R.b s h0 h1
  unfold fX8_channelsOf; rw [cc_isBarge R]
  by_cases h2 : 0 < V.2.1.2.2.2.2 s
  · rw [bi_T ⟨⟨h0, h1⟩, h2⟩]; (try simp (disch := omega) only [↓ck_e, ↓rd_e, ↓wr_e, ↓wrB_e, ↓wrZ_e, ↓dv_e, ↓md_e, ↓fdv_e, ↓cpy_e, ↓filB_e, ↓filI_e, ↓filL_e, ↓st1_e, ↓bnd_e, ↓iT, ↓iF, ↓reduceIte, put_ne, put_T, put_F, isIn_T, isIn_F]); rw [e.1]
  · rw [bi_F (fun x => h2 x.2)]; (try simp (disch := omega) only [↓ck_e, ↓rd_e, ↓wr_e, ↓wrB_e, ↓wrZ_e, ↓dv_e, ↓md_e, ↓fdv_e, ↓cpy_e, ↓filB_e, ↓filI_e, ↓filL_e, ↓st1_e, ↓bnd_e, ↓iT, ↓iF, ↓reduceIte, put_ne, put_T, put_F, isIn_T, isIn_F])
    rw [show V.2.1.2.2.2.2 s = 0 by omega]
theorem cc_fire {c : Int} (R : RelN σ V) (h0 : 0 ≤ c) (h1 : c < V.2.2.2.2.2.1) : fX8_fireOf 19 c σ = some (V.2.2.1.2.2.1 c - V.1.2.1 (V.2.2.1.2.2.2.1 c)) := by
  have h := R.n; have e := R.c c h0 h1; have hk := R.k (V.2.2.1.2.2.2.1 c) e.2.1.1.1 e.2.1.1.2
  unfold fX8_fireOf
  rw [cc_burst R h0 h1, cc_kind R h0 h1]; simp only [bnd_e]; rw [cc_lift R e.2.1]; (try simp (disch := omega) only [↓ck_e, ↓rd_e, ↓wr_e, ↓wrB_e, ↓wrZ_e, ↓dv_e, ↓md_e, ↓fdv_e, ↓cpy_e, ↓filB_e, ↓filI_e, ↓filL_e, ↓st1_e, ↓bnd_e, ↓iT, ↓iF, ↓reduceIte, put_ne, put_T, put_F, isIn_T, isIn_F])

theorem rr_isKind {k : Int} : fX12_isKind k τ = some (bi (told (vw τ) k)) := by
  unfold fX12_isKind told
  by_cases h1 : 0 ≤ k ∧ k < 12
  · by_cases h2 : 0 < τ 2 k
    · rw [bi_T ⟨h1, h2⟩]; (try simp (disch := omega) only [↓ck_e, ↓rd_e, ↓wr_e, ↓wrB_e, ↓wrZ_e, ↓dv_e, ↓md_e, ↓fdv_e, ↓cpy_e, ↓filB_e, ↓filI_e, ↓filL_e, ↓st1_e, ↓bnd_e, ↓iT, ↓iF, ↓reduceIte, put_ne, put_T, put_F, isIn_T, isIn_F])
    · rw [bi_F (fun x => h2 x.2)]; (try simp (disch := omega) only [↓ck_e, ↓rd_e, ↓wr_e, ↓wrB_e, ↓wrZ_e, ↓dv_e, ↓md_e, ↓fdv_e, ↓cpy_e, ↓filB_e, ↓filI_e, ↓filL_e, ↓st1_e, ↓bnd_e, ↓iT, ↓iF, ↓reduceIte, put_ne, put_T, put_F, isIn_T, isIn_F])
  · rw [bi_F (fun x => h1 x.1)]; (try simp (disch := omega) only [↓ck_e, ↓rd_e, ↓wr_e, ↓wrB_e, ↓wrZ_e, ↓dv_e, ↓md_e, ↓fdv_e, ↓cpy_e, ↓filB_e, ↓filI_e, ↓filL_e, ↓st1_e, ↓bnd_e, ↓iT, ↓iF, ↓reduceIte, put_ne, put_T, put_F, isIn_T, isIn_F])
theorem rr_isBarge {s : Int} : fX12_isBarge s τ = some (bi (isB (vw τ) s)) := by
  unfold fX12_isBarge isB
  by_cases h1 : 0 ≤ s ∧ s < 6
  · by_cases h2 : 0 < τ 10 s
    · rw [bi_T ⟨h1, h2⟩]; (try simp (disch := omega) only [↓ck_e, ↓rd_e, ↓wr_e, ↓wrB_e, ↓wrZ_e, ↓dv_e, ↓md_e, ↓fdv_e, ↓cpy_e, ↓filB_e, ↓filI_e, ↓filL_e, ↓st1_e, ↓bnd_e, ↓iT, ↓iF, ↓reduceIte, put_ne, put_T, put_F, isIn_T, isIn_F])
    · rw [bi_F (fun x => h2 x.2)]; (try simp (disch := omega) only [↓ck_e, ↓rd_e, ↓wr_e, ↓wrB_e, ↓wrZ_e, ↓dv_e, ↓md_e, ↓fdv_e, ↓cpy_e, ↓filB_e, ↓filI_e, ↓filL_e, ↓st1_e, ↓bnd_e, ↓iT, ↓iF, ↓reduceIte, put_ne, put_T, put_F, isIn_T, isIn_F])
  · rw [bi_F (fun x => h1 x.1)]; (try simp (disch := omega) only [↓ck_e, ↓rd_e, ↓wr_e, ↓wrB_e, ↓wrZ_e, ↓dv_e, ↓md_e, ↓fdv_e, ↓cpy_e, ↓filB_e, ↓filI_e, ↓filL_e, ↓st1_e, ↓bnd_e, ↓iT, ↓iF, ↓reduceIte, put_ne, put_T, put_F, isIn_T, isIn_F])
theorem rr_isCue {c : Int} (h : 0 ≤ τ 0 32) (h' : τ 0 32 ≤ 120) : fX12_isCue c τ = some (bi (0 ≤ c ∧ c < τ 0 32)) := by
  unfold fX12_isCue
  by_cases h1 : 0 ≤ c ∧ c < τ 0 32
  · rw [bi_T h1]; (try simp (disch := omega) only [↓ck_e, ↓rd_e, ↓wr_e, ↓wrB_e, ↓wrZ_e, ↓dv_e, ↓md_e, ↓fdv_e, ↓cpy_e, ↓filB_e, ↓filI_e, ↓filL_e, ↓st1_e, ↓bnd_e, ↓iT, ↓iF, ↓reduceIte, put_ne, put_T, put_F, isIn_T, isIn_F])
  · rw [bi_F h1]; (try simp (disch := omega) only [↓ck_e, ↓rd_e, ↓wr_e, ↓wrB_e, ↓wrZ_e, ↓dv_e, ↓md_e, ↓fdv_e, ↓cpy_e, ↓filB_e, ↓filI_e, ↓filL_e, ↓st1_e, ↓bnd_e, ↓iT, ↓iF, ↓reduceIte, put_ne, put_T, put_F, isIn_T, isIn_F])
theorem rr_fire {c : Int} (R : RelN σ (vw τ)) (h0 : 0 ≤ c) (h1 : c < τ 0 32) : fX12_fire c τ = some (τ 13 c - τ 2 (τ 14 c)) := by
  have h := R.n; have e := R.c c h0 h1; have ht := e.2.1.1; have hk := R.k (τ 14 c) ht.1 ht.2
  simp only at h e hk ht
  unfold fX12_fire; (try simp (disch := omega) only [↓ck_e, ↓rd_e, ↓wr_e, ↓wrB_e, ↓wrZ_e, ↓dv_e, ↓md_e, ↓fdv_e, ↓cpy_e, ↓filB_e, ↓filI_e, ↓filL_e, ↓st1_e, ↓bnd_e, ↓iT, ↓iF, ↓reduceIte, put_ne, put_T, put_F, isIn_T, isIn_F])
theorem rr_amount {a : Int} (h1 : -2147483647 ≤ a) (h2 : a ≤ 2147483647) : fX12_amount a τ = some (abI a) := by
  unfold fX12_amount abI
  by_cases h : a < 0 <;> (try simp (disch := omega) only [↓ck_e, ↓rd_e, ↓wr_e, ↓wrB_e, ↓wrZ_e, ↓dv_e, ↓md_e, ↓fdv_e, ↓cpy_e, ↓filB_e, ↓filI_e, ↓filL_e, ↓st1_e, ↓bnd_e, ↓iT, ↓iF, ↓reduceIte, put_ne, put_T, put_F, isIn_T, isIn_F])
end

section
set_option linter.unusedVariables false
variable {σ τ : Sg} {V : Vw}
theorem srch {β : Type} {L : Nat → Int → Option β} {m lo : Int} {P : Int → Prop} {a b : Option β}
    (h0 : ∀ n i, lo ≤ i → i < m → P i → L (n + 1) i = a) (h1 : ∀ n i, lo ≤ i → i < m → ¬ P i → L (n + 1) i = L n (i + 1))
    (h2 : ∀ n i, lo ≤ i → m ≤ i → L (n + 1) i = b) :
    ∀ (n : Nat) (i : Int), lo ≤ i → m - i < (n : Int) → 0 < n → ((∃ j, i ≤ j ∧ j < m ∧ P j) → L n i = a) ∧ ((¬ ∃ j, i ≤ j ∧ j < m ∧ P j) → L n i = b) := by
  intro n
  induction n with
  | zero => intro i _ _ h; omega
  | succ n ih =>
    intro i hi hn _
    by_cases hm : i < m
    · by_cases hp : P i
      · exact ⟨fun _ => h0 n i hi hm hp, fun x => absurd ⟨i, by omega, hm, hp⟩ x⟩
      · have hn0 : 0 < n := by omega
        obtain ⟨ia, ib⟩ := ih (i + 1) (by omega) (by omega) hn0
        rw [h1 n i hi hm hp]
        constructor
        · rintro ⟨j, h3, h4, h5⟩
          refine ia ⟨j, ?_, h4, h5⟩
          by_cases hj : j = i
          · exact absurd (hj ▸ h5) hp
          · omega
        · intro hx
          exact ib (fun ⟨j, h3, h4, h5⟩ => hx ⟨j, by omega, h4, h5⟩)
    · rw [h2 n i hi (by omega)]
      exact ⟨fun ⟨j, h3, h4, h5⟩ => by omega, fun _ => rfl⟩
def sumI (g : Int → Int) : Nat → Int → Int
  | 0, _ => 0
  | n + 1, i => g i + sumI g n (i + 1)
theorem sumI_cong {g h : Int → Int} : ∀ {n : Nat} {i : Int}, (∀ j, i ≤ j → j < i + n → g j = h j) → sumI g n i = sumI h n i
  | 0, _, _ => rfl
  | n + 1, i, H => by
    unfold sumI
    rw [H i (by omega) (by omega), sumI_cong (n := n) (fun j h1 h2 => H j (by omega) (by omega))]
theorem sumI_rng {g : Int → Int} (hg : ∀ j, 0 ≤ g j ∧ g j ≤ 1) : ∀ (n : Nat) (i : Int), 0 ≤ sumI g n i ∧ sumI g n i ≤ n
  | 0, _ => by unfold sumI; omega
  | n + 1, i => by
    have := sumI_rng hg n (i + 1); have := hg i
    unfold sumI; omega
theorem bi_rng {p : Prop} : 0 ≤ bi p ∧ bi p ≤ 1 := by rcases bi_or (p := p) with h | h <;> omega

theorem cnt {L : Nat → Int → Int → Option Int} {m : Int} {g : Int → Int} (hg : ∀ j, 0 ≤ g j ∧ g j ≤ 1)
    (h1 : ∀ n a i, 0 ≤ i → i < m → 0 ≤ a → a ≤ i → L (n + 1) a i = L n (a + g i) (i + 1))
    (h2 : ∀ n a i, m ≤ i → L (n + 1) a i = some a) :
    ∀ (n : Nat) (a i : Int), 0 ≤ i → 0 ≤ a → a ≤ i → m - i < (n : Int) → 0 < n → L n a i = some (a + sumI g (m - i).toNat i) := by
  intro n
  induction n with
  | zero => intro a i _ _ _ _ h; omega
  | succ n ih =>
    intro a i hi ha hai hn _
    by_cases hm : i < m
    · have := hg i
      rw [h1 n a i hi hm ha hai, ih (a + g i) (i + 1) (by omega) (by omega) (by omega) (by omega) (by omega)]
      rw [show (m - i).toNat = (m - (i + 1)).toNat + 1 by omega, sumI]
      congr 1; omega
    · rw [h2 n a i (by omega), show (m - i).toNat = 0 by omega, sumI]; congr 1; omega
theorem fu_pos : 0 < fu := by unfold fu; omega
theorem fu_e : fu = 1999999 + 1 := rfl
theorem fu_i : ((fu : Nat) : Int) = 2000000 := by unfold fu; rfl

def holdsV (V : Vw) (s k : Int) : Prop := ¬ ∃ x y, (0 ≤ x ∧ x < 32) ∧ (0 ≤ y ∧ y < 32) ∧ V.1.1 (32 * y + x) = 2 ∧ abI (200 * x + 100 - V.2.1.2.2.1 s) ≤ 5 * V.1.2.2.1 k ∧ abI (200 * y + 100 - V.2.1.2.2.2.1 s) ≤ 5 * V.1.2.2.1 k
theorem cc_ground {x y : Int} (R : RelN σ V) (hx : 0 ≤ x ∧ x < 32) (hy : 0 ≤ y ∧ y < 32) : fX8_groundOf x y σ = some (V.1.1 (32 * y + x)) := by
  unfold fX8_groundOf; (try simp (disch := omega) only [↓ck_e, ↓rd_e, ↓wr_e, ↓wrB_e, ↓wrZ_e, ↓dv_e, ↓md_e, ↓fdv_e, ↓cpy_e, ↓filB_e, ↓filI_e, ↓filL_e, ↓st1_e, ↓bnd_e, ↓iT, ↓iF, ↓reduceIte, put_ne, put_T, put_F, isIn_T, isIn_F])
  rw [(R.g _ (by omega) (by omega)).1]
theorem cc_holds {s k : Int} (R : RelN σ V) (hs : isB V s) (hk : told V k) : fX8_holds s k σ = some (bi (holdsV V s k)) := by
  have hB := R.b s hs.1.1 hs.1.2; have hK := R.k k hk.1.1 hk.1.2; have hs1 := hs.1; have hk2 := hk.2; have hs2 := hs.2
  unfold fX8_holds
  rw [cc_isBarge R, bi_T hs, cc_toldT R hk]; (try simp (disch := omega) only [↓ck_e, ↓rd_e, ↓wr_e, ↓wrB_e, ↓wrZ_e, ↓dv_e, ↓md_e, ↓fdv_e, ↓cpy_e, ↓filB_e, ↓filI_e, ↓filL_e, ↓st1_e, ↓bnd_e, ↓iT, ↓iF, ↓reduceIte, put_ne, put_T, put_F, isIn_T, isIn_F])
  rw [cc_height R hk]; (try simp (disch := omega) only [↓ck_e, ↓rd_e, ↓wr_e, ↓wrB_e, ↓wrZ_e, ↓dv_e, ↓md_e, ↓fdv_e, ↓cpy_e, ↓filB_e, ↓filI_e, ↓filL_e, ↓st1_e, ↓bnd_e, ↓iT, ↓iF, ↓reduceIte, put_ne, put_T, put_F, isIn_T, isIn_F])
  obtain ⟨r, hr⟩ : ∃ r, r = 5 * V.1.2.2.1 k / 200 := ⟨_, rfl⟩
  obtain ⟨lx, hlx⟩ : ∃ r, r = mnI 31 (σ 3 s + 5 * V.1.2.2.1 k / 200) := ⟨_, rfl⟩
  obtain ⟨ly, hly⟩ : ∃ r, r = mnI 31 (σ 4 s + 5 * V.1.2.2.1 k / 200) := ⟨_, rfl⟩
  obtain ⟨fy, hfy⟩ : ∃ r, r = mxI 0 (σ 4 s - 5 * V.1.2.2.1 k / 200) := ⟨_, rfl⟩
  have hlx' : lx ≤ 31 ∧ (lx ≤ σ 3 s + r) ∧ (lx = 31 ∨ lx = σ 3 s + r) := by rw [hlx, hr]; unfold mnI; split <;> omega
  have hly' : ly ≤ 31 ∧ (ly ≤ σ 4 s + r) ∧ (ly = 31 ∨ ly = σ 4 s + r) := by rw [hly, hr]; unfold mnI; split <;> omega
  have hfy' : 0 ≤ fy ∧ (σ 4 s - r ≤ fy) ∧ (fy = 0 ∨ fy = σ 4 s - r) := by rw [hfy, hr]; unfold mxI; split <;> omega
  rw [← hlx, ← hly, ← hfy, ← hr]
  obtain ⟨fx, hfx⟩ : ∃ q, q = mxI 0 (σ 3 s - r) := ⟨_, rfl⟩
  have hfx' : 0 ≤ fx ∧ (σ 3 s - r ≤ fx) ∧ (fx = 0 ∨ fx = σ 3 s - r) := by rw [hfx]; unfold mxI; split <;> omega
  have inner : ∀ y, 0 ≤ y → y < 32 → ((∃ x, fx ≤ x ∧ x < lx + 1 ∧ V.1.1 (32 * y + x) = 2) → fX8_holds_L101 fu s r lx ly y fx σ = some (.inl ())) ∧ ((¬ ∃ x, fx ≤ x ∧ x < lx + 1 ∧ V.1.1 (32 * y + x) = 2) → fX8_holds_L101 fu s r lx ly y fx σ = some (.inr ())) := by
    intro y h0 h1
    refine srch (L := fun n x => fX8_holds_L101 n s r lx ly y x σ) (lo := 0) (m := lx + 1) (P := fun x => V.1.1 (32 * y + x) = 2) ?_ ?_ ?_ fu fx (by omega) (by rw [fu_i]; omega) fu_pos
    · intro n i a1 a2 a3
      unfold fX8_holds_L101; (try simp (disch := omega) only [↓ck_e, ↓rd_e, ↓wr_e, ↓wrB_e, ↓wrZ_e, ↓dv_e, ↓md_e, ↓fdv_e, ↓cpy_e, ↓filB_e, ↓filI_e, ↓filL_e, ↓st1_e, ↓bnd_e, ↓iT, ↓iF, ↓reduceIte, put_ne, put_T, put_F, isIn_T, isIn_F]); rw [cc_ground R (by omega) (by omega)]; (try simp (disch := omega) only [↓ck_e, ↓rd_e, ↓wr_e, ↓wrB_e, ↓wrZ_e, ↓dv_e, ↓md_e, ↓fdv_e, ↓cpy_e, ↓filB_e, ↓filI_e, ↓filL_e, ↓st1_e, ↓bnd_e, ↓iT, ↓iF, ↓reduceIte, put_ne, put_T, put_F, isIn_T, isIn_F])
    · intro n i a1 a2 a3
      conv => lhs; unfold fX8_holds_L101
      (try simp (disch := omega) only [↓ck_e, ↓rd_e, ↓wr_e, ↓wrB_e, ↓wrZ_e, ↓dv_e, ↓md_e, ↓fdv_e, ↓cpy_e, ↓filB_e, ↓filI_e, ↓filL_e, ↓st1_e, ↓bnd_e, ↓iT, ↓iF, ↓reduceIte, put_ne, put_T, put_F, isIn_T, isIn_F]); rw [cc_ground R (by omega) (by omega)]; (try simp (disch := omega) only [↓ck_e, ↓rd_e, ↓wr_e, ↓wrB_e, ↓wrZ_e, ↓dv_e, ↓md_e, ↓fdv_e, ↓cpy_e, ↓filB_e, ↓filI_e, ↓filL_e, ↓st1_e, ↓bnd_e, ↓iT, ↓iF, ↓reduceIte, put_ne, put_T, put_F, isIn_T, isIn_F])
    · intro n i a1 a2
      unfold fX8_holds_L101; (try simp (disch := omega) only [↓ck_e, ↓rd_e, ↓wr_e, ↓wrB_e, ↓wrZ_e, ↓dv_e, ↓md_e, ↓fdv_e, ↓cpy_e, ↓filB_e, ↓filI_e, ↓filL_e, ↓st1_e, ↓bnd_e, ↓iT, ↓iF, ↓reduceIte, put_ne, put_T, put_F, isIn_T, isIn_F])
  have outer := srch (L := fun n y => fX8_holds_L80 n s r lx ly y σ) (lo := 0) (m := ly + 1) (P := fun y => ∃ x, fx ≤ x ∧ x < lx + 1 ∧ V.1.1 (32 * y + x) = 2) (a := some (.inl ())) (b := some (.inr ()))
    (by
      intro n i a1 a2 a3
      unfold fX8_holds_L80; (try simp (disch := omega) only [↓ck_e, ↓rd_e, ↓wr_e, ↓wrB_e, ↓wrZ_e, ↓dv_e, ↓md_e, ↓fdv_e, ↓cpy_e, ↓filB_e, ↓filI_e, ↓filL_e, ↓st1_e, ↓bnd_e, ↓iT, ↓iF, ↓reduceIte, put_ne, put_T, put_F, isIn_T, isIn_F]); rw [← hfx, (inner i a1 (by omega)).1 a3]; rfl)
    (by
      intro n i a1 a2 a3
      conv => lhs; unfold fX8_holds_L80
      (try simp (disch := omega) only [↓ck_e, ↓rd_e, ↓wr_e, ↓wrB_e, ↓wrZ_e, ↓dv_e, ↓md_e, ↓fdv_e, ↓cpy_e, ↓filB_e, ↓filI_e, ↓filL_e, ↓st1_e, ↓bnd_e, ↓iT, ↓iF, ↓reduceIte, put_ne, put_T, put_F, isIn_T, isIn_F]); rw [← hfx, (inner i a1 (by omega)).2 a3]; (try simp (disch := omega) only [↓ck_e, ↓rd_e, ↓wr_e, ↓wrB_e, ↓wrZ_e, ↓dv_e, ↓md_e, ↓fdv_e, ↓cpy_e, ↓filB_e, ↓filI_e, ↓filL_e, ↓st1_e, ↓bnd_e, ↓iT, ↓iF, ↓reduceIte, put_ne, put_T, put_F, isIn_T, isIn_F]); simp only [Sum.elim_inr])
    (by
      intro n i a1 a2
      unfold fX8_holds_L80; (try simp (disch := omega) only [↓ck_e, ↓rd_e, ↓wr_e, ↓wrB_e, ↓wrZ_e, ↓dv_e, ↓md_e, ↓fdv_e, ↓cpy_e, ↓filB_e, ↓filI_e, ↓filL_e, ↓st1_e, ↓bnd_e, ↓iT, ↓iF, ↓reduceIte, put_ne, put_T, put_F, isIn_T, isIn_F])) fu fy (by omega) (by rw [fu_i]; omega) fu_pos
  have key : (∃ y, fy ≤ y ∧ y < ly + 1 ∧ ∃ x, fx ≤ x ∧ x < lx + 1 ∧ V.1.1 (32 * y + x) = 2) ↔ ¬ holdsV V s k := by
    unfold holdsV; rw [Classical.not_not]
    have hb1 := hB.2.2 hs2
    constructor
    · rintro ⟨y, y1, y2, x, x1, x2, h⟩
      refine ⟨x, y, by omega, by omega, h, ?_, ?_⟩ <;> (unfold abI; split <;> omega)
    · rintro ⟨x, y, hx, hy, h, h1, h2⟩
      unfold abI at h1 h2
      refine ⟨y, ?_, ?_, x, ?_, ?_, h⟩ <;> (split at h1 <;> split at h2 <;> omega)
  by_cases hh : holdsV V s k
  · rw [bi_T hh, outer.2 (fun x => key.1 x hh)]; rfl
  · rw [bi_F hh, outer.1 (key.2 hh)]; rfl
theorem rr_holds {s k : Int} (R : RelN σ (vw τ)) (hs : isB (vw τ) s) (hk : told (vw τ) k) : fX12_mayHold s k τ = some (bi (holdsV (vw τ) s k)) := by
  have hB := R.b s hs.1.1 hs.1.2; have hK := R.k k hk.1.1 hk.1.2; have hs1 := hs.1; have hk1 := hk.1; have hk2 := hk.2; have hs2 := hs.2
  dsimp only [vw] at hB hK hk2 hs2
  have hb1 := hB.2.2 hs2
  have hk3 := (hK.2.2 hk2).1
  have stp : ∀ n i, 0 ≤ i → i < 1024 → fX12_mayHold_L2 (n + 1) s k i τ = if τ 1 i = 2 ∧ abI (200 * (i % 32) + 100 - τ 8 s) ≤ 5 * τ 3 k ∧ abI (200 * (i / 32) + 100 - τ 9 s) ≤ 5 * τ 3 k then some (.inl ()) else fX12_mayHold_L2 n s k (i + 1) τ := by
    intro n i h0 h1
    conv => lhs; unfold fX12_mayHold_L2
    (try simp (disch := omega) only [↓ck_e, ↓rd_e, ↓wr_e, ↓wrB_e, ↓wrZ_e, ↓dv_e, ↓md_e, ↓fdv_e, ↓cpy_e, ↓filB_e, ↓filI_e, ↓filL_e, ↓st1_e, ↓bnd_e, ↓iT, ↓iF, ↓reduceIte, put_ne, put_T, put_F, isIn_T, isIn_F])
    rw [rr_amount (by omega) (by omega)]; (try simp (disch := omega) only [↓ck_e, ↓rd_e, ↓wr_e, ↓wrB_e, ↓wrZ_e, ↓dv_e, ↓md_e, ↓fdv_e, ↓cpy_e, ↓filB_e, ↓filI_e, ↓filL_e, ↓st1_e, ↓bnd_e, ↓iT, ↓iF, ↓reduceIte, put_ne, put_T, put_F, isIn_T, isIn_F])
    by_cases c1 : abI (200 * (i % 32) + 100 - τ 8 s) ≤ 5 * τ 3 k
    · rw [iT c1]; (try simp (disch := omega) only [↓ck_e, ↓rd_e, ↓wr_e, ↓wrB_e, ↓wrZ_e, ↓dv_e, ↓md_e, ↓fdv_e, ↓cpy_e, ↓filB_e, ↓filI_e, ↓filL_e, ↓st1_e, ↓bnd_e, ↓iT, ↓iF, ↓reduceIte, put_ne, put_T, put_F, isIn_T, isIn_F])
      rw [rr_amount (by omega) (by omega)]; (try simp (disch := omega) only [↓ck_e, ↓rd_e, ↓wr_e, ↓wrB_e, ↓wrZ_e, ↓dv_e, ↓md_e, ↓fdv_e, ↓cpy_e, ↓filB_e, ↓filI_e, ↓filL_e, ↓st1_e, ↓bnd_e, ↓iT, ↓iF, ↓reduceIte, put_ne, put_T, put_F, isIn_T, isIn_F])
      by_cases c2 : abI (200 * (i / 32) + 100 - τ 9 s) ≤ 5 * τ 3 k
      · rw [iT c2]; unfold fX12_mayHold_L2P78 fX12_mayHold_L2P97; (try simp (disch := omega) only [↓ck_e, ↓rd_e, ↓wr_e, ↓wrB_e, ↓wrZ_e, ↓dv_e, ↓md_e, ↓fdv_e, ↓cpy_e, ↓filB_e, ↓filI_e, ↓filL_e, ↓st1_e, ↓bnd_e, ↓iT, ↓iF, ↓reduceIte, put_ne, put_T, put_F, isIn_T, isIn_F])
        by_cases c3 : τ 1 i = 2
        · rw [iT c3, iT ⟨c3, c1, c2⟩]; (try simp (disch := omega) only [↓ck_e, ↓rd_e, ↓wr_e, ↓wrB_e, ↓wrZ_e, ↓dv_e, ↓md_e, ↓fdv_e, ↓cpy_e, ↓filB_e, ↓filI_e, ↓filL_e, ↓st1_e, ↓bnd_e, ↓iT, ↓iF, ↓reduceIte, put_ne, put_T, put_F, isIn_T, isIn_F])
        · rw [iF c3, iF (fun x => c3 x.1)]
      · rw [iF c2, iF (fun x => c2 x.2.2)]; unfold fX12_mayHold_L2P77 fX12_mayHold_L2P78 fX12_mayHold_L2P97; (try simp (disch := omega) only [↓ck_e, ↓rd_e, ↓wr_e, ↓wrB_e, ↓wrZ_e, ↓dv_e, ↓md_e, ↓fdv_e, ↓cpy_e, ↓filB_e, ↓filI_e, ↓filL_e, ↓st1_e, ↓bnd_e, ↓iT, ↓iF, ↓reduceIte, put_ne, put_T, put_F, isIn_T, isIn_F])
        simp
    · rw [iF c1, iF (fun x => c1 x.2.1)]; unfold fX12_mayHold_L2P77 fX12_mayHold_L2P78 fX12_mayHold_L2P97; (try simp (disch := omega) only [↓ck_e, ↓rd_e, ↓wr_e, ↓wrB_e, ↓wrZ_e, ↓dv_e, ↓md_e, ↓fdv_e, ↓cpy_e, ↓filB_e, ↓filI_e, ↓filL_e, ↓st1_e, ↓bnd_e, ↓iT, ↓iF, ↓reduceIte, put_ne, put_T, put_F, isIn_T, isIn_F])
      simp
  have loop := srch (L := fun n y => fX12_mayHold_L2 n s k y τ) (lo := 0) (m := 1024) (P := fun i => τ 1 i = 2 ∧ abI (200 * (i % 32) + 100 - τ 8 s) ≤ 5 * τ 3 k ∧ abI (200 * (i / 32) + 100 - τ 9 s) ≤ 5 * τ 3 k) (a := some (.inl ())) (b := some (.inr ()))
    (fun n i a1 a2 a3 => by rw [stp n i a1 a2, iT a3])
    (fun n i a1 a2 a3 => by rw [stp n i a1 a2, iF a3])
    (fun n i a1 a2 => by unfold fX12_mayHold_L2; (try simp (disch := omega) only [↓ck_e, ↓rd_e, ↓wr_e, ↓wrB_e, ↓wrZ_e, ↓dv_e, ↓md_e, ↓fdv_e, ↓cpy_e, ↓filB_e, ↓filI_e, ↓filL_e, ↓st1_e, ↓bnd_e, ↓iT, ↓iF, ↓reduceIte, put_ne, put_T, put_F, isIn_T, isIn_F])) fu 0 (by omega) (by rw [fu_i]; omega) fu_pos
  have key : (∃ j, 0 ≤ j ∧ j < 1024 ∧ τ 1 j = 2 ∧ abI (200 * (j % 32) + 100 - τ 8 s) ≤ 5 * τ 3 k ∧ abI (200 * (j / 32) + 100 - τ 9 s) ≤ 5 * τ 3 k) ↔ ¬ holdsV (vw τ) s k := by
    unfold holdsV; rw [Classical.not_not]
    constructor
    · rintro ⟨j, j1, j2, h, h1, h2⟩
      refine ⟨j % 32, j / 32, by omega, by omega, ?_, h1, h2⟩
      simp only; rw [show 32 * (j / 32) + j % 32 = j by omega]; exact h
    · rintro ⟨x, y, hx, hy, h, h1, h2⟩
      refine ⟨32 * y + x, by omega, by omega, h, ?_, ?_⟩
      · rw [show (32 * y + x) % 32 = x by omega]; exact h1
      · rw [show (32 * y + x) / 32 = y by omega]; exact h2
  unfold fX12_mayHold
  by_cases hh : holdsV (vw τ) s k
  · rw [bi_T hh, loop.2 (fun x => key.1 x hh)]; rfl
  · rw [bi_F hh, loop.1 (key.2 hh)]; rfl
end

section
set_option linter.unusedVariables false
variable {σ τ : Sg} {V : Vw}
def DF (σ : Sg) (dx dy : Int → Int) : Prop := ∀ j, 0 ≤ j → j < 20 → σ 14 j = dx j ∧ σ 15 j = dy j ∧ (-50 ≤ dx j ∧ dx j ≤ 50) ∧ (-50 ≤ dy j ∧ dy j ≤ 50)
theorem cc_fallL {dx dy : Int → Int} (D : DF σ dx dy) {q w burn : Int} (hw : 0 ≤ w ∧ w < 4) (hb : burn ≤ 99) :
    ∀ (t n : Nat) (x y z k : Int), burn - k = t → 0 ≤ k → (-(50 * k) ≤ x ∧ x ≤ 50 * k) → (-(50 * k) ≤ y ∧ y ≤ 50 * k) → 0 < z → z ≤ 3000 → t + 2 ≤ n →
    match fallV dx dy (5 * w) t x y z with
    | none => ∃ a b, fX0_reckonFall_L38 n q w burn x y z 0 k σ = some (a, b, 0) ∧ (-5000 ≤ a ∧ a ≤ 5000) ∧ (-5000 ≤ b ∧ b ≤ 5000)
    | some (a, b) => fX0_reckonFall_L38 n q w burn x y z 0 k σ = some (a, b, 1) ∧ (-5000 ≤ a ∧ a ≤ 5000) ∧ (-5000 ≤ b ∧ b ≤ 5000) := by
  intro t
  induction t with
  | zero =>
    intro n x y z k h1 h2 h3 h4 h5 h6 h7
    obtain ⟨m, rfl⟩ : ∃ m, n = m + 1 := ⟨n - 1, by omega⟩
    unfold fallV fX0_reckonFall_L38
    exact ⟨x, y, by (try simp (disch := omega) only [↓ck_e, ↓rd_e, ↓wr_e, ↓wrB_e, ↓wrZ_e, ↓dv_e, ↓md_e, ↓fdv_e, ↓cpy_e, ↓filB_e, ↓filI_e, ↓filL_e, ↓st1_e, ↓bnd_e, ↓iT, ↓iF, ↓reduceIte, put_ne, put_T, put_F, isIn_T, isIn_F]), by omega, by omega⟩
  | succ t ih =>
    intro n x y z k h1 h2 h3 h4 h5 h6 h7
    obtain ⟨m, rfl⟩ : ∃ m, n = m + 1 := ⟨n - 1, by omega⟩
    obtain ⟨l, hl⟩ : ∃ l, l = if z / 500 < 4 then z / 500 else 4 := ⟨_, rfl⟩
    have hl2 : mxI 0 (mnI 4 (z / 500)) = l := by rw [hl]; unfold mxI mnI; (repeat' split) <;> omega
    have hl3 : 0 ≤ l ∧ l < 5 := by rw [hl]; split <;> omega
    have hd := D (5 * w + l) (by omega) (by omega)
    have step : fX0_reckonFall_L38 (m + 1) q w burn x y z 0 k σ = fX0_reckonFall_L38 m q w burn (x + dx (5 * w + l)) (y + dy (5 * w + l)) (z - 25) (if z - 25 ≤ 0 then 1 else 0) (k + 1) σ := by
      conv => lhs; unfold fX0_reckonFall_L38
      rw [iT (by omega : k < burn), iT rfl]
      (try simp (disch := omega) only [↓ck_e, ↓rd_e, ↓wr_e, ↓wrB_e, ↓wrZ_e, ↓dv_e, ↓md_e, ↓fdv_e, ↓cpy_e, ↓filB_e, ↓filI_e, ↓filL_e, ↓st1_e, ↓bnd_e, ↓iT, ↓iF, ↓reduceIte, put_ne, put_T, put_F, isIn_T, isIn_F])
      rw [hl2]
      (try simp (disch := omega) only [↓ck_e, ↓rd_e, ↓wr_e, ↓wrB_e, ↓wrZ_e, ↓dv_e, ↓md_e, ↓fdv_e, ↓cpy_e, ↓filB_e, ↓filI_e, ↓filL_e, ↓st1_e, ↓bnd_e, ↓iT, ↓iF, ↓reduceIte, put_ne, put_T, put_F, isIn_T, isIn_F])
      rw [show w * 5 + l = 5 * w + l by omega, hd.1, hd.2.1]
      (try simp (disch := omega) only [↓ck_e, ↓rd_e, ↓wr_e, ↓wrB_e, ↓wrZ_e, ↓dv_e, ↓md_e, ↓fdv_e, ↓cpy_e, ↓filB_e, ↓filI_e, ↓filL_e, ↓st1_e, ↓bnd_e, ↓iT, ↓iF, ↓reduceIte, put_ne, put_T, put_F, isIn_T, isIn_F])
      rw [show z + -25 = z - 25 by omega]
      by_cases hz : z - 25 ≤ 0
      · rw [iT hz, iT hz]; unfold fX0_reckonFall_L38P111; (try simp (disch := omega) only [↓ck_e, ↓rd_e, ↓wr_e, ↓wrB_e, ↓wrZ_e, ↓dv_e, ↓md_e, ↓fdv_e, ↓cpy_e, ↓filB_e, ↓filI_e, ↓filL_e, ↓st1_e, ↓bnd_e, ↓iT, ↓iF, ↓reduceIte, put_ne, put_T, put_F, isIn_T, isIn_F])
      · rw [iF hz, iF hz]; unfold fX0_reckonFall_L38P111; (try simp (disch := omega) only [↓ck_e, ↓rd_e, ↓wr_e, ↓wrB_e, ↓wrZ_e, ↓dv_e, ↓md_e, ↓fdv_e, ↓cpy_e, ↓filB_e, ↓filI_e, ↓filL_e, ↓st1_e, ↓bnd_e, ↓iT, ↓iF, ↓reduceIte, put_ne, put_T, put_F, isIn_T, isIn_F])
    rw [step]
    unfold fallV
    rw [← hl]
    simp only
    by_cases hz : z - 25 ≤ 0
    · rw [iT hz, iT hz]
      obtain ⟨m', rfl⟩ : ∃ m', m = m' + 1 := ⟨m - 1, by omega⟩
      refine ⟨?_, by omega, by omega⟩
      unfold fX0_reckonFall_L38
      by_cases hk : k + 1 < burn
      · rw [iT hk, iF (by omega)]
      · rw [iF hk]
    · rw [iF hz, iF hz]
      exact ih m _ _ _ (k + 1) (by omega) (by omega) (by omega) (by omega) (by omega) (by omega) (by omega)

theorem cc_fall {dx dy : Int → Int} (D : DF σ dx dy) {q w h burn : Int} (hq : 0 ≤ q ∧ q < 96) (hw : 0 ≤ w ∧ w < 4) (hb : 0 ≤ burn ∧ burn ≤ 99) (hh : 0 ≤ h ∧ h ≤ 3000) (h0 : burn = 0 ∨ 0 < h) :
    ∃ σ', fX0_reckonFall q w h burn σ = some σ' ∧ (∀ j, j ≠ 16 → j ≠ 17 → j ≠ 18 → σ' j = σ j) ∧ (∀ p, p ≠ q → σ' 16 p = σ 16 p ∧ σ' 17 p = σ 17 p ∧ σ' 18 p = σ 18 p) ∧ fallAt σ' q (fallV dx dy (5 * w) burn.toNat 0 0 h) := by
  have main : ∃ a b v, fX0_reckonFall_L38 fu q w burn 0 0 h 0 0 σ = some (a, b, v) ∧ (v = 0 ∨ v = 1) ∧ (match fallV dx dy (5 * w) burn.toNat 0 0 h with | none => v = 0 | some (x, y) => v = 1 ∧ a = x ∧ b = y) := by
    rcases h0 with h0 | h0
    · subst h0
      refine ⟨0, 0, 0, ?_, by omega, ?_⟩
      · rw [fu_e]; unfold fX0_reckonFall_L38; (try simp (disch := omega) only [↓ck_e, ↓rd_e, ↓wr_e, ↓wrB_e, ↓wrZ_e, ↓dv_e, ↓md_e, ↓fdv_e, ↓cpy_e, ↓filB_e, ↓filI_e, ↓filL_e, ↓st1_e, ↓bnd_e, ↓iT, ↓iF, ↓reduceIte, put_ne, put_T, put_F, isIn_T, isIn_F])
      · show match fallV dx dy (5 * w) 0 0 0 h with | none => (0 : Int) = 0 | some (x, y) => (0 : Int) = 1 ∧ 0 = x ∧ 0 = y
        unfold fallV; rfl
    · have L := cc_fallL D (q := q) hw hb.2 burn.toNat fu 0 0 h 0 (by omega) (by omega) (by omega) (by omega) h0 (by omega) (by unfold fu; omega)
      cases hf : fallV dx dy (5 * w) burn.toNat 0 0 h with
      | none =>
        rw [hf] at L
        obtain ⟨a, b, e, -, -⟩ := L
        exact ⟨a, b, 0, e, by omega, rfl⟩
      | some p =>
        obtain ⟨a, b⟩ := p
        rw [hf] at L
        exact ⟨a, b, 1, L.1, by omega, rfl, rfl, rfl⟩
  obtain ⟨a, b, v, e, hv, hm⟩ := main
  refine ⟨put (put (put σ 16 q v) 17 q a) 18 q b, ?_, ?_, ?_, ?_⟩
  · unfold fX0_reckonFall; (try simp (disch := omega) only [↓ck_e, ↓rd_e, ↓wr_e, ↓wrB_e, ↓wrZ_e, ↓dv_e, ↓md_e, ↓fdv_e, ↓cpy_e, ↓filB_e, ↓filI_e, ↓filL_e, ↓st1_e, ↓bnd_e, ↓iT, ↓iF, ↓reduceIte, put_ne, put_T, put_F, isIn_T, isIn_F]); rw [e]; (try simp (disch := omega) only [↓ck_e, ↓rd_e, ↓wr_e, ↓wrB_e, ↓wrZ_e, ↓dv_e, ↓md_e, ↓fdv_e, ↓cpy_e, ↓filB_e, ↓filI_e, ↓filL_e, ↓st1_e, ↓bnd_e, ↓iT, ↓iF, ↓reduceIte, put_ne, put_T, put_F, isIn_T, isIn_F])
  · intro j h1 h2 h3; (try simp (disch := omega) only [↓ck_e, ↓rd_e, ↓wr_e, ↓wrB_e, ↓wrZ_e, ↓dv_e, ↓md_e, ↓fdv_e, ↓cpy_e, ↓filB_e, ↓filI_e, ↓filL_e, ↓st1_e, ↓bnd_e, ↓iT, ↓iF, ↓reduceIte, put_ne, put_T, put_F, isIn_T, isIn_F])
  · intro p hp; refine ⟨?_, ?_, ?_⟩ <;> (try simp (disch := omega) only [↓ck_e, ↓rd_e, ↓wr_e, ↓wrB_e, ↓wrZ_e, ↓dv_e, ↓md_e, ↓fdv_e, ↓cpy_e, ↓filB_e, ↓filI_e, ↓filL_e, ↓st1_e, ↓bnd_e, ↓iT, ↓iF, ↓reduceIte, put_ne, put_T, put_F, isIn_T, isIn_F])
  · unfold fallAt
    cases hf : fallV dx dy (5 * w) burn.toNat 0 0 h with
    | none => rw [hf] at hm; simp only at hm ⊢; (try simp (disch := omega) only [↓ck_e, ↓rd_e, ↓wr_e, ↓wrB_e, ↓wrZ_e, ↓dv_e, ↓md_e, ↓fdv_e, ↓cpy_e, ↓filB_e, ↓filI_e, ↓filL_e, ↓st1_e, ↓bnd_e, ↓iT, ↓iF, ↓reduceIte, put_ne, put_T, put_F, isIn_T, isIn_F]); exact hm
    | some p =>
      obtain ⟨x, y⟩ := p
      rw [hf] at hm; simp only at hm ⊢; (try simp (disch := omega) only [↓ck_e, ↓rd_e, ↓wr_e, ↓wrB_e, ↓wrZ_e, ↓dv_e, ↓md_e, ↓fdv_e, ↓cpy_e, ↓filB_e, ↓filI_e, ↓filL_e, ↓st1_e, ↓bnd_e, ↓iT, ↓iF, ↓reduceIte, put_ne, put_T, put_F, isIn_T, isIn_F])
      exact hm
theorem slot_e {k w p : Int} (hk : 0 ≤ k ∧ k < 12) (hw : 0 ≤ w ∧ w < 4) (hp : 0 ≤ p ∧ p ≤ 1) : fX0_slot k w p σ = some ((k * 4 + w) * 2 + p) := by
  unfold fX0_slot; (try simp (disch := omega) only [↓ck_e, ↓rd_e, ↓wr_e, ↓wrB_e, ↓wrZ_e, ↓dv_e, ↓md_e, ↓fdv_e, ↓cpy_e, ↓filB_e, ↓filI_e, ↓filL_e, ↓st1_e, ↓bnd_e, ↓iT, ↓iF, ↓reduceIte, put_ne, put_T, put_F, isIn_T, isIn_F])

theorem cc_falls (R : RelN σ V) {k w : Int} (hk : 0 ≤ k ∧ k < 12) (hw : 0 ≤ w ∧ w < 4) :
    ∃ σ', fX0_reckonFalls k w σ = some σ' ∧ (∀ j, j ≠ 16 → j ≠ 17 → j ≠ 18 → σ' j = σ j) ∧ (∀ k' w' p, 0 ≤ p ∧ p ≤ 1 → 0 ≤ w' ∧ w' < 4 → (k', w') ≠ (k, w) → ∀ o, fallAt σ ((k' * 4 + w') * 2 + p) o → fallAt σ' ((k' * 4 + w') * 2 + p) o) ∧ (told V k → fallOk σ' V k w 0 10 ∧ fallOk σ' V k w 1 5) := by
  have hK := R.k k hk.1 hk.2
  obtain ⟨h, burn, e1, e2, hh, hbu, h0, ht⟩ : ∃ h burn, fX2_heightOf k σ = some h ∧ fX2_burnOf k σ = some burn ∧ (0 ≤ h ∧ h ≤ 300) ∧ (0 ≤ burn ∧ burn ≤ 99) ∧ (burn = 0 ∨ 0 < h) ∧ (told V k → h = V.1.2.2.1 k ∧ burn = V.1.2.2.2.2 k) := by
    by_cases t : told V k
    · have := t.2
      exact ⟨_, _, cc_height R t, cc_burn R t, by omega, by omega, by omega, fun _ => ⟨rfl, rfl⟩⟩
    · refine ⟨0, 0, ?_, ?_, by omega, by omega, by omega, fun x => absurd x t⟩
      · unfold fX2_heightOf; rw [cc_told R, bi_F t]; (try simp (disch := omega) only [↓ck_e, ↓rd_e, ↓wr_e, ↓wrB_e, ↓wrZ_e, ↓dv_e, ↓md_e, ↓fdv_e, ↓cpy_e, ↓filB_e, ↓filI_e, ↓filL_e, ↓st1_e, ↓bnd_e, ↓iT, ↓iF, ↓reduceIte, put_ne, put_T, put_F, isIn_T, isIn_F])
      · unfold fX2_burnOf; rw [cc_told R, bi_F t]; (try simp (disch := omega) only [↓ck_e, ↓rd_e, ↓wr_e, ↓wrB_e, ↓wrZ_e, ↓dv_e, ↓md_e, ↓fdv_e, ↓cpy_e, ↓filB_e, ↓filI_e, ↓filL_e, ↓st1_e, ↓bnd_e, ↓iT, ↓iF, ↓reduceIte, put_ne, put_T, put_F, isIn_T, isIn_F])
  obtain ⟨σ1, a1, a2, a3, a4⟩ := cc_fall (dx := V.2.2.1.1) (dy := V.2.2.1.2.1) R.d (q := (k * 4 + w) * 2 + 0) (w := w) (h := 10 * h) (burn := burn) (by omega) hw (by omega) (by omega) (by omega)
  have D1 : DF σ1 V.2.2.1.1 V.2.2.1.2.1 := by unfold DF; rw [a2 14 (by decide) (by decide) (by decide), a2 15 (by decide) (by decide) (by decide)]; exact R.d
  obtain ⟨σ2, b1, b2, b3, b4⟩ := cc_fall D1 (q := (k * 4 + w) * 2 + 1) (w := w) (h := 5 * h) (burn := burn) (by omega) hw (by omega) (by omega) (by omega)
  have mv : ∀ p o, p ≠ (k * 4 + w) * 2 + 1 → fallAt σ1 p o → fallAt σ2 p o := by
    intro p o hp ho
    obtain ⟨c1, c2, c3⟩ := b3 p hp
    unfold fallAt at ho ⊢; rw [c1, c2, c3]; exact ho
  refine ⟨σ2, ?_, ?_, ?_, ?_⟩
  · unfold fX0_reckonFalls
    rw [e1, e2]; (try simp (disch := omega) only [↓ck_e, ↓rd_e, ↓wr_e, ↓wrB_e, ↓wrZ_e, ↓dv_e, ↓md_e, ↓fdv_e, ↓cpy_e, ↓filB_e, ↓filI_e, ↓filL_e, ↓st1_e, ↓bnd_e, ↓iT, ↓iF, ↓reduceIte, put_ne, put_T, put_F, isIn_T, isIn_F])
    rw [slot_e hk hw (by omega)]; (try simp (disch := omega) only [↓ck_e, ↓rd_e, ↓wr_e, ↓wrB_e, ↓wrZ_e, ↓dv_e, ↓md_e, ↓fdv_e, ↓cpy_e, ↓filB_e, ↓filI_e, ↓filL_e, ↓st1_e, ↓bnd_e, ↓iT, ↓iF, ↓reduceIte, put_ne, put_T, put_F, isIn_T, isIn_F])
    rw [a1]; (try simp (disch := omega) only [↓ck_e, ↓rd_e, ↓wr_e, ↓wrB_e, ↓wrZ_e, ↓dv_e, ↓md_e, ↓fdv_e, ↓cpy_e, ↓filB_e, ↓filI_e, ↓filL_e, ↓st1_e, ↓bnd_e, ↓iT, ↓iF, ↓reduceIte, put_ne, put_T, put_F, isIn_T, isIn_F])
    rw [slot_e hk hw (by omega)]; (try simp (disch := omega) only [↓ck_e, ↓rd_e, ↓wr_e, ↓wrB_e, ↓wrZ_e, ↓dv_e, ↓md_e, ↓fdv_e, ↓cpy_e, ↓filB_e, ↓filI_e, ↓filL_e, ↓st1_e, ↓bnd_e, ↓iT, ↓iF, ↓reduceIte, put_ne, put_T, put_F, isIn_T, isIn_F])
    rw [b1]; (try simp (disch := omega) only [↓ck_e, ↓rd_e, ↓wr_e, ↓wrB_e, ↓wrZ_e, ↓dv_e, ↓md_e, ↓fdv_e, ↓cpy_e, ↓filB_e, ↓filI_e, ↓filL_e, ↓st1_e, ↓bnd_e, ↓iT, ↓iF, ↓reduceIte, put_ne, put_T, put_F, isIn_T, isIn_F])
  · intro j h1 h2 h3; rw [b2 j h1 h2 h3, a2 j h1 h2 h3]
  · intro k' w' p hp hw' hne o ho
    have hne' : ¬ (k' = k ∧ w' = w) := fun ⟨x, y⟩ => hne (by rw [x, y])
    refine mv _ o (by omega) ?_
    obtain ⟨c1, c2, c3⟩ := a3 ((k' * 4 + w') * 2 + p) (by omega)
    unfold fallAt at ho ⊢; rw [c1, c2, c3]; exact ho
  · intro t
    obtain ⟨t1, t2⟩ := ht t
    unfold fallOk
    rw [t1, t2] at a4 b4
    exact ⟨mv _ _ (by omega) a4, b4⟩
theorem cc_reckonKindL {k : Int} (hk : 0 ≤ k ∧ k < 12) : ∀ (n : Nat) (σ : Sg) (w : Int), RelN σ V → 0 ≤ w → w ≤ 4 → 4 - w < (n : Int) → (∀ k' w', told V k' → 0 ≤ w' → w' < 4 → (k' ≠ k ∨ w' < w) → fallOk σ V k' w' 0 10 ∧ fallOk σ V k' w' 1 5) →
    ∃ σ', fX0_reckonKind_L2 n k w σ = some σ' ∧ (∀ j, j ≠ 16 → j ≠ 17 → j ≠ 18 → σ' j = σ j) ∧ RelV σ' V := by
  intro n
  induction n with
  | zero => intro σ w R h0 h1 h2; omega
  | succ n ih =>
    intro σ w R h0 h1 h2 H
    unfold fX0_reckonKind_L2
    by_cases hw : w < 4
    · obtain ⟨σ1, a1, a2, a3, a4⟩ := cc_falls R hk (w := w) ⟨h0, hw⟩
      have R1 : RelN σ1 V := RelN_congr R (fun j hj => a2 j (by intro h; subst h; revert hj; decide) (by intro h; subst h; revert hj; decide) (by intro h; subst h; revert hj; decide))
      obtain ⟨σ2, b1, b2, b3⟩ := ih σ1 (w + 1) R1 (by omega) (by omega) (by omega) (by
        intro k' w' t x1 x2 x3
        by_cases e : k' = k ∧ w' = w
        · obtain ⟨rfl, rfl⟩ := e; exact a4 t
        · have hne : (k', w') ≠ (k, w) := fun x => e ⟨congrArg Prod.fst x, congrArg Prod.snd x⟩
          have := H k' w' t x1 x2 (by omega)
          exact ⟨a3 k' w' 0 (by omega) ⟨x1, x2⟩ hne _ this.1, a3 k' w' 1 (by omega) ⟨x1, x2⟩ hne _ this.2⟩)
      refine ⟨σ2, ?_, ?_, b3⟩
      · rw [iT hw, a1]; (try simp (disch := omega) only [↓ck_e, ↓rd_e, ↓wr_e, ↓wrB_e, ↓wrZ_e, ↓dv_e, ↓md_e, ↓fdv_e, ↓cpy_e, ↓filB_e, ↓filI_e, ↓filL_e, ↓st1_e, ↓bnd_e, ↓iT, ↓iF, ↓reduceIte, put_ne, put_T, put_F, isIn_T, isIn_F]); exact b1
      · intro j j1 j2 j3; rw [b2 j j1 j2 j3, a2 j j1 j2 j3]
    · exact ⟨σ, by (try simp (disch := omega) only [↓ck_e, ↓rd_e, ↓wr_e, ↓wrB_e, ↓wrZ_e, ↓dv_e, ↓md_e, ↓fdv_e, ↓cpy_e, ↓filB_e, ↓filI_e, ↓filL_e, ↓st1_e, ↓bnd_e, ↓iT, ↓iF, ↓reduceIte, put_ne, put_T, put_F, isIn_T, isIn_F]), fun _ _ _ _ => rfl, R, fun k' w' t x1 x2 => H k' w' t x1 x2 (by omega)⟩
theorem cc_reckonWindL {w : Int} (hw : 0 ≤ w ∧ w < 4) : ∀ (n : Nat) (σ : Sg) (k : Int), RelN σ V → 0 ≤ k → k ≤ 12 → 12 - k < (n : Int) → (∀ k' w', told V k' → 0 ≤ w' → w' < 4 → (w' ≠ w ∨ k' < k) → fallOk σ V k' w' 0 10 ∧ fallOk σ V k' w' 1 5) →
    ∃ σ', fX0_reckonWind_L2 n w k σ = some σ' ∧ (∀ j, j ≠ 16 → j ≠ 17 → j ≠ 18 → σ' j = σ j) ∧ RelV σ' V := by
  intro n
  induction n with
  | zero => intro σ k R h0 h1 h2; omega
  | succ n ih =>
    intro σ k R h0 h1 h2 H
    unfold fX0_reckonWind_L2
    by_cases hk : k < 12
    · obtain ⟨σ1, a1, a2, a3, a4⟩ := cc_falls R (k := k) ⟨h0, hk⟩ hw
      have R1 : RelN σ1 V := RelN_congr R (fun j hj => a2 j (by intro h; subst h; revert hj; decide) (by intro h; subst h; revert hj; decide) (by intro h; subst h; revert hj; decide))
      obtain ⟨σ2, b1, b2, b3⟩ := ih σ1 (k + 1) R1 (by omega) (by omega) (by omega) (by
        intro k' w' t x1 x2 x3
        by_cases e : k' = k ∧ w' = w
        · obtain ⟨rfl, rfl⟩ := e; exact a4 t
        · have hne : (k', w') ≠ (k, w) := fun x => e ⟨congrArg Prod.fst x, congrArg Prod.snd x⟩
          have := H k' w' t x1 x2 (by omega)
          exact ⟨a3 k' w' 0 (by omega) ⟨x1, x2⟩ hne _ this.1, a3 k' w' 1 (by omega) ⟨x1, x2⟩ hne _ this.2⟩)
      refine ⟨σ2, ?_, ?_, b3⟩
      · rw [iT hk, a1]; (try simp (disch := omega) only [↓ck_e, ↓rd_e, ↓wr_e, ↓wrB_e, ↓wrZ_e, ↓dv_e, ↓md_e, ↓fdv_e, ↓cpy_e, ↓filB_e, ↓filI_e, ↓filL_e, ↓st1_e, ↓bnd_e, ↓iT, ↓iF, ↓reduceIte, put_ne, put_T, put_F, isIn_T, isIn_F]); exact b1
      · intro j j1 j2 j3; rw [b2 j j1 j2 j3, a2 j j1 j2 j3]
    · refine ⟨σ, by (try simp (disch := omega) only [↓ck_e, ↓rd_e, ↓wr_e, ↓wrB_e, ↓wrZ_e, ↓dv_e, ↓md_e, ↓fdv_e, ↓cpy_e, ↓filB_e, ↓filI_e, ↓filL_e, ↓st1_e, ↓bnd_e, ↓iT, ↓iF, ↓reduceIte, put_ne, put_T, put_F, isIn_T, isIn_F]), fun _ _ _ _ => rfl, R, fun k' w' t x1 x2 => H k' w' t x1 x2 ?_⟩
      have := t.1; omega
end

section
set_option linter.unusedVariables false
variable {σ τ : Sg} {V : Vw}
theorem fallV_move (dx dy : Int → Int) (b a c : Int) : ∀ (t : Nat) (x y z : Int), fallV dx dy b t (x + a) (y + c) z = (fallV dx dy b t x y z).map (fun p => (p.1 + a, p.2 + c))
  | 0, _, _, _ => rfl
  | t + 1, x, y, z => by
    unfold fallV
    simp only
    by_cases hz : z - 25 ≤ 0
    · rw [iT hz, iT hz]; simp only [Option.map_some, Option.some.injEq, Prod.mk.injEq]; omega
    · rw [iF hz, iF hz, ← fallV_move dx dy b a c t]; congr 1 <;> omega
theorem fallV_rng {dx dy : Int → Int} (D : ∀ j, 0 ≤ j → j < 20 → (-50 ≤ dx j ∧ dx j ≤ 50) ∧ (-50 ≤ dy j ∧ dy j ≤ 50)) {w : Int} (hw : 0 ≤ w ∧ w < 4) : ∀ (t : Nat) (x y z a b : Int), (0 < z ∨ t = 0) → fallV dx dy (5 * w) t x y z = some (a, b) → (x - 50 * t ≤ a ∧ a ≤ x + 50 * t) ∧ (y - 50 * t ≤ b ∧ b ≤ y + 50 * t)
  | 0, _, _, _, _, _, _, h => by unfold fallV at h; cases h
  | t + 1, x, y, z, a, b, hz0, h => by
    unfold fallV at h
    simp only at h
    obtain ⟨l, hl⟩ : ∃ l, l = if z / 500 < 4 then z / 500 else 4 := ⟨_, rfl⟩
    have hl3 : 0 ≤ l ∧ l < 5 := by rw [hl]; split <;> omega
    rw [← hl] at h
    have hd := D (5 * w + l) (by omega) (by omega)
    by_cases hz : z - 25 ≤ 0
    · rw [iT hz] at h
      simp only [Option.some.injEq, Prod.mk.injEq] at h
      omega
    · rw [iF hz] at h
      have := fallV_rng D hw t _ _ _ a b (by omega) h
      omega
def cellV (X Y : Int) : Int := if X < 0 ∨ Y < 0 ∨ 6400 ≤ X ∨ 6400 ≤ Y then -3 else 32 * (Y / 200) + X / 200
def sxV (V : Vw) (k i : Int) : Int := if i = 1 then 10 * V.1.2.2.2.1 k else if i = 2 then -(10 * V.1.2.2.2.1 k) else 0
def syV (V : Vw) (k i : Int) : Int := if i = 3 then 10 * V.1.2.2.2.1 k else if i = 4 then -(10 * V.1.2.2.2.1 k) else 0
def landsV (V : Vw) (k s a w i u : Int) : Int :=
  match fallV V.2.2.1.1 V.2.2.1.2.1 (5 * w) (V.1.2.2.2.2 k).toNat 0 0 (u * V.1.2.2.1 k) with
  | none => -2
  | some (x, y) => cellV (V.2.1.2.2.1 s + a * V.1.2.2.1 k + sxV V k i + x) (V.2.1.2.2.2.1 s + syV V k i + y)
theorem ang_rng {a h : Int} (ha : -4 ≤ a ∧ a ≤ 4) (hh : 0 ≤ h ∧ h ≤ 300) : -1200 ≤ a * h ∧ a * h ≤ 1200 := by
  have : a = -4 ∨ a = -3 ∨ a = -2 ∨ a = -1 ∨ a = 0 ∨ a = 1 ∨ a = 2 ∨ a = 3 ∨ a = 4 := by omega
  rcases this with rfl | rfl | rfl | rfl | rfl | rfl | rfl | rfl | rfl <;> omega
theorem land_rng {V : Vw} {σ : Sg} (R : RelN σ V) {k w u : Int} (hk : told V k) (hw : 0 ≤ w ∧ w < 4) (hu : u = 10 ∨ u = 5) {x y : Int} (h : fallV V.2.2.1.1 V.2.2.1.2.1 (5 * w) (V.1.2.2.2.2 k).toNat 0 0 (u * V.1.2.2.1 k) = some (x, y)) : (-5000 ≤ x ∧ x ≤ 5000) ∧ (-5000 ≤ y ∧ y ≤ 5000) := by
  have hK := (R.k k hk.1.1 hk.1.2).2.2 hk.2
  have := fallV_rng (fun j h0 h1 => (R.d j h0 h1).2.2) hw (V.1.2.2.2.2 k).toNat 0 0 (u * V.1.2.2.1 k) x y (by rcases hu with rfl | rfl <;> omega) h
  omega
theorem cc_hot {q : Int} {o : Option (Int × Int)} (hq : 0 ≤ q ∧ q < 96) (h : fallAt σ q o) : fX0_isHot q σ = some (if o.isSome then 1 else 0) := by
  unfold fX0_isHot; (try simp (disch := omega) only [↓ck_e, ↓rd_e, ↓wr_e, ↓wrB_e, ↓wrZ_e, ↓dv_e, ↓md_e, ↓fdv_e, ↓cpy_e, ↓filB_e, ↓filI_e, ↓filL_e, ↓st1_e, ↓bnd_e, ↓iT, ↓iF, ↓reduceIte, put_ne, put_T, put_F, isIn_T, isIn_F])
  unfold fallAt at h
  cases o with
  | none => simp only at h; rw [iT h]; rfl
  | some p => obtain ⟨x, y⟩ := p; simp only at h; rw [iF (by omega)]; rfl
theorem cc_landing (R : RelN σ V) {k s a w i u q : Int} (hk : told V k) (hs : isB V s) (ha : -4 ≤ a ∧ a ≤ 4) (hw : 0 ≤ w ∧ w < 4) (hu : u = 10 ∨ u = 5) (hq : 0 ≤ q ∧ q < 96) (F : fallAt σ q (fallV V.2.2.1.1 V.2.2.1.2.1 (5 * w) (V.1.2.2.2.2 k).toNat 0 0 (u * V.1.2.2.1 k))) :
    fX8_landing k s a q i σ = some (landsV V k s a w i u) := by
  have hK := (R.k k hk.1.1 hk.1.2).2.2 hk.2
  have hB := R.b s hs.1.1 hs.1.2
  have hB2 := hB.2.2 hs.2
  have hs1 := hs.1
  have hah := ang_rng ha (h := V.1.2.2.1 k) (by omega)
  unfold fX8_landing
  rw [cc_isBarge R, bi_T hs]; (try simp (disch := omega) only [↓ck_e, ↓rd_e, ↓wr_e, ↓wrB_e, ↓wrZ_e, ↓dv_e, ↓md_e, ↓fdv_e, ↓cpy_e, ↓filB_e, ↓filI_e, ↓filL_e, ↓st1_e, ↓bnd_e, ↓iT, ↓iF, ↓reduceIte, put_ne, put_T, put_F, isIn_T, isIn_F])
  rw [cc_hot hq F]
  unfold landsV
  cases hf : fallV V.2.2.1.1 V.2.2.1.2.1 (5 * w) (V.1.2.2.2.2 k).toNat 0 0 (u * V.1.2.2.1 k) with
  | none => (try simp (disch := omega) only [↓ck_e, ↓rd_e, ↓wr_e, ↓wrB_e, ↓wrZ_e, ↓dv_e, ↓md_e, ↓fdv_e, ↓cpy_e, ↓filB_e, ↓filI_e, ↓filL_e, ↓st1_e, ↓bnd_e, ↓iT, ↓iF, ↓reduceIte, put_ne, put_T, put_F, isIn_T, isIn_F]); rfl
  | some p =>
    obtain ⟨x, y⟩ := p
    have hr := land_rng R hk hw hu hf
    rw [hf] at F
    unfold fallAt at F; simp only at F
    (try simp (disch := omega) only [↓ck_e, ↓rd_e, ↓wr_e, ↓wrB_e, ↓wrZ_e, ↓dv_e, ↓md_e, ↓fdv_e, ↓cpy_e, ↓filB_e, ↓filI_e, ↓filL_e, ↓st1_e, ↓bnd_e, ↓iT, ↓iF, ↓reduceIte, put_ne, put_T, put_F, isIn_T, isIn_F])
    rw [cc_spread R hk]; (try simp (disch := omega) only [↓ck_e, ↓rd_e, ↓wr_e, ↓wrB_e, ↓wrZ_e, ↓dv_e, ↓md_e, ↓fdv_e, ↓cpy_e, ↓filB_e, ↓filI_e, ↓filL_e, ↓st1_e, ↓bnd_e, ↓iT, ↓iF, ↓reduceIte, put_ne, put_T, put_F, isIn_T, isIn_F])
    rw [cc_height R hk]; (try simp (disch := omega) only [↓ck_e, ↓rd_e, ↓wr_e, ↓wrB_e, ↓wrZ_e, ↓dv_e, ↓md_e, ↓fdv_e, ↓cpy_e, ↓filB_e, ↓filI_e, ↓filL_e, ↓st1_e, ↓bnd_e, ↓iT, ↓iF, ↓reduceIte, put_ne, put_T, put_F, isIn_T, isIn_F])
    have e17 : fX0_shiftXOf q σ = some x := by unfold fX0_shiftXOf; (try simp (disch := omega) only [↓ck_e, ↓rd_e, ↓wr_e, ↓wrB_e, ↓wrZ_e, ↓dv_e, ↓md_e, ↓fdv_e, ↓cpy_e, ↓filB_e, ↓filI_e, ↓filL_e, ↓st1_e, ↓bnd_e, ↓iT, ↓iF, ↓reduceIte, put_ne, put_T, put_F, isIn_T, isIn_F]); rw [F.2.1]
    have e18 : fX0_shiftYOf q σ = some y := by unfold fX0_shiftYOf; (try simp (disch := omega) only [↓ck_e, ↓rd_e, ↓wr_e, ↓wrB_e, ↓wrZ_e, ↓dv_e, ↓md_e, ↓fdv_e, ↓cpy_e, ↓filB_e, ↓filI_e, ↓filL_e, ↓st1_e, ↓bnd_e, ↓iT, ↓iF, ↓reduceIte, put_ne, put_T, put_F, isIn_T, isIn_F]); rw [F.2.2]
    simp only [Option.isSome_some, ↓reduceIte]
    (try simp (disch := omega) only [↓ck_e, ↓rd_e, ↓wr_e, ↓wrB_e, ↓wrZ_e, ↓dv_e, ↓md_e, ↓fdv_e, ↓cpy_e, ↓filB_e, ↓filI_e, ↓filL_e, ↓st1_e, ↓bnd_e, ↓iT, ↓iF, ↓reduceIte, put_ne, put_T, put_F, isIn_T, isIn_F])
    rw [e17]; (try simp (disch := omega) only [↓ck_e, ↓rd_e, ↓wr_e, ↓wrB_e, ↓wrZ_e, ↓dv_e, ↓md_e, ↓fdv_e, ↓cpy_e, ↓filB_e, ↓filI_e, ↓filL_e, ↓st1_e, ↓bnd_e, ↓iT, ↓iF, ↓reduceIte, put_ne, put_T, put_F, isIn_T, isIn_F])
    rw [e18]; (try simp (disch := omega) only [↓ck_e, ↓rd_e, ↓wr_e, ↓wrB_e, ↓wrZ_e, ↓dv_e, ↓md_e, ↓fdv_e, ↓cpy_e, ↓filB_e, ↓filI_e, ↓filL_e, ↓st1_e, ↓bnd_e, ↓iT, ↓iF, ↓reduceIte, put_ne, put_T, put_F, isIn_T, isIn_F])
    have fin : ∀ (b c : Int), -600 ≤ b ∧ b ≤ 600 → -600 ≤ c ∧ c ≤ 600 → b = sxV V k i → c = syV V k i → fX8_landing_P152 (200 * σ 3 s + 100 + a * V.1.2.2.1 k + x + b) c (200 * σ 4 s + 100 + y) σ = some (cellV (V.2.1.2.2.1 s + a * V.1.2.2.1 k + sxV V k i + x) (V.2.1.2.2.2.1 s + syV V k i + y)) := by
      intro b c hb hc eb ec
      rw [← eb, ← ec, hB2.1.1, hB2.2.1]
      unfold fX8_landing_P152 cellV
      (try simp (disch := omega) only [↓ck_e, ↓rd_e, ↓wr_e, ↓wrB_e, ↓wrZ_e, ↓dv_e, ↓md_e, ↓fdv_e, ↓cpy_e, ↓filB_e, ↓filI_e, ↓filL_e, ↓st1_e, ↓bnd_e, ↓iT, ↓iF, ↓reduceIte, put_ne, put_T, put_F, isIn_T, isIn_F])
      rw [show 200 * σ 3 s + 100 + a * V.1.2.2.1 k + b + x = 200 * σ 3 s + 100 + a * V.1.2.2.1 k + x + b by omega, show 200 * σ 4 s + 100 + c + y = 200 * σ 4 s + 100 + y + c by omega]
      obtain ⟨X, hX⟩ : ∃ X, X = 200 * σ 3 s + 100 + a * V.1.2.2.1 k + x + b := ⟨_, rfl⟩
      obtain ⟨Y, hY⟩ : ∃ Y, Y = 200 * σ 4 s + 100 + y + c := ⟨_, rfl⟩
      rw [← hX, ← hY]
      by_cases c1 : X < 0
      · (try simp (disch := omega) only [↓ck_e, ↓rd_e, ↓wr_e, ↓wrB_e, ↓wrZ_e, ↓dv_e, ↓md_e, ↓fdv_e, ↓cpy_e, ↓filB_e, ↓filI_e, ↓filL_e, ↓st1_e, ↓bnd_e, ↓iT, ↓iF, ↓reduceIte, put_ne, put_T, put_F, isIn_T, isIn_F])
      · by_cases c2 : 6400 ≤ X
        · (try simp (disch := omega) only [↓ck_e, ↓rd_e, ↓wr_e, ↓wrB_e, ↓wrZ_e, ↓dv_e, ↓md_e, ↓fdv_e, ↓cpy_e, ↓filB_e, ↓filI_e, ↓filL_e, ↓st1_e, ↓bnd_e, ↓iT, ↓iF, ↓reduceIte, put_ne, put_T, put_F, isIn_T, isIn_F])
        · by_cases c3 : Y < 0
          · (try simp (disch := omega) only [↓ck_e, ↓rd_e, ↓wr_e, ↓wrB_e, ↓wrZ_e, ↓dv_e, ↓md_e, ↓fdv_e, ↓cpy_e, ↓filB_e, ↓filI_e, ↓filL_e, ↓st1_e, ↓bnd_e, ↓iT, ↓iF, ↓reduceIte, put_ne, put_T, put_F, isIn_T, isIn_F])
          · by_cases c4 : 6400 ≤ Y <;> (try simp (disch := omega) only [↓ck_e, ↓rd_e, ↓wr_e, ↓wrB_e, ↓wrZ_e, ↓dv_e, ↓md_e, ↓fdv_e, ↓cpy_e, ↓filB_e, ↓filI_e, ↓filL_e, ↓st1_e, ↓bnd_e, ↓iT, ↓iF, ↓reduceIte, put_ne, put_T, put_F, isIn_T, isIn_F])
    unfold sxV syV at fin
    by_cases i1 : i = 1
    · rw [iT i1]; subst i1; unfold fX8_landing_P123; (try simp (disch := omega) only [↓ck_e, ↓rd_e, ↓wr_e, ↓wrB_e, ↓wrZ_e, ↓dv_e, ↓md_e, ↓fdv_e, ↓cpy_e, ↓filB_e, ↓filI_e, ↓filL_e, ↓st1_e, ↓bnd_e, ↓iT, ↓iF, ↓reduceIte, put_ne, put_T, put_F, isIn_T, isIn_F])
      exact fin _ _ (by omega) (by omega) (by simp) (by simp)
    · rw [iF i1]
      by_cases i2 : i = 2
      · rw [iT i2]; subst i2; unfold fX8_landing_P123; (try simp (disch := omega) only [↓ck_e, ↓rd_e, ↓wr_e, ↓wrB_e, ↓wrZ_e, ↓dv_e, ↓md_e, ↓fdv_e, ↓cpy_e, ↓filB_e, ↓filI_e, ↓filL_e, ↓st1_e, ↓bnd_e, ↓iT, ↓iF, ↓reduceIte, put_ne, put_T, put_F, isIn_T, isIn_F])
        exact fin _ _ (by omega) (by omega) (by simp) (by simp)
      · rw [iF i2]; unfold fX8_landing_P123; (try simp (disch := omega) only [↓ck_e, ↓rd_e, ↓wr_e, ↓wrB_e, ↓wrZ_e, ↓dv_e, ↓md_e, ↓fdv_e, ↓cpy_e, ↓filB_e, ↓filI_e, ↓filL_e, ↓st1_e, ↓bnd_e, ↓iT, ↓iF, ↓reduceIte, put_ne, put_T, put_F, isIn_T, isIn_F])
        by_cases i3 : i = 3
        · rw [iT i3]; subst i3
          exact fin _ _ (by omega) (by omega) (by simp) (by simp)
        · rw [iF i3]
          by_cases i4 : i = 4
          · rw [iT i4]; subst i4
            exact fin _ _ (by omega) (by omega) (by simp) (by simp)
          · rw [iF i4]
            exact fin _ _ (by omega) (by omega) (by simp [i1, i2]) (by simp [i3, i4])

theorem rr_fallL (D : ∀ j, 0 ≤ j → j < 20 → (-50 ≤ τ 11 j ∧ τ 11 j ≤ 50) ∧ (-50 ≤ τ 12 j ∧ τ 12 j ≤ 50)) {k w : Int} (hk : 0 ≤ k ∧ k < 12) (hw : 0 ≤ w ∧ w < 4) (hb : τ 5 k ≤ 99) :
    ∀ (t n : Nat) (x y z j : Int), τ 5 k - j = t → 0 ≤ j → (-20000 - 50 * j ≤ x ∧ x ≤ 20000 + 50 * j) → (-20000 - 50 * j ≤ y ∧ y ≤ 20000 + 50 * j) → 0 < z → z ≤ 3000 → t + 2 ≤ n →
    fX12_lands_L115 n k w x y z j τ = some (match fallV (τ 11) (τ 12) (5 * w) t x y z with | none => .inr () | some p => .inl p) := by
  intro t
  induction t with
  | zero =>
    intro n x y z j h1 h2 h3 h4 h5 h6 h7
    obtain ⟨m, rfl⟩ : ∃ m, n = m + 1 := ⟨n - 1, by omega⟩
    unfold fallV fX12_lands_L115; (try simp (disch := omega) only [↓ck_e, ↓rd_e, ↓wr_e, ↓wrB_e, ↓wrZ_e, ↓dv_e, ↓md_e, ↓fdv_e, ↓cpy_e, ↓filB_e, ↓filI_e, ↓filL_e, ↓st1_e, ↓bnd_e, ↓iT, ↓iF, ↓reduceIte, put_ne, put_T, put_F, isIn_T, isIn_F])
  | succ t ih =>
    intro n x y z j h1 h2 h3 h4 h5 h6 h7
    obtain ⟨m, rfl⟩ : ∃ m, n = m + 1 := ⟨n - 1, by omega⟩
    obtain ⟨l, hl⟩ : ∃ l, l = if z / 500 < 4 then z / 500 else 4 := ⟨_, rfl⟩
    have hl3 : 0 ≤ l ∧ l < 5 := by rw [hl]; split <;> omega
    have hd := D (5 * w + l) (by omega) (by omega)
    have step : fX12_lands_L115 (m + 1) k w x y z j τ = if z - 25 ≤ 0 then some (.inl (x + τ 11 (5 * w + l), y + τ 12 (5 * w + l))) else fX12_lands_L115 m k w (x + τ 11 (5 * w + l)) (y + τ 12 (5 * w + l)) (z - 25) (j + 1) τ := by
      have fin : ∀ l', l' = l → fX12_lands_L115P150 (fX12_lands_L115 m) k w x y z j l' (5 * w) τ = if z - 25 ≤ 0 then some (.inl (x + τ 11 (5 * w + l), y + τ 12 (5 * w + l))) else fX12_lands_L115 m k w (x + τ 11 (5 * w + l)) (y + τ 12 (5 * w + l)) (z - 25) (j + 1) τ := by
        intro l' e; subst e
        unfold fX12_lands_L115P150; (try simp (disch := omega) only [↓ck_e, ↓rd_e, ↓wr_e, ↓wrB_e, ↓wrZ_e, ↓dv_e, ↓md_e, ↓fdv_e, ↓cpy_e, ↓filB_e, ↓filI_e, ↓filL_e, ↓st1_e, ↓bnd_e, ↓iT, ↓iF, ↓reduceIte, put_ne, put_T, put_F, isIn_T, isIn_F])
        rw [show z + -25 = z - 25 by omega]
      conv => lhs; unfold fX12_lands_L115
      (try simp (disch := omega) only [↓ck_e, ↓rd_e, ↓wr_e, ↓wrB_e, ↓wrZ_e, ↓dv_e, ↓md_e, ↓fdv_e, ↓cpy_e, ↓filB_e, ↓filI_e, ↓filL_e, ↓st1_e, ↓bnd_e, ↓iT, ↓iF, ↓reduceIte, put_ne, put_T, put_F, isIn_T, isIn_F])
      by_cases h4 : z / 500 < 4
      · rw [iT h4] at hl; rw [iT h4]; exact fin _ hl.symm
      · rw [iF h4] at hl; rw [iF h4]; exact fin _ hl.symm
    rw [step]
    unfold fallV
    rw [← hl]
    simp only
    by_cases hz : z - 25 ≤ 0
    · rw [iT hz, iT hz]
    · rw [iF hz, iF hz]
      exact ih m _ _ _ (j + 1) (by omega) (by omega) (by omega) (by omega) (by omega) (by omega) (by omega)
theorem rr_lands (R : RelN σ (vw τ)) {k s a w i u : Int} (hk : told (vw τ) k) (hs : isB (vw τ) s) (ha : -4 ≤ a ∧ a ≤ 4) (hw : 0 ≤ w ∧ w < 4) (hu : u = 10 ∨ u = 5) :
    fX12_lands k s a w i u τ = some (landsV (vw τ) k s a w i u) := by
  have hK := (R.k k hk.1.1 hk.1.2).2.2 hk.2
  have hB := R.b s hs.1.1 hs.1.2
  have hB2 := hB.2.2 hs.2
  have hs1 := hs.1
  have hk1 := hk.1
  dsimp only [vw] at hK hB hB2
  have hah := ang_rng ha (h := τ 3 k) (by omega)
  have D : ∀ j, 0 ≤ j → j < 20 → (-50 ≤ τ 11 j ∧ τ 11 j ≤ 50) ∧ (-50 ≤ τ 12 j ∧ τ 12 j ≤ 50) := fun j h0 h1 => (R.d j h0 h1).2.2
  unfold fX12_lands; (try simp (disch := omega) only [↓ck_e, ↓rd_e, ↓wr_e, ↓wrB_e, ↓wrZ_e, ↓dv_e, ↓md_e, ↓fdv_e, ↓cpy_e, ↓filB_e, ↓filI_e, ↓filL_e, ↓st1_e, ↓bnd_e, ↓iT, ↓iF, ↓reduceIte, put_ne, put_T, put_F, isIn_T, isIn_F])
  have fin : ∀ (b c : Int), -600 ≤ b ∧ b ≤ 600 → -600 ≤ c ∧ c ≤ 600 → b = sxV (vw τ) k i → c = syV (vw τ) k i → fX12_lands_P98 k w u (τ 8 s + a * τ 3 k + b) c (τ 9 s) τ = some (landsV (vw τ) k s a w i u) := by
    intro b c hb hc eb ec
    unfold fX12_lands_P98 landsV
    rw [← eb, ← ec]
    (try simp (disch := omega) only [↓ck_e, ↓rd_e, ↓wr_e, ↓wrB_e, ↓wrZ_e, ↓dv_e, ↓md_e, ↓fdv_e, ↓cpy_e, ↓filB_e, ↓filI_e, ↓filL_e, ↓st1_e, ↓bnd_e, ↓iT, ↓iF, ↓reduceIte, put_ne, put_T, put_F, isIn_T, isIn_F])
    have hz : 0 < u * τ 3 k ∧ u * τ 3 k ≤ 3000 := by rcases hu with rfl | rfl <;> omega
    (try simp (disch := omega) only [↓ck_e, ↓rd_e, ↓wr_e, ↓wrB_e, ↓wrZ_e, ↓dv_e, ↓md_e, ↓fdv_e, ↓cpy_e, ↓filB_e, ↓filI_e, ↓filL_e, ↓st1_e, ↓bnd_e, ↓iT, ↓iF, ↓reduceIte, put_ne, put_T, put_F, isIn_T, isIn_F])
    rw [rr_fallL D hk1 hw (by omega) (τ 5 k).toNat fu _ _ _ 0 (by omega) (by omega) (by omega) (by omega) hz.1 hz.2 (by unfold fu; omega)]
    have mv := fallV_move (τ 11) (τ 12) (5 * w) (τ 8 s + a * τ 3 k + b) (τ 9 s + c) (τ 5 k).toNat 0 0 (u * τ 3 k)
    rw [show (0 : Int) + (τ 8 s + a * τ 3 k + b) = τ 8 s + a * τ 3 k + b by omega, show (0 : Int) + (τ 9 s + c) = τ 9 s + c by omega] at mv
    rw [mv]
    cases hf : fallV (τ 11) (τ 12) (5 * w) (τ 5 k).toNat 0 0 (u * τ 3 k) with
    | none => simp only [Option.map_none]; rfl
    | some p =>
      obtain ⟨x, y⟩ := p
      have hr := land_rng R hk hw hu hf
      simp only [Option.map_some, bnd_e, Sum.elim_inl]
      unfold cellV
      rw [show τ 8 s + a * τ 3 k + b + x = x + (τ 8 s + a * τ 3 k + b) by omega, show τ 9 s + c + y = y + (τ 9 s + c) by omega]
      obtain ⟨X, hX⟩ : ∃ X, X = x + (τ 8 s + a * τ 3 k + b) := ⟨_, rfl⟩
      obtain ⟨Y, hY⟩ : ∃ Y, Y = y + (τ 9 s + c) := ⟨_, rfl⟩
      rw [← hX, ← hY]
      unfold fX12_lands_P211
      by_cases c1 : X < 0
      · (try simp (disch := omega) only [↓ck_e, ↓rd_e, ↓wr_e, ↓wrB_e, ↓wrZ_e, ↓dv_e, ↓md_e, ↓fdv_e, ↓cpy_e, ↓filB_e, ↓filI_e, ↓filL_e, ↓st1_e, ↓bnd_e, ↓iT, ↓iF, ↓reduceIte, put_ne, put_T, put_F, isIn_T, isIn_F])
      · by_cases c3 : Y < 0
        · (try simp (disch := omega) only [↓ck_e, ↓rd_e, ↓wr_e, ↓wrB_e, ↓wrZ_e, ↓dv_e, ↓md_e, ↓fdv_e, ↓cpy_e, ↓filB_e, ↓filI_e, ↓filL_e, ↓st1_e, ↓bnd_e, ↓iT, ↓iF, ↓reduceIte, put_ne, put_T, put_F, isIn_T, isIn_F])
        · by_cases c2 : 6400 ≤ X
          · (try simp (disch := omega) only [↓ck_e, ↓rd_e, ↓wr_e, ↓wrB_e, ↓wrZ_e, ↓dv_e, ↓md_e, ↓fdv_e, ↓cpy_e, ↓filB_e, ↓filI_e, ↓filL_e, ↓st1_e, ↓bnd_e, ↓iT, ↓iF, ↓reduceIte, put_ne, put_T, put_F, isIn_T, isIn_F])
          · by_cases c4 : 6400 ≤ Y
            · (try simp (disch := omega) only [↓ck_e, ↓rd_e, ↓wr_e, ↓wrB_e, ↓wrZ_e, ↓dv_e, ↓md_e, ↓fdv_e, ↓cpy_e, ↓filB_e, ↓filI_e, ↓filL_e, ↓st1_e, ↓bnd_e, ↓iT, ↓iF, ↓reduceIte, put_ne, put_T, put_F, isIn_T, isIn_F])
            · (try simp (disch := omega) only [↓ck_e, ↓rd_e, ↓wr_e, ↓wrB_e, ↓wrZ_e, ↓dv_e, ↓md_e, ↓fdv_e, ↓cpy_e, ↓filB_e, ↓filI_e, ↓filL_e, ↓st1_e, ↓bnd_e, ↓iT, ↓iF, ↓reduceIte, put_ne, put_T, put_F, isIn_T, isIn_F]); congr 1; omega
  unfold sxV syV at fin
  by_cases i1 : i = 1
  · rw [iT i1]; subst i1; unfold fX12_lands_P52; (try simp (disch := omega) only [↓ck_e, ↓rd_e, ↓wr_e, ↓wrB_e, ↓wrZ_e, ↓dv_e, ↓md_e, ↓fdv_e, ↓cpy_e, ↓filB_e, ↓filI_e, ↓filL_e, ↓st1_e, ↓bnd_e, ↓iT, ↓iF, ↓reduceIte, put_ne, put_T, put_F, isIn_T, isIn_F])
    exact fin _ _ (by omega) (by omega) (by simp) (by simp)
  · rw [iF i1]
    by_cases i2 : i = 2
    · rw [iT i2]; subst i2; unfold fX12_lands_P52; (try simp (disch := omega) only [↓ck_e, ↓rd_e, ↓wr_e, ↓wrB_e, ↓wrZ_e, ↓dv_e, ↓md_e, ↓fdv_e, ↓cpy_e, ↓filB_e, ↓filI_e, ↓filL_e, ↓st1_e, ↓bnd_e, ↓iT, ↓iF, ↓reduceIte, put_ne, put_T, put_F, isIn_T, isIn_F])
      exact fin _ _ (by omega) (by omega) (by simp; omega) (by simp)
    · rw [iF i2]; unfold fX12_lands_P52; (try simp (disch := omega) only [↓ck_e, ↓rd_e, ↓wr_e, ↓wrB_e, ↓wrZ_e, ↓dv_e, ↓md_e, ↓fdv_e, ↓cpy_e, ↓filB_e, ↓filI_e, ↓filL_e, ↓st1_e, ↓bnd_e, ↓iT, ↓iF, ↓reduceIte, put_ne, put_T, put_F, isIn_T, isIn_F])
      by_cases i3 : i = 3
      · rw [iT i3]; subst i3; (try simp (disch := omega) only [↓ck_e, ↓rd_e, ↓wr_e, ↓wrB_e, ↓wrZ_e, ↓dv_e, ↓md_e, ↓fdv_e, ↓cpy_e, ↓filB_e, ↓filI_e, ↓filL_e, ↓st1_e, ↓bnd_e, ↓iT, ↓iF, ↓reduceIte, put_ne, put_T, put_F, isIn_T, isIn_F])
        exact fin _ _ (by omega) (by omega) (by simp) (by simp)
      · rw [iF i3]
        by_cases i4 : i = 4
        · rw [iT i4]; subst i4; (try simp (disch := omega) only [↓ck_e, ↓rd_e, ↓wr_e, ↓wrB_e, ↓wrZ_e, ↓dv_e, ↓md_e, ↓fdv_e, ↓cpy_e, ↓filB_e, ↓filI_e, ↓filL_e, ↓st1_e, ↓bnd_e, ↓iT, ↓iF, ↓reduceIte, put_ne, put_T, put_F, isIn_T, isIn_F])
          exact fin _ _ (by omega) (by omega) (by simp) (by simp; omega)
        · rw [iF i4]
          exact fin _ _ (by omega) (by omega) (by simp [i1, i2]) (by simp [i3, i4])
theorem cellV_rng (X Y : Int) : cellV X Y = -3 ∨ (0 ≤ cellV X Y ∧ cellV X Y < 1024) := by
  unfold cellV; split <;> omega
theorem landsV_rng (V : Vw) (k s a w i u : Int) : landsV V k s a w i u = -2 ∨ landsV V k s a w i u = -3 ∨ (0 ≤ landsV V k s a w i u ∧ landsV V k s a w i u < 1024) := by
  unfold landsV; split
  · omega
  · have := cellV_rng; rename_i x y _; have := this (V.2.1.2.2.1 s + a * V.1.2.2.1 k + sxV V k i + x) (V.2.1.2.2.2.1 s + syV V k i + y); omega

def emV (V : Vw) (k s a w i : Int) : Prop := landsV V k s a w i 10 ≠ -3 ∧ (0 ≤ landsV V k s a w i 10 → V.1.1 (landsV V k s a w i 10) = 0) ∧ (0 ≤ landsV V k s a w i 5 → V.1.1 (landsV V k s a w i 5) ≠ 2)
def safeV (V : Vw) (k s a w : Int) : Prop := ¬ ∃ i, 0 ≤ i ∧ i < 5 ∧ ¬ emV V k s a w i
theorem cc_groundAt {q : Int} (R : RelN σ V) (hq : 0 ≤ q ∧ q < 1024) : fX8_groundAt q σ = some (V.1.1 q) := by
  unfold fX8_groundAt; (try simp (disch := omega) only [↓ck_e, ↓rd_e, ↓wr_e, ↓wrB_e, ↓wrZ_e, ↓dv_e, ↓md_e, ↓fdv_e, ↓cpy_e, ↓filB_e, ↓filI_e, ↓filL_e, ↓st1_e, ↓bnd_e, ↓iT, ↓iF, ↓reduceIte, put_ne, put_T, put_F, isIn_T, isIn_F]); rw [(R.g q hq.1 hq.2).1]
theorem cc_safe (R : RelV σ V) {k s a w : Int} (hk : told V k) (hs : isB V s) (ha : -4 ≤ a ∧ a ≤ 4) (hw : 0 ≤ w ∧ w < 4) : fX8_isSafe k s a w σ = some (bi (safeV V k s a w)) := by
  have hk1 := hk.1
  obtain ⟨F0, F1⟩ := R.f k w hk hw.1 hw.2
  unfold fallOk at F0 F1
  have l0 : ∀ i, fX8_landing k s a ((k * 4 + w) * 2 + 0) i σ = some (landsV V k s a w i 10) := fun i => cc_landing R.toRelN hk hs ha hw (.inl rfl) (by omega) F0
  have l1 : ∀ i, fX8_landing k s a ((k * 4 + w) * 2 + 1) i σ = some (landsV V k s a w i 5) := fun i => cc_landing R.toRelN hk hs ha hw (.inr rfl) (by omega) F1
  obtain ⟨q0, hq0⟩ : ∃ q, q = (k * 4 + w) * 2 + 0 := ⟨_, rfl⟩
  obtain ⟨q1, hq1⟩ : ∃ q, q = (k * 4 + w) * 2 + 1 := ⟨_, rfl⟩
  rw [← hq0] at l0; rw [← hq1] at l1
  have stp : ∀ n i, 0 ≤ i → i < 5 → (emV V k s a w i → fX8_isSafe_L29 (n + 1) k s a q0 q1 i σ = fX8_isSafe_L29 n k s a q0 q1 (i + 1) σ) ∧ (¬ emV V k s a w i → ∃ v, (v = .inl () ∨ v = .inr (.inl ())) ∧ fX8_isSafe_L29 (n + 1) k s a q0 q1 i σ = some v) := by
    intro n i h0 h1
    have hr0 := landsV_rng V k s a w i 10
    have hr1 := landsV_rng V k s a w i 5
    have low : (0 ≤ landsV V k s a w i 5 → V.1.1 (landsV V k s a w i 5) ≠ 2) → fX8_isSafe_L29P66 (fX8_isSafe_L29 n) k s a q0 q1 i σ = fX8_isSafe_L29 n k s a q0 q1 (i + 1) σ := by
      intro hl
      unfold fX8_isSafe_L29P66; rw [l1]; (try simp (disch := omega) only [↓ck_e, ↓rd_e, ↓wr_e, ↓wrB_e, ↓wrZ_e, ↓dv_e, ↓md_e, ↓fdv_e, ↓cpy_e, ↓filB_e, ↓filI_e, ↓filL_e, ↓st1_e, ↓bnd_e, ↓iT, ↓iF, ↓reduceIte, put_ne, put_T, put_F, isIn_T, isIn_F])
      by_cases c : landsV V k s a w i 5 = -2
      · rw [iT c]; unfold fX8_isSafe_L29P98; (try simp (disch := omega) only [↓ck_e, ↓rd_e, ↓wr_e, ↓wrB_e, ↓wrZ_e, ↓dv_e, ↓md_e, ↓fdv_e, ↓cpy_e, ↓filB_e, ↓filI_e, ↓filL_e, ↓st1_e, ↓bnd_e, ↓iT, ↓iF, ↓reduceIte, put_ne, put_T, put_F, isIn_T, isIn_F])
      · rw [iF c]
        by_cases c2 : landsV V k s a w i 5 = -3
        · have : fX8_groundAt (landsV V k s a w i 5) σ = some 1 := by unfold fX8_groundAt; (try simp (disch := omega) only [↓ck_e, ↓rd_e, ↓wr_e, ↓wrB_e, ↓wrZ_e, ↓dv_e, ↓md_e, ↓fdv_e, ↓cpy_e, ↓filB_e, ↓filI_e, ↓filL_e, ↓st1_e, ↓bnd_e, ↓iT, ↓iF, ↓reduceIte, put_ne, put_T, put_F, isIn_T, isIn_F])
          rw [this]; unfold fX8_isSafe_L29P98; (try simp (disch := omega) only [↓ck_e, ↓rd_e, ↓wr_e, ↓wrB_e, ↓wrZ_e, ↓dv_e, ↓md_e, ↓fdv_e, ↓cpy_e, ↓filB_e, ↓filI_e, ↓filL_e, ↓st1_e, ↓bnd_e, ↓iT, ↓iF, ↓reduceIte, put_ne, put_T, put_F, isIn_T, isIn_F])
        · rw [cc_groundAt R.toRelN (by omega)]; (try simp (disch := omega) only [↓ck_e, ↓rd_e, ↓wr_e, ↓wrB_e, ↓wrZ_e, ↓dv_e, ↓md_e, ↓fdv_e, ↓cpy_e, ↓filB_e, ↓filI_e, ↓filL_e, ↓st1_e, ↓bnd_e, ↓iT, ↓iF, ↓reduceIte, put_ne, put_T, put_F, isIn_T, isIn_F])
          (try rw [iF (hl (by omega))]); unfold fX8_isSafe_L29P98; (try simp (disch := omega) only [↓ck_e, ↓rd_e, ↓wr_e, ↓wrB_e, ↓wrZ_e, ↓dv_e, ↓md_e, ↓fdv_e, ↓cpy_e, ↓filB_e, ↓filI_e, ↓filL_e, ↓st1_e, ↓bnd_e, ↓iT, ↓iF, ↓reduceIte, put_ne, put_T, put_F, isIn_T, isIn_F])
    have low' : ¬ (0 ≤ landsV V k s a w i 5 → V.1.1 (landsV V k s a w i 5) ≠ 2) → fX8_isSafe_L29P66 (fX8_isSafe_L29 n) k s a q0 q1 i σ = some (.inr (.inl ())) := by
      intro hl
      have hl1 : 0 ≤ landsV V k s a w i 5 := Classical.byContradiction (fun x => hl (fun y => absurd y x))
      have hl2 : V.1.1 (landsV V k s a w i 5) = 2 := Classical.byContradiction (fun x => hl (fun _ => x))
      unfold fX8_isSafe_L29P66; rw [l1]; (try simp (disch := omega) only [↓ck_e, ↓rd_e, ↓wr_e, ↓wrB_e, ↓wrZ_e, ↓dv_e, ↓md_e, ↓fdv_e, ↓cpy_e, ↓filB_e, ↓filI_e, ↓filL_e, ↓st1_e, ↓bnd_e, ↓iT, ↓iF, ↓reduceIte, put_ne, put_T, put_F, isIn_T, isIn_F])
      rw [cc_groundAt R.toRelN (by omega)]; (try simp (disch := omega) only [↓ck_e, ↓rd_e, ↓wr_e, ↓wrB_e, ↓wrZ_e, ↓dv_e, ↓md_e, ↓fdv_e, ↓cpy_e, ↓filB_e, ↓filI_e, ↓filL_e, ↓st1_e, ↓bnd_e, ↓iT, ↓iF, ↓reduceIte, put_ne, put_T, put_F, isIn_T, isIn_F])
    have top : ∀ v, fX8_isSafe_L29P66 (fX8_isSafe_L29 n) k s a q0 q1 i σ = v → (landsV V k s a w i 10 ≠ -3 ∧ (0 ≤ landsV V k s a w i 10 → V.1.1 (landsV V k s a w i 10) = 0)) → fX8_isSafe_L29 (n + 1) k s a q0 q1 i σ = v := by
      intro v hv hh
      conv => lhs; unfold fX8_isSafe_L29
      (try simp (disch := omega) only [↓ck_e, ↓rd_e, ↓wr_e, ↓wrB_e, ↓wrZ_e, ↓dv_e, ↓md_e, ↓fdv_e, ↓cpy_e, ↓filB_e, ↓filI_e, ↓filL_e, ↓st1_e, ↓bnd_e, ↓iT, ↓iF, ↓reduceIte, put_ne, put_T, put_F, isIn_T, isIn_F]); rw [l0]; (try simp (disch := omega) only [↓ck_e, ↓rd_e, ↓wr_e, ↓wrB_e, ↓wrZ_e, ↓dv_e, ↓md_e, ↓fdv_e, ↓cpy_e, ↓filB_e, ↓filI_e, ↓filL_e, ↓st1_e, ↓bnd_e, ↓iT, ↓iF, ↓reduceIte, put_ne, put_T, put_F, isIn_T, isIn_F])
      by_cases c : landsV V k s a w i 10 = -2
      · rw [iT c]; exact hv
      · rw [iF c, cc_groundAt R.toRelN (by omega)]; (try simp (disch := omega) only [↓ck_e, ↓rd_e, ↓wr_e, ↓wrB_e, ↓wrZ_e, ↓dv_e, ↓md_e, ↓fdv_e, ↓cpy_e, ↓filB_e, ↓filI_e, ↓filL_e, ↓st1_e, ↓bnd_e, ↓iT, ↓iF, ↓reduceIte, put_ne, put_T, put_F, isIn_T, isIn_F]); (try rw [iT (hh.2 (by omega))]); exact hv
    constructor
    · intro he
      exact top _ (low he.2.2) ⟨he.1, he.2.1⟩
    · intro he
      by_cases c : landsV V k s a w i 10 ≠ -3 ∧ (0 ≤ landsV V k s a w i 10 → V.1.1 (landsV V k s a w i 10) = 0)
      · refine ⟨.inr (.inl ()), .inr rfl, top _ (low' (fun x => he ⟨c.1, c.2, x⟩)) c⟩
      · refine ⟨.inl (), .inl rfl, ?_⟩
        conv => lhs; unfold fX8_isSafe_L29
        (try simp (disch := omega) only [↓ck_e, ↓rd_e, ↓wr_e, ↓wrB_e, ↓wrZ_e, ↓dv_e, ↓md_e, ↓fdv_e, ↓cpy_e, ↓filB_e, ↓filI_e, ↓filL_e, ↓st1_e, ↓bnd_e, ↓iT, ↓iF, ↓reduceIte, put_ne, put_T, put_F, isIn_T, isIn_F]); rw [l0]; (try simp (disch := omega) only [↓ck_e, ↓rd_e, ↓wr_e, ↓wrB_e, ↓wrZ_e, ↓dv_e, ↓md_e, ↓fdv_e, ↓cpy_e, ↓filB_e, ↓filI_e, ↓filL_e, ↓st1_e, ↓bnd_e, ↓iT, ↓iF, ↓reduceIte, put_ne, put_T, put_F, isIn_T, isIn_F])
        by_cases c2 : landsV V k s a w i 10 = -3
        · have : fX8_groundAt (landsV V k s a w i 10) σ = some 1 := by unfold fX8_groundAt; (try simp (disch := omega) only [↓ck_e, ↓rd_e, ↓wr_e, ↓wrB_e, ↓wrZ_e, ↓dv_e, ↓md_e, ↓fdv_e, ↓cpy_e, ↓filB_e, ↓filI_e, ↓filL_e, ↓st1_e, ↓bnd_e, ↓iT, ↓iF, ↓reduceIte, put_ne, put_T, put_F, isIn_T, isIn_F])
          (try simp (disch := omega) only [↓ck_e, ↓rd_e, ↓wr_e, ↓wrB_e, ↓wrZ_e, ↓dv_e, ↓md_e, ↓fdv_e, ↓cpy_e, ↓filB_e, ↓filI_e, ↓filL_e, ↓st1_e, ↓bnd_e, ↓iT, ↓iF, ↓reduceIte, put_ne, put_T, put_F, isIn_T, isIn_F]); rw [this]; (try simp (disch := omega) only [↓ck_e, ↓rd_e, ↓wr_e, ↓wrB_e, ↓wrZ_e, ↓dv_e, ↓md_e, ↓fdv_e, ↓cpy_e, ↓filB_e, ↓filI_e, ↓filL_e, ↓st1_e, ↓bnd_e, ↓iT, ↓iF, ↓reduceIte, put_ne, put_T, put_F, isIn_T, isIn_F])
        · have c3 : 0 ≤ landsV V k s a w i 10 := Classical.byContradiction (fun x => c ⟨c2, fun y => absurd y x⟩)
          have c4 : V.1.1 (landsV V k s a w i 10) ≠ 0 := fun x => c ⟨c2, fun _ => x⟩
          (try simp (disch := omega) only [↓ck_e, ↓rd_e, ↓wr_e, ↓wrB_e, ↓wrZ_e, ↓dv_e, ↓md_e, ↓fdv_e, ↓cpy_e, ↓filB_e, ↓filI_e, ↓filL_e, ↓st1_e, ↓bnd_e, ↓iT, ↓iF, ↓reduceIte, put_ne, put_T, put_F, isIn_T, isIn_F]); rw [cc_groundAt R.toRelN (by omega)]; (try simp (disch := omega) only [↓ck_e, ↓rd_e, ↓wr_e, ↓wrB_e, ↓wrZ_e, ↓dv_e, ↓md_e, ↓fdv_e, ↓cpy_e, ↓filB_e, ↓filI_e, ↓filL_e, ↓st1_e, ↓bnd_e, ↓iT, ↓iF, ↓reduceIte, put_ne, put_T, put_F, isIn_T, isIn_F])
  unfold fX8_isSafe
  rw [slot_e hk1 hw (by omega), slot_e hk1 hw (by omega), ← hq0, ← hq1]; (try simp (disch := omega) only [↓ck_e, ↓rd_e, ↓wr_e, ↓wrB_e, ↓wrZ_e, ↓dv_e, ↓md_e, ↓fdv_e, ↓cpy_e, ↓filB_e, ↓filI_e, ↓filL_e, ↓st1_e, ↓bnd_e, ↓iT, ↓iF, ↓reduceIte, put_ne, put_T, put_F, isIn_T, isIn_F])
  have loop := srch (L := fun n i => (fX8_isSafe_L29 n k s a q0 q1 i σ).bind (Sum.elim (fun a31 => some (0 : Int)) (Sum.elim (fun a32 => some 0) (fun a33 => some 1)))) (lo := 0) (m := 5) (P := fun i => ¬ emV V k s a w i) (a := some 0) (b := some 1)
    (fun n i a1 a2 a3 => by
      obtain ⟨v, hv, e⟩ := (stp n i a1 a2).2 a3
      rw [e]; rcases hv with rfl | rfl <;> rfl)
    (fun n i a1 a2 a3 => by rw [(stp n i a1 a2).1 (Classical.not_not.mp a3)])
    (fun n i a1 a2 => by unfold fX8_isSafe_L29; (try simp (disch := omega) only [↓ck_e, ↓rd_e, ↓wr_e, ↓wrB_e, ↓wrZ_e, ↓dv_e, ↓md_e, ↓fdv_e, ↓cpy_e, ↓filB_e, ↓filI_e, ↓filL_e, ↓st1_e, ↓bnd_e, ↓iT, ↓iF, ↓reduceIte, put_ne, put_T, put_F, isIn_T, isIn_F]); rfl) fu 0 (by omega) (by rw [fu_i]; omega) fu_pos
  by_cases hh : safeV V k s a w
  · rw [bi_T hh]; exact loop.2 hh
  · rw [bi_F hh]; exact loop.1 (Classical.not_not.mp hh)
theorem rr_safe (R : RelN σ (vw τ)) {k s a w : Int} (hk : told (vw τ) k) (hs : isB (vw τ) s) (ha : -4 ≤ a ∧ a ≤ 4) (hw : 0 ≤ w ∧ w < 4) : fX12_isSafe k s a w τ = some (bi (safeV (vw τ) k s a w)) := by
  have l0 : ∀ i, fX12_lands k s a w i 10 τ = some (landsV (vw τ) k s a w i 10) := fun i => rr_lands R hk hs ha hw (.inl rfl)
  have l1 : ∀ i, fX12_lands k s a w i 5 τ = some (landsV (vw τ) k s a w i 5) := fun i => rr_lands R hk hs ha hw (.inr rfl)
  have stp : ∀ n i, 0 ≤ i → i < 5 → (emV (vw τ) k s a w i → fX12_isSafe_L3 (n + 1) k s a w i τ = fX12_isSafe_L3 n k s a w (i + 1) τ) ∧ (¬ emV (vw τ) k s a w i → fX12_isSafe_L3 (n + 1) k s a w i τ = some (.inl ())) := by
    intro n i h0 h1
    have hr0 := landsV_rng (vw τ) k s a w i 10
    have hr1 := landsV_rng (vw τ) k s a w i 5
    unfold emV
    have g : (vw τ).1.1 = τ 1 := rfl
    rw [g]
    obtain ⟨p, hp⟩ : ∃ p, p = landsV (vw τ) k s a w i 10 := ⟨_, rfl⟩
    obtain ⟨q, hq⟩ : ∃ p, p = landsV (vw τ) k s a w i 5 := ⟨_, rfl⟩
    rw [← hp] at hr0; rw [← hq] at hr1
    rw [← hp, ← hq]
    have low : fX12_isSafe_L3P60 (fX12_isSafe_L3 n) k s a w i q τ = if 0 ≤ q ∧ τ 1 q = 2 then some (.inl ()) else fX12_isSafe_L3 n k s a w (i + 1) τ := by
      unfold fX12_isSafe_L3P60 fX12_isSafe_L3P78
      by_cases c : q < 0
      · (try simp (disch := omega) only [↓ck_e, ↓rd_e, ↓wr_e, ↓wrB_e, ↓wrZ_e, ↓dv_e, ↓md_e, ↓fdv_e, ↓cpy_e, ↓filB_e, ↓filI_e, ↓filL_e, ↓st1_e, ↓bnd_e, ↓iT, ↓iF, ↓reduceIte, put_ne, put_T, put_F, isIn_T, isIn_F])
      · (try simp (disch := omega) only [↓ck_e, ↓rd_e, ↓wr_e, ↓wrB_e, ↓wrZ_e, ↓dv_e, ↓md_e, ↓fdv_e, ↓cpy_e, ↓filB_e, ↓filI_e, ↓filL_e, ↓st1_e, ↓bnd_e, ↓iT, ↓iF, ↓reduceIte, put_ne, put_T, put_F, isIn_T, isIn_F])
        by_cases c2 : τ 1 q = 2
        · rw [iT c2, iT ⟨by omega, c2⟩]
        · rw [iF c2, iF (fun x => c2 x.2)]
    have top : fX12_isSafe_L3 (n + 1) k s a w i τ = if p = -3 ∨ (0 ≤ p ∧ τ 1 p ≠ 0) then some (.inl ()) else fX12_isSafe_L3P60 (fX12_isSafe_L3 n) k s a w i q τ := by
      conv => lhs; unfold fX12_isSafe_L3
      (try simp (disch := omega) only [↓ck_e, ↓rd_e, ↓wr_e, ↓wrB_e, ↓wrZ_e, ↓dv_e, ↓md_e, ↓fdv_e, ↓cpy_e, ↓filB_e, ↓filI_e, ↓filL_e, ↓st1_e, ↓bnd_e, ↓iT, ↓iF, ↓reduceIte, put_ne, put_T, put_F, isIn_T, isIn_F]); rw [l0, l1, ← hp, ← hq]; (try simp (disch := omega) only [↓ck_e, ↓rd_e, ↓wr_e, ↓wrB_e, ↓wrZ_e, ↓dv_e, ↓md_e, ↓fdv_e, ↓cpy_e, ↓filB_e, ↓filI_e, ↓filL_e, ↓st1_e, ↓bnd_e, ↓iT, ↓iF, ↓reduceIte, put_ne, put_T, put_F, isIn_T, isIn_F])
      by_cases c : p = -3
      · (try simp (disch := omega) only [↓ck_e, ↓rd_e, ↓wr_e, ↓wrB_e, ↓wrZ_e, ↓dv_e, ↓md_e, ↓fdv_e, ↓cpy_e, ↓filB_e, ↓filI_e, ↓filL_e, ↓st1_e, ↓bnd_e, ↓iT, ↓iF, ↓reduceIte, put_ne, put_T, put_F, isIn_T, isIn_F])
      · rw [iF c]
        by_cases c2 : p < 0
        · (try simp (disch := omega) only [↓ck_e, ↓rd_e, ↓wr_e, ↓wrB_e, ↓wrZ_e, ↓dv_e, ↓md_e, ↓fdv_e, ↓cpy_e, ↓filB_e, ↓filI_e, ↓filL_e, ↓st1_e, ↓bnd_e, ↓iT, ↓iF, ↓reduceIte, put_ne, put_T, put_F, isIn_T, isIn_F])
        · (try simp (disch := omega) only [↓ck_e, ↓rd_e, ↓wr_e, ↓wrB_e, ↓wrZ_e, ↓dv_e, ↓md_e, ↓fdv_e, ↓cpy_e, ↓filB_e, ↓filI_e, ↓filL_e, ↓st1_e, ↓bnd_e, ↓iT, ↓iF, ↓reduceIte, put_ne, put_T, put_F, isIn_T, isIn_F])
          by_cases c3 : τ 1 p = 0
          · rw [iT c3, iF (fun x => x.elim c (fun y => y.2 c3))]
          · rw [iF c3, iT (.inr ⟨by omega, c3⟩)]
    rw [top, low]
    constructor
    · rintro ⟨h1, h2, h3⟩
      rw [iF (fun x => x.elim h1 (fun y => y.2 (h2 y.1))), iF (fun x => h3 x.1 x.2)]
    · intro he
      by_cases c : p = -3 ∨ (0 ≤ p ∧ τ 1 p ≠ 0)
      · rw [iT c]
      · rw [iF c]
        refine iT ?_
        refine Classical.byContradiction (fun x => he ⟨fun y => c (.inl y), fun y => Classical.byContradiction (fun z => c (.inr ⟨y, z⟩)), fun y z => x ⟨y, z⟩⟩)
  have loop := srch (L := fun n i => fX12_isSafe_L3 n k s a w i τ) (lo := 0) (m := 5) (P := fun i => ¬ emV (vw τ) k s a w i) (a := some (.inl ())) (b := some (.inr ()))
    (fun n i a1 a2 a3 => (stp n i a1 a2).2 a3)
    (fun n i a1 a2 a3 => (stp n i a1 a2).1 (Classical.not_not.mp a3))
    (fun n i a1 a2 => by unfold fX12_isSafe_L3; (try simp (disch := omega) only [↓ck_e, ↓rd_e, ↓wr_e, ↓wrB_e, ↓wrZ_e, ↓dv_e, ↓md_e, ↓fdv_e, ↓cpy_e, ↓filB_e, ↓filI_e, ↓filL_e, ↓st1_e, ↓bnd_e, ↓iT, ↓iF, ↓reduceIte, put_ne, put_T, put_F, isIn_T, isIn_F])) fu 0 (by omega) (by rw [fu_i]; omega) fu_pos
  unfold fX12_isSafe
  by_cases hh : safeV (vw τ) k s a w
  · rw [bi_T hh, loop.2 hh]; rfl
  · rw [bi_F hh, loop.1 (Classical.not_not.mp hh)]; rfl
end

section
set_option linter.unusedVariables false
variable {σ τ : Sg} {V : Vw}
def knR (V : Vw) (t : Int) : Nat → Int → Int → Int
  | 0, _, a => a
  | n + 1, i, a => knR V t n (i + 1) (if V.2.2.2.1.2.2.2.2 i ≤ t ∧ (a < 0 ∨ V.2.2.2.1.2.2.2.1 a ≤ V.2.2.2.1.2.2.2.1 i) then i else a)
def knW (V : Vw) (a : Int) : Int := if a < 0 then 0 else V.2.2.2.1.2.2.1 a
def knL (V : Vw) (a : Int) : Int := if a < 0 then -1 else V.2.2.2.1.2.2.2.1 a

def knownV (V : Vw) (t : Int) : Int := knW V (knR V t V.2.2.2.2.2.2.1.toNat 0 (-1))
theorem knR_rng (V : Vw) (t : Int) : ∀ (n : Nat) (i a : Int), 0 ≤ i → (a < 0 ∨ a < i) → knR V t n i a < 0 ∨ knR V t n i a < i + n
  | 0, i, a, _, h => by unfold knR; omega
  | n + 1, i, a, hi, h => by
    unfold knR
    have := knR_rng V t n (i + 1) (if V.2.2.2.1.2.2.2.2 i ≤ t ∧ (a < 0 ∨ V.2.2.2.1.2.2.2.1 a ≤ V.2.2.2.1.2.2.2.1 i) then i else a) (by omega) (by split <;> omega)
    omega
theorem known_rng (R : RelN σ V) (t : Int) : 0 ≤ knownV V t ∧ knownV V t < 4 := by
  unfold knownV knW
  have h := knR_rng V t V.2.2.2.2.2.2.1.toNat 0 (-1) (by omega) (by omega)
  have hm := R.m.1
  by_cases c : knR V t V.2.2.2.2.2.2.1.toNat 0 (-1) < 0
  · rw [iT c]; omega
  · rw [iF c]; have := (R.m.2 (knR V t V.2.2.2.2.2.2.1.toNat 0 (-1)) (by omega) (by omega)).1; omega
theorem cc_knownL (R : RelN σ V) (t : Int) : ∀ (n : Nat) (i a : Int), 0 ≤ i → i ≤ V.2.2.2.2.2.2.1 → (a < 0 ∨ a < i) → V.2.2.2.2.2.2.1 - i < (n : Int) → fX4_windKnown_L7 n t (knW V a) (knL V a) i σ = some (knW V (knR V t (V.2.2.2.2.2.2.1 - i).toNat i a)) := by
  have hm := R.m.1
  intro n
  induction n with
  | zero => intro i a h0 h1 h2 h3; omega
  | succ n ih =>
    intro i a h0 h1 h2 h3
    unfold fX4_windKnown_L7
    by_cases c : i < V.2.2.2.2.2.2.1
    · have e := R.m.2 i h0 c
      rw [show (V.2.2.2.2.2.2.1 - i).toNat = (V.2.2.2.2.2.2.1 - (i + 1)).toNat + 1 by omega]
      unfold knR
      (try simp (disch := omega) only [↓ck_e, ↓rd_e, ↓wr_e, ↓wrB_e, ↓wrZ_e, ↓dv_e, ↓md_e, ↓fdv_e, ↓cpy_e, ↓filB_e, ↓filI_e, ↓filL_e, ↓st1_e, ↓bnd_e, ↓iT, ↓iF, ↓reduceIte, put_ne, put_T, put_F, isIn_T, isIn_F])
      by_cases c1 : V.2.2.2.1.2.2.2.2 i ≤ t
      · rw [e.2.2.1, iT c1, e.2.1.1, e.1.1]
        by_cases c2 : V.2.2.2.1.2.2.2.1 i < knL V a
        · rw [iT c2]; unfold fX4_windKnown_L7P61; (try simp (disch := omega) only [↓ck_e, ↓rd_e, ↓wr_e, ↓wrB_e, ↓wrZ_e, ↓dv_e, ↓md_e, ↓fdv_e, ↓cpy_e, ↓filB_e, ↓filI_e, ↓filL_e, ↓st1_e, ↓bnd_e, ↓iT, ↓iF, ↓reduceIte, put_ne, put_T, put_F, isIn_T, isIn_F])
          have : ¬ (V.2.2.2.1.2.2.2.2 i ≤ t ∧ (a < 0 ∨ V.2.2.2.1.2.2.2.1 a ≤ V.2.2.2.1.2.2.2.1 i)) := by
            rintro ⟨-, x⟩; unfold knL at c2; split at c2 <;> omega
          rw [iF this]; exact ih (i + 1) a (by omega) (by omega) (by omega) (by omega)
        · rw [iF c2]; unfold fX4_windKnown_L7P61; (try simp (disch := omega) only [↓ck_e, ↓rd_e, ↓wr_e, ↓wrB_e, ↓wrZ_e, ↓dv_e, ↓md_e, ↓fdv_e, ↓cpy_e, ↓filB_e, ↓filI_e, ↓filL_e, ↓st1_e, ↓bnd_e, ↓iT, ↓iF, ↓reduceIte, put_ne, put_T, put_F, isIn_T, isIn_F])
          have : (V.2.2.2.1.2.2.2.2 i ≤ t ∧ (a < 0 ∨ V.2.2.2.1.2.2.2.1 a ≤ V.2.2.2.1.2.2.2.1 i)) := by
            refine ⟨c1, ?_⟩; unfold knL at c2; split at c2 <;> omega
          rw [iT this]
          have := ih (i + 1) i (by omega) (by omega) (by omega) (by omega)
          unfold knW knL at this
          rw [iF (by omega), iF (by omega)] at this
          exact this
      · rw [e.2.2.1, iF c1]; unfold fX4_windKnown_L7P61; (try simp (disch := omega) only [↓ck_e, ↓rd_e, ↓wr_e, ↓wrB_e, ↓wrZ_e, ↓dv_e, ↓md_e, ↓fdv_e, ↓cpy_e, ↓filB_e, ↓filI_e, ↓filL_e, ↓st1_e, ↓bnd_e, ↓iT, ↓iF, ↓reduceIte, put_ne, put_T, put_F, isIn_T, isIn_F])
        (try rw [iF (show ¬ (V.2.2.2.1.2.2.2.2 i ≤ t ∧ (a < 0 ∨ V.2.2.2.1.2.2.2.1 a ≤ V.2.2.2.1.2.2.2.1 i)) from fun x => c1 x.1)]); exact ih (i + 1) a (by omega) (by omega) (by omega) (by omega)
    · (try simp (disch := omega) only [↓ck_e, ↓rd_e, ↓wr_e, ↓wrB_e, ↓wrZ_e, ↓dv_e, ↓md_e, ↓fdv_e, ↓cpy_e, ↓filB_e, ↓filI_e, ↓filL_e, ↓st1_e, ↓bnd_e, ↓iT, ↓iF, ↓reduceIte, put_ne, put_T, put_F, isIn_T, isIn_F]); rw [show (V.2.2.2.2.2.2.1 - i).toNat = 0 by omega]; rfl
theorem cc_known (R : RelN σ V) (t : Int) : fX4_windKnown t σ = some (knownV V t) := by
  have hm := R.m.1
  have := cc_knownL R t fu 0 (-1) (by omega) (by omega) (by omega) (by rw [fu_i]; omega)
  have e1 : knW V (-1) = 0 := rfl
  have e2 : knL V (-1) = -1 := rfl
  rw [e1, e2, show V.2.2.2.2.2.2.1 - 0 = V.2.2.2.2.2.2.1 by omega] at this
  unfold fX4_windKnown
  rw [this]; rfl
theorem rr_knownL (R : RelN σ (vw τ)) (t : Int) : ∀ (n : Nat) (i a : Int), 0 ≤ i → i ≤ τ 0 33 → (a < 0 ∨ a < i) → τ 0 33 - i < (n : Int) → fX12_knownWind_L4 n t a i τ = some (knR (vw τ) t (τ 0 33 - i).toNat i a) := by
  have hm := R.m.1
  dsimp only [vw] at hm
  intro n
  induction n with
  | zero => intro i a h0 h1 h2 h3; omega
  | succ n ih =>
    intro i a h0 h1 h2 h3
    unfold fX12_knownWind_L4
    by_cases c : i < τ 0 33
    · have e := R.m.2 i h0 c
      dsimp only [vw] at e
      rw [show (τ 0 33 - i).toNat = (τ 0 33 - (i + 1)).toNat + 1 by omega]
      unfold knR
      dsimp only [vw]
      (try simp (disch := omega) only [↓ck_e, ↓rd_e, ↓wr_e, ↓wrB_e, ↓wrZ_e, ↓dv_e, ↓md_e, ↓fdv_e, ↓cpy_e, ↓filB_e, ↓filI_e, ↓filL_e, ↓st1_e, ↓bnd_e, ↓iT, ↓iF, ↓reduceIte, put_ne, put_T, put_F, isIn_T, isIn_F])
      by_cases c1 : τ 24 i ≤ t
      · rw [iT c1]
        by_cases c2 : a < 0
        · rw [iT c2, iT ⟨c1, .inl c2⟩]; unfold fX12_knownWind_L4P41 fX12_knownWind_L4P43; (try simp (disch := omega) only [↓ck_e, ↓rd_e, ↓wr_e, ↓wrB_e, ↓wrZ_e, ↓dv_e, ↓md_e, ↓fdv_e, ↓cpy_e, ↓filB_e, ↓filI_e, ↓filL_e, ↓st1_e, ↓bnd_e, ↓iT, ↓iF, ↓reduceIte, put_ne, put_T, put_F, isIn_T, isIn_F])
          exact ih (i + 1) i (by omega) (by omega) (by omega) (by omega)
        · rw [iF c2]; (try simp (disch := omega) only [↓ck_e, ↓rd_e, ↓wr_e, ↓wrB_e, ↓wrZ_e, ↓dv_e, ↓md_e, ↓fdv_e, ↓cpy_e, ↓filB_e, ↓filI_e, ↓filL_e, ↓st1_e, ↓bnd_e, ↓iT, ↓iF, ↓reduceIte, put_ne, put_T, put_F, isIn_T, isIn_F])
          by_cases c3 : τ 23 i < τ 23 a
          · rw [iT c3, iF (fun x => by rcases x.2 with x | x <;> omega)]; unfold fX12_knownWind_L4P43; (try simp (disch := omega) only [↓ck_e, ↓rd_e, ↓wr_e, ↓wrB_e, ↓wrZ_e, ↓dv_e, ↓md_e, ↓fdv_e, ↓cpy_e, ↓filB_e, ↓filI_e, ↓filL_e, ↓st1_e, ↓bnd_e, ↓iT, ↓iF, ↓reduceIte, put_ne, put_T, put_F, isIn_T, isIn_F])
            exact ih (i + 1) a (by omega) (by omega) (by omega) (by omega)
          · rw [iF c3, iT ⟨c1, .inr (by omega)⟩]; unfold fX12_knownWind_L4P41 fX12_knownWind_L4P43; (try simp (disch := omega) only [↓ck_e, ↓rd_e, ↓wr_e, ↓wrB_e, ↓wrZ_e, ↓dv_e, ↓md_e, ↓fdv_e, ↓cpy_e, ↓filB_e, ↓filI_e, ↓filL_e, ↓st1_e, ↓bnd_e, ↓iT, ↓iF, ↓reduceIte, put_ne, put_T, put_F, isIn_T, isIn_F])
            exact ih (i + 1) i (by omega) (by omega) (by omega) (by omega)
      · rw [iF c1, iF (fun x => c1 x.1)]; unfold fX12_knownWind_L4P43; (try simp (disch := omega) only [↓ck_e, ↓rd_e, ↓wr_e, ↓wrB_e, ↓wrZ_e, ↓dv_e, ↓md_e, ↓fdv_e, ↓cpy_e, ↓filB_e, ↓filI_e, ↓filL_e, ↓st1_e, ↓bnd_e, ↓iT, ↓iF, ↓reduceIte, put_ne, put_T, put_F, isIn_T, isIn_F])
        exact ih (i + 1) a (by omega) (by omega) (by omega) (by omega)
    · (try simp (disch := omega) only [↓ck_e, ↓rd_e, ↓wr_e, ↓wrB_e, ↓wrZ_e, ↓dv_e, ↓md_e, ↓fdv_e, ↓cpy_e, ↓filB_e, ↓filI_e, ↓filL_e, ↓st1_e, ↓bnd_e, ↓iT, ↓iF, ↓reduceIte, put_ne, put_T, put_F, isIn_T, isIn_F]); rw [show (τ 0 33 - i).toNat = 0 by omega]; rfl
theorem rr_known (R : RelN σ (vw τ)) (t : Int) : fX12_knownWind t τ = some (knownV (vw τ) t) := by
  have hm := R.m.1
  dsimp only [vw] at hm
  have := rr_knownL R t fu 0 (-1) (by omega) (by omega) (by omega) (by rw [fu_i]; omega)
  have h := knR_rng (vw τ) t (τ 0 33).toNat 0 (-1) (by omega) (by omega)
  unfold fX12_knownWind knownV
  rw [this, show τ 0 33 - 0 = τ 0 33 by omega]
  show _ = some (knW (vw τ) (knR (vw τ) t (τ 0 33).toNat 0 (-1)))
  generalize knR (vw τ) t (τ 0 33).toNat 0 (-1) = q at h ⊢
  unfold knW
  by_cases c : q < 0
  · (try simp (disch := omega) only [↓ck_e, ↓rd_e, ↓wr_e, ↓wrB_e, ↓wrZ_e, ↓dv_e, ↓md_e, ↓fdv_e, ↓cpy_e, ↓filB_e, ↓filI_e, ↓filL_e, ↓st1_e, ↓bnd_e, ↓iT, ↓iF, ↓reduceIte, put_ne, put_T, put_F, isIn_T, isIn_F])
  · (try simp (disch := omega) only [↓ck_e, ↓rd_e, ↓wr_e, ↓wrB_e, ↓wrZ_e, ↓dv_e, ↓md_e, ↓fdv_e, ↓cpy_e, ↓filB_e, ↓filI_e, ↓filL_e, ↓st1_e, ↓bnd_e, ↓iT, ↓iF, ↓reduceIte, put_ne, put_T, put_F, isIn_T, isIn_F])

def fireV (V : Vw) (c : Int) : Int := V.2.2.1.2.2.1 c - V.1.2.1 (V.2.2.1.2.2.2.1 c)
def b2 (b : Bool) : Int := if b then 1 else 0
def atomV (V : Vw) (c m o v : Int) : Bool :=
  if o = 1 then decide (10 * v ≤ fireV V c) else if o = 2 then decide (v ≤ m) else if o = 3 then decide (knownV V (fireV V c) = v) else if o = 4 then decide (V.2.2.1.2.2.2.2 c = v) else decide (V.2.2.1.2.2.2.1 c = v)
def opV (o : Int) : List Bool → List Bool
  | a :: b :: s => if o = 8 then (!a) :: b :: s else if o = 6 then (b && a) :: s else (b || a) :: s
  | [a] => if o = 8 then [!a] else [a]
  | [] => []
def evR (V : Vw) (c m : Int) : Nat → Int → List Bool → Bool
  | 0, _, _ => false
  | n + 1, k, s => if V.2.2.2.2.1 k = 0 then s.headD false else if V.2.2.2.2.1 k ≤ 5 then evR V c m n (k + 2) (atomV V c m (V.2.2.2.2.1 k) (V.2.2.2.2.1 (k + 1)) :: s) else evR V c m n (k + 1) (opV (V.2.2.2.2.1 k) s)
def ruleV (V : Vw) (r c m : Int) : Bool := evR V c m 21 (100 * r) []
def enc : List Bool → Int
  | [] => 0
  | b :: s => 2 * enc s + b2 b
theorem b2_rng (b : Bool) : b2 b = 0 ∨ b2 b = 1 := by cases b <;> simp [b2]
theorem enc_rng : ∀ (s : List Bool), 0 ≤ enc s ∧ enc s < 2 ^ s.length
  | [] => by simp [enc]
  | b :: s => by
    have := enc_rng s; have := b2_rng b
    unfold enc
    simp only [List.length_cons, Int.pow_succ]
    omega
theorem enc_le {s : List Bool} (h : s.length ≤ 8) : 0 ≤ enc s ∧ enc s < 256 := by
  have := enc_rng s
  have h2 : (2 : Int) ^ s.length ≤ 2 ^ 8 := by
    have : s.length = 0 ∨ s.length = 1 ∨ s.length = 2 ∨ s.length = 3 ∨ s.length = 4 ∨ s.length = 5 ∨ s.length = 6 ∨ s.length = 7 ∨ s.length = 8 := by omega
    rcases this with h | h | h | h | h | h | h | h | h <;> rw [h] <;> decide
  omega
theorem bits_all : ∀ x : Fin 256, bOr (bShl (x.val : Int) 1) 0 = 2 * (x.val : Int) ∧ bOr (bShl (x.val : Int) 1) 1 = 2 * (x.val : Int) + 1 ∧ bShr (x.val : Int) 2 = (x.val : Int) / 4 ∧ bAnd (x.val : Int) 3 = (x.val : Int) % 4 ∧ bAnd (x.val : Int) 1 = (x.val : Int) % 2 ∧ bXor (x.val : Int) 1 = (if (x.val : Int) % 2 = 0 then (x.val : Int) + 1 else (x.val : Int) - 1) := by decide +kernel
theorem bits_e {x : Int} (h0 : 0 ≤ x) (h1 : x < 256) : bOr (bShl x 1) 0 = 2 * x ∧ bOr (bShl x 1) 1 = 2 * x + 1 ∧ bShr x 2 = x / 4 ∧ bAnd x 3 = x % 4 ∧ bAnd x 1 = x % 2 ∧ bXor x 1 = (if x % 2 = 0 then x + 1 else x - 1) := by
  have := bits_all ⟨x.toNat, by omega⟩
  simp only [Int.toNat_of_nonneg h0] at this
  exact this
theorem pushed_e {x : Int} (h0 : 0 ≤ x) (h1 : x < 256) (b : Bool) : fX5_pushed x (b2 b) σ = some (2 * x + b2 b) := by
  have := bits_e h0 h1
  unfold fX5_pushed
  cases b
  · rw [iT (by rfl), this.1]; simp [b2]
  · rw [iF (by simp [b2]), this.2.1]; simp [b2]
end

section
set_option linter.unusedVariables false
variable {σ τ : Sg} {V : Vw}
theorem fire_rng (R : RelN σ V) {c : Int} (h0 : 0 ≤ c) (h1 : c < V.2.2.2.2.2.1) : 0 ≤ fireV V c ∧ fireV V c ≤ 20000 := by
  have e := R.c c h0 h1; have hk := R.k (V.2.2.1.2.2.2.1 c) e.2.1.1.1 e.2.1.1.2
  unfold fireV; omega
theorem len2 {s : List Bool} (h : 2 ≤ (s.length : Int)) : ∃ a b s', s = a :: b :: s' := by
  match s, h with
  | a :: b :: s', _ => exact ⟨a, b, s', rfl⟩
  | [_], h => simp at h
  | [], h => simp at h
theorem len1 {s : List Bool} (h : 1 ≤ (s.length : Int)) : ∃ a s', s = a :: s' := by
  match s, h with
  | a :: s', _ => exact ⟨a, s', rfl⟩
  | [], h => simp at h
theorem cc_ruleL (R : RelN σ V) {r c m : Int} (hr : 0 ≤ r ∧ r < 8) (hc : 0 ≤ c) (hc' : c < V.2.2.2.2.2.1) (hl : σ 47 r ≤ 20) :
    ∀ (t n : Nat) (k x8 : Int) (s : List Bool), rulV V.2.2.2.2.1 (σ 45) (σ 46) t k (20 * r + x8) s.length → x8 + t = σ 47 r → 0 ≤ x8 → t + 1 ≤ n →
    ∃ q, fX5_doesHold_L18 n r 19 c (fireV V c) (knownV V (fireV V c)) m (enc s) x8 σ = some q ∧ bAnd q 1 = b2 (evR V c m (t + 1) k s) := by
  intro t
  induction t with
  | zero =>
    intro n k x8 s hR hx h0 hn
    obtain ⟨n, rfl⟩ : ∃ m, n = m + 1 := ⟨n - 1, by omega⟩
    unfold rulV at hR
    obtain ⟨b, s', rfl⟩ := len1 (s := s) (by omega)
    have hs' : s' = [] := by
      cases s' with
      | nil => rfl
      | cons a l => simp at hR; omega
    subst hs'
    refine ⟨enc [b], ?_, ?_⟩
    · unfold fX5_doesHold_L18; (try simp (disch := omega) only [↓ck_e, ↓rd_e, ↓wr_e, ↓wrB_e, ↓wrZ_e, ↓dv_e, ↓md_e, ↓fdv_e, ↓cpy_e, ↓filB_e, ↓filI_e, ↓filL_e, ↓st1_e, ↓bnd_e, ↓iT, ↓iF, ↓reduceIte, put_ne, put_T, put_F, isIn_T, isIn_F])
    · unfold evR; rw [iT hR.2.1]
      have hb := b2_rng b
      rw [(bits_e (x := enc [b]) (by unfold enc enc; omega) (by unfold enc enc; omega)).2.2.2.2.1]
      show enc [b] % 2 = b2 b
      unfold enc enc; omega
  | succ t ih =>
    intro n k x8 s hR hx h0 hn
    obtain ⟨n, rfl⟩ : ∃ m, n = m + 1 := ⟨n - 1, by omega⟩
    unfold rulV at hR
    obtain ⟨hki, ho, hoe, hd, h5, h8, h67⟩ := hR
    obtain ⟨o, hO⟩ : ∃ o, o = V.2.2.2.2.1 k := ⟨_, rfl⟩
    rw [← hO] at ho hoe h5 h8 h67
    have hen := enc_le (s := s) (by omega)
    have hb := bits_e hen.1 hen.2
    have ev1 : ∀ s', (o ≤ 5 → s' = atomV V c m o (V.2.2.2.2.1 (k + 1)) :: s) → (5 < o → s' = opV o s) → evR V c m (t + 1 + 1) k s = evR V c m (t + 1) (k + (if o ≤ 5 then 2 else 1)) s' := by
      intro s' a1 a2
      conv => lhs; unfold evR
      rw [← hO, iF (by omega)]
      by_cases h : o ≤ 5
      · rw [iT h, iT h, a1 h]
      · rw [iF h, iF h, a2 (by omega)]
    have fin : ∀ (s' : List Bool), (o ≤ 5 → s' = atomV V c m o (V.2.2.2.2.1 (k + 1)) :: s) → (5 < o → s' = opV o s) → rulV V.2.2.2.2.1 (σ 45) (σ 46) t (k + (if o ≤ 5 then 2 else 1)) (20 * r + (x8 + 1)) s'.length → fX5_doesHold_L18 (n + 1) r 19 c (fireV V c) (knownV V (fireV V c)) m (enc s) x8 σ = fX5_doesHold_L18 n r 19 c (fireV V c) (knownV V (fireV V c)) m (enc s') (x8 + 1) σ → ∃ q, fX5_doesHold_L18 (n + 1) r 19 c (fireV V c) (knownV V (fireV V c)) m (enc s) x8 σ = some q ∧ bAnd q 1 = b2 (evR V c m (t + 1 + 1) k s) := by
      intro s' a1 a2 a3 a4
      rw [a4, ev1 s' a1 a2]
      exact ih n _ (x8 + 1) s' a3 (by omega) (by omega) (by omega)
    have hpos : σ 45 (r * 20 + x8) = o := by rw [show r * 20 + x8 = 20 * r + x8 by omega]; exact hoe
    by_cases ho5 : o ≤ 5
    · obtain ⟨hm, hv, hd8, hR'⟩ := h5 ho5
      have hnum : σ 46 (r * 20 + x8) = V.2.2.2.2.1 (k + 1) := by rw [show r * 20 + x8 = 20 * r + x8 by omega]; exact hm
      refine fin (atomV V c m o (V.2.2.2.2.1 (k + 1)) :: s) (fun _ => rfl) (fun x => by omega) ?_ ?_
      · rw [iT ho5, List.length_cons, show 20 * r + (x8 + 1) = 20 * r + x8 + 1 by omega]; exact hR'
      · have hfr := fire_rng R hc hc'
        have pu : ∀ b, fX5_pushed (enc s) (b2 b) σ = some (enc (b :: s)) := fun b => pushed_e hen.1 hen.2 b
        generalize hv' : V.2.2.2.2.1 (k + 1) = v at hv hnum hm ⊢
        have : o = 1 ∨ o = 2 ∨ o = 3 ∨ o = 4 ∨ o = 5 := by omega
        conv => lhs; unfold fX5_doesHold_L18
        (try simp (disch := omega) only [↓ck_e, ↓rd_e, ↓wr_e, ↓wrB_e, ↓wrZ_e, ↓dv_e, ↓md_e, ↓fdv_e, ↓cpy_e, ↓filB_e, ↓filI_e, ↓filL_e, ↓st1_e, ↓bnd_e, ↓iT, ↓iF, ↓reduceIte, put_ne, put_T, put_F, isIn_T, isIn_F])
        rw [hpos, hnum]
        unfold atomV
        rcases this with e | e | e | e | e <;> rw [e] <;> (try simp (disch := omega) only [↓ck_e, ↓rd_e, ↓wr_e, ↓wrB_e, ↓wrZ_e, ↓dv_e, ↓md_e, ↓fdv_e, ↓cpy_e, ↓filB_e, ↓filI_e, ↓filL_e, ↓st1_e, ↓bnd_e, ↓iT, ↓iF, ↓reduceIte, put_ne, put_T, put_F, isIn_T, isIn_F])
        · by_cases h : fireV V c < 10 * v
          · rw [iT h, show decide (10 * v ≤ fireV V c) = false from decide_eq_false (by omega)]
            unfold fX5_doesHold_L18P121; rw [show (0 : Int) = b2 false from rfl, pu]; unfold fX5_doesHold_L18P278; (try simp (disch := omega) only [↓ck_e, ↓rd_e, ↓wr_e, ↓wrB_e, ↓wrZ_e, ↓dv_e, ↓md_e, ↓fdv_e, ↓cpy_e, ↓filB_e, ↓filI_e, ↓filL_e, ↓st1_e, ↓bnd_e, ↓iT, ↓iF, ↓reduceIte, put_ne, put_T, put_F, isIn_T, isIn_F])
          · rw [iF h, show decide (10 * v ≤ fireV V c) = true from decide_eq_true (by omega)]
            unfold fX5_doesHold_L18P121; rw [show fX5_pushed (enc s) 1 σ = _ from pu true]; unfold fX5_doesHold_L18P278; (try simp (disch := omega) only [↓ck_e, ↓rd_e, ↓wr_e, ↓wrB_e, ↓wrZ_e, ↓dv_e, ↓md_e, ↓fdv_e, ↓cpy_e, ↓filB_e, ↓filI_e, ↓filL_e, ↓st1_e, ↓bnd_e, ↓iT, ↓iF, ↓reduceIte, put_ne, put_T, put_F, isIn_T, isIn_F])
        · by_cases h : m < v
          · rw [iT h, show decide (v ≤ m) = false from decide_eq_false (by omega)]
            unfold fX5_doesHold_L18P143; rw [show fX5_pushed (enc s) 0 σ = _ from pu false]; unfold fX5_doesHold_L18P278; (try simp (disch := omega) only [↓ck_e, ↓rd_e, ↓wr_e, ↓wrB_e, ↓wrZ_e, ↓dv_e, ↓md_e, ↓fdv_e, ↓cpy_e, ↓filB_e, ↓filI_e, ↓filL_e, ↓st1_e, ↓bnd_e, ↓iT, ↓iF, ↓reduceIte, put_ne, put_T, put_F, isIn_T, isIn_F])
          · rw [iF h, show decide (v ≤ m) = true from decide_eq_true (by omega)]
            unfold fX5_doesHold_L18P143; rw [show fX5_pushed (enc s) 1 σ = _ from pu true]; unfold fX5_doesHold_L18P278; (try simp (disch := omega) only [↓ck_e, ↓rd_e, ↓wr_e, ↓wrB_e, ↓wrZ_e, ↓dv_e, ↓md_e, ↓fdv_e, ↓cpy_e, ↓filB_e, ↓filI_e, ↓filL_e, ↓st1_e, ↓bnd_e, ↓iT, ↓iF, ↓reduceIte, put_ne, put_T, put_F, isIn_T, isIn_F])
        · by_cases h : knownV V (fireV V c) = v
          · rw [iT h, show decide (knownV V (fireV V c) = v) = true from decide_eq_true h]
            unfold fX5_doesHold_L18P165; rw [show fX5_pushed (enc s) 1 σ = _ from pu true]; unfold fX5_doesHold_L18P278; (try simp (disch := omega) only [↓ck_e, ↓rd_e, ↓wr_e, ↓wrB_e, ↓wrZ_e, ↓dv_e, ↓md_e, ↓fdv_e, ↓cpy_e, ↓filB_e, ↓filI_e, ↓filL_e, ↓st1_e, ↓bnd_e, ↓iT, ↓iF, ↓reduceIte, put_ne, put_T, put_F, isIn_T, isIn_F])
          · rw [iF h, show decide (knownV V (fireV V c) = v) = false from decide_eq_false h]
            unfold fX5_doesHold_L18P165; rw [show fX5_pushed (enc s) 0 σ = _ from pu false]; unfold fX5_doesHold_L18P278; (try simp (disch := omega) only [↓ck_e, ↓rd_e, ↓wr_e, ↓wrB_e, ↓wrZ_e, ↓dv_e, ↓md_e, ↓fdv_e, ↓cpy_e, ↓filB_e, ↓filI_e, ↓filL_e, ↓st1_e, ↓bnd_e, ↓iT, ↓iF, ↓reduceIte, put_ne, put_T, put_F, isIn_T, isIn_F])
        · rw [cc_barge R hc hc']; (try simp (disch := omega) only [↓ck_e, ↓rd_e, ↓wr_e, ↓wrB_e, ↓wrZ_e, ↓dv_e, ↓md_e, ↓fdv_e, ↓cpy_e, ↓filB_e, ↓filI_e, ↓filL_e, ↓st1_e, ↓bnd_e, ↓iT, ↓iF, ↓reduceIte, put_ne, put_T, put_F, isIn_T, isIn_F])
          by_cases h : V.2.2.1.2.2.2.2 c = v
          · rw [iT h, show decide (V.2.2.1.2.2.2.2 c = v) = true from decide_eq_true h]
            unfold fX5_doesHold_L18P190; rw [show fX5_pushed (enc s) 1 σ = _ from pu true]; unfold fX5_doesHold_L18P278; (try simp (disch := omega) only [↓ck_e, ↓rd_e, ↓wr_e, ↓wrB_e, ↓wrZ_e, ↓dv_e, ↓md_e, ↓fdv_e, ↓cpy_e, ↓filB_e, ↓filI_e, ↓filL_e, ↓st1_e, ↓bnd_e, ↓iT, ↓iF, ↓reduceIte, put_ne, put_T, put_F, isIn_T, isIn_F])
          · rw [iF h, show decide (V.2.2.1.2.2.2.2 c = v) = false from decide_eq_false h]
            unfold fX5_doesHold_L18P190; rw [show fX5_pushed (enc s) 0 σ = _ from pu false]; unfold fX5_doesHold_L18P278; (try simp (disch := omega) only [↓ck_e, ↓rd_e, ↓wr_e, ↓wrB_e, ↓wrZ_e, ↓dv_e, ↓md_e, ↓fdv_e, ↓cpy_e, ↓filB_e, ↓filI_e, ↓filL_e, ↓st1_e, ↓bnd_e, ↓iT, ↓iF, ↓reduceIte, put_ne, put_T, put_F, isIn_T, isIn_F])
        · rw [cc_kind R hc hc']; (try simp (disch := omega) only [↓ck_e, ↓rd_e, ↓wr_e, ↓wrB_e, ↓wrZ_e, ↓dv_e, ↓md_e, ↓fdv_e, ↓cpy_e, ↓filB_e, ↓filI_e, ↓filL_e, ↓st1_e, ↓bnd_e, ↓iT, ↓iF, ↓reduceIte, put_ne, put_T, put_F, isIn_T, isIn_F])
          by_cases h : V.2.2.1.2.2.2.1 c = v
          · rw [iT h, show decide (V.2.2.1.2.2.2.1 c = v) = true from decide_eq_true h]
            unfold fX5_doesHold_L18P215; rw [show fX5_pushed (enc s) 1 σ = _ from pu true]; unfold fX5_doesHold_L18P278; (try simp (disch := omega) only [↓ck_e, ↓rd_e, ↓wr_e, ↓wrB_e, ↓wrZ_e, ↓dv_e, ↓md_e, ↓fdv_e, ↓cpy_e, ↓filB_e, ↓filI_e, ↓filL_e, ↓st1_e, ↓bnd_e, ↓iT, ↓iF, ↓reduceIte, put_ne, put_T, put_F, isIn_T, isIn_F])
          · rw [iF h, show decide (V.2.2.1.2.2.2.1 c = v) = false from decide_eq_false h]
            unfold fX5_doesHold_L18P215; rw [show fX5_pushed (enc s) 0 σ = _ from pu false]; unfold fX5_doesHold_L18P278; (try simp (disch := omega) only [↓ck_e, ↓rd_e, ↓wr_e, ↓wrB_e, ↓wrZ_e, ↓dv_e, ↓md_e, ↓fdv_e, ↓cpy_e, ↓filB_e, ↓filI_e, ↓filL_e, ↓st1_e, ↓bnd_e, ↓iT, ↓iF, ↓reduceIte, put_ne, put_T, put_F, isIn_T, isIn_F])
    · by_cases ho8 : o = 8
      · obtain ⟨hd1, hR'⟩ := h8 ho8
        obtain ⟨a, s', rfl⟩ := len1 (s := s) hd1
        have hop : opV o (a :: s') = (!a) :: s' := by
          rw [ho8]; cases s' <;> simp [opV]
        refine fin ((!a) :: s') (fun x => by omega) (fun _ => hop.symm) ?_ ?_
        · rw [iF ho5, show 20 * r + (x8 + 1) = 20 * r + x8 + 1 by omega]; exact hR'
        · conv => lhs; unfold fX5_doesHold_L18
          (try simp (disch := omega) only [↓ck_e, ↓rd_e, ↓wr_e, ↓wrB_e, ↓wrZ_e, ↓dv_e, ↓md_e, ↓fdv_e, ↓cpy_e, ↓filB_e, ↓filI_e, ↓filL_e, ↓st1_e, ↓bnd_e, ↓iT, ↓iF, ↓reduceIte, put_ne, put_T, put_F, isIn_T, isIn_F])
          (try rw [hpos, ho8]); (try simp (disch := omega) only [↓ck_e, ↓rd_e, ↓wr_e, ↓wrB_e, ↓wrZ_e, ↓dv_e, ↓md_e, ↓fdv_e, ↓cpy_e, ↓filB_e, ↓filI_e, ↓filL_e, ↓st1_e, ↓bnd_e, ↓iT, ↓iF, ↓reduceIte, put_ne, put_T, put_F, isIn_T, isIn_F])
          unfold fX5_doesHold_L18P278; (try simp (disch := omega) only [↓ck_e, ↓rd_e, ↓wr_e, ↓wrB_e, ↓wrZ_e, ↓dv_e, ↓md_e, ↓fdv_e, ↓cpy_e, ↓filB_e, ↓filI_e, ↓filL_e, ↓st1_e, ↓bnd_e, ↓iT, ↓iF, ↓reduceIte, put_ne, put_T, put_F, isIn_T, isIn_F])
          have : bXor (enc (a :: s')) 1 = enc ((!a) :: s') := by
            rw [hb.2.2.2.2.2]
            unfold enc
            cases a
            · rw [iT (by simp [b2])]; simp [b2]
            · rw [iF (by simp [b2])]; simp [b2]
          rw [this]
      · obtain ⟨hd2, hR'⟩ := h67 (by omega)
        obtain ⟨a, b, s', rfl⟩ := len2 (s := s) hd2
        have he : enc (a :: b :: s') = 4 * enc s' + 2 * b2 b + b2 a := by
          have x1 : enc (a :: b :: s') = 2 * enc (b :: s') + b2 a := rfl
          have x2 : enc (b :: s') = 2 * enc s' + b2 b := rfl
          omega
        have hba := b2_rng a; have hbb := b2_rng b
        have hs := (enc_rng s').1
        have hs256 : enc s' < 256 := by omega
        have hd4 : enc (a :: b :: s') / 4 = enc s' := by omega
        have hm4 : enc (a :: b :: s') % 4 = 2 * b2 b + b2 a := by omega
        have pu : ∀ x, fX5_pushed (enc s') (b2 x) σ = some (enc (x :: s')) := fun x => pushed_e hs hs256 x
        by_cases ho6 : o = 6
        · refine fin ((b && a) :: s') (fun x => by omega) (fun _ => by rw [ho6]; simp [opV]) ?_ ?_
          · rw [iF ho5, show 20 * r + (x8 + 1) = 20 * r + x8 + 1 by omega]
            simp only [List.length_cons] at hR' ⊢
            rw [show (((s'.length + 1 : Nat)) : Int) = ((s'.length + 1 + 1 : Nat) : Int) - 1 by omega]; exact hR'
          · conv => lhs; unfold fX5_doesHold_L18
            (try simp (disch := omega) only [↓ck_e, ↓rd_e, ↓wr_e, ↓wrB_e, ↓wrZ_e, ↓dv_e, ↓md_e, ↓fdv_e, ↓cpy_e, ↓filB_e, ↓filI_e, ↓filL_e, ↓st1_e, ↓bnd_e, ↓iT, ↓iF, ↓reduceIte, put_ne, put_T, put_F, isIn_T, isIn_F])
            (try rw [hpos, ho6]); (try simp (disch := omega) only [↓ck_e, ↓rd_e, ↓wr_e, ↓wrB_e, ↓wrZ_e, ↓dv_e, ↓md_e, ↓fdv_e, ↓cpy_e, ↓filB_e, ↓filI_e, ↓filL_e, ↓st1_e, ↓bnd_e, ↓iT, ↓iF, ↓reduceIte, put_ne, put_T, put_F, isIn_T, isIn_F])
            rw [hb.2.2.2.1, hb.2.2.1, hd4, hm4]
            by_cases h : 2 * b2 b + b2 a = 3
            · rw [iT h]
              have : (b && a) = true := by cases a <;> cases b <;> simp [b2] at h ⊢
              rw [this]; unfold fX5_doesHold_L18P240; rw [show fX5_pushed (enc s') 1 σ = _ from pu true]; unfold fX5_doesHold_L18P278; (try simp (disch := omega) only [↓ck_e, ↓rd_e, ↓wr_e, ↓wrB_e, ↓wrZ_e, ↓dv_e, ↓md_e, ↓fdv_e, ↓cpy_e, ↓filB_e, ↓filI_e, ↓filL_e, ↓st1_e, ↓bnd_e, ↓iT, ↓iF, ↓reduceIte, put_ne, put_T, put_F, isIn_T, isIn_F])
            · rw [iF h]
              have : (b && a) = false := by cases a <;> cases b <;> simp [b2] at h ⊢
              rw [this]; unfold fX5_doesHold_L18P240; rw [show fX5_pushed (enc s') 0 σ = _ from pu false]; unfold fX5_doesHold_L18P278; (try simp (disch := omega) only [↓ck_e, ↓rd_e, ↓wr_e, ↓wrB_e, ↓wrZ_e, ↓dv_e, ↓md_e, ↓fdv_e, ↓cpy_e, ↓filB_e, ↓filI_e, ↓filL_e, ↓st1_e, ↓bnd_e, ↓iT, ↓iF, ↓reduceIte, put_ne, put_T, put_F, isIn_T, isIn_F])
        · have ho7 : o = 7 := by omega
          refine fin ((b || a) :: s') (fun x => by omega) (fun _ => by rw [ho7]; simp [opV]) ?_ ?_
          · rw [iF ho5, show 20 * r + (x8 + 1) = 20 * r + x8 + 1 by omega]
            simp only [List.length_cons] at hR' ⊢
            rw [show (((s'.length + 1 : Nat)) : Int) = ((s'.length + 1 + 1 : Nat) : Int) - 1 by omega]; exact hR'
          · conv => lhs; unfold fX5_doesHold_L18
            (try simp (disch := omega) only [↓ck_e, ↓rd_e, ↓wr_e, ↓wrB_e, ↓wrZ_e, ↓dv_e, ↓md_e, ↓fdv_e, ↓cpy_e, ↓filB_e, ↓filI_e, ↓filL_e, ↓st1_e, ↓bnd_e, ↓iT, ↓iF, ↓reduceIte, put_ne, put_T, put_F, isIn_T, isIn_F])
            (try rw [hpos, ho7]); (try simp (disch := omega) only [↓ck_e, ↓rd_e, ↓wr_e, ↓wrB_e, ↓wrZ_e, ↓dv_e, ↓md_e, ↓fdv_e, ↓cpy_e, ↓filB_e, ↓filI_e, ↓filL_e, ↓st1_e, ↓bnd_e, ↓iT, ↓iF, ↓reduceIte, put_ne, put_T, put_F, isIn_T, isIn_F])
            rw [hb.2.2.2.1, hb.2.2.1, hd4, hm4]
            by_cases h : 2 * b2 b + b2 a = 0
            · rw [iT h]
              have : (b || a) = false := by cases a <;> cases b <;> simp [b2] at h ⊢
              rw [this]; unfold fX5_doesHold_L18P264; rw [show fX5_pushed (enc s') 0 σ = _ from pu false]; unfold fX5_doesHold_L18P278; (try simp (disch := omega) only [↓ck_e, ↓rd_e, ↓wr_e, ↓wrB_e, ↓wrZ_e, ↓dv_e, ↓md_e, ↓fdv_e, ↓cpy_e, ↓filB_e, ↓filI_e, ↓filL_e, ↓st1_e, ↓bnd_e, ↓iT, ↓iF, ↓reduceIte, put_ne, put_T, put_F, isIn_T, isIn_F])
            · rw [iF h]
              have : (b || a) = true := by cases a <;> cases b <;> simp [b2] at h ⊢
              rw [this]; unfold fX5_doesHold_L18P264; rw [show fX5_pushed (enc s') 1 σ = _ from pu true]; unfold fX5_doesHold_L18P278; (try simp (disch := omega) only [↓ck_e, ↓rd_e, ↓wr_e, ↓wrB_e, ↓wrZ_e, ↓dv_e, ↓md_e, ↓fdv_e, ↓cpy_e, ↓filB_e, ↓filI_e, ↓filL_e, ↓st1_e, ↓bnd_e, ↓iT, ↓iF, ↓reduceIte, put_ne, put_T, put_F, isIn_T, isIn_F])
theorem evR_more (V : Vw) (c m : Int) (o p : Int → Int) : ∀ (t u : Nat) (k i : Int) (s : List Bool), t + 1 ≤ u → rulV V.2.2.2.2.1 o p t k i s.length → evR V c m u k s = evR V c m (t + 1) k s := by
  intro t
  induction t with
  | zero =>
    intro u k i s hu h
    obtain ⟨u, rfl⟩ : ∃ m, u = m + 1 := ⟨u - 1, by omega⟩
    unfold rulV at h
    unfold evR; rw [iT h.2.1, iT h.2.1]
  | succ t ih =>
    intro u k i s hu h
    obtain ⟨u, rfl⟩ : ∃ m, u = m + 1 := ⟨u - 1, by omega⟩
    unfold rulV at h
    obtain ⟨hki, ho, hoe, hd, h5, h8, h67⟩ := h
    conv => lhs; unfold evR
    conv => rhs; unfold evR
    have hne : ¬ V.2.2.2.2.1 k = 0 := by omega
    rw [iF hne, iF hne]
    by_cases c5 : V.2.2.2.2.1 k ≤ 5
    · rw [iT c5, iT c5]; exact ih u _ (i + 1) _ (by omega) (h5 c5).2.2.2
    · rw [iF c5, iF c5]
      by_cases c8 : V.2.2.2.2.1 k = 8
      · obtain ⟨hd1, hR'⟩ := h8 c8
        obtain ⟨a, s', rfl⟩ := len1 (s := s) hd1
        refine ih u _ (i + 1) _ (by omega) ?_
        rw [c8, show opV 8 (a :: s') = (!a) :: s' by cases s' <;> simp [opV]]; exact hR'
      · obtain ⟨hd2, hR'⟩ := h67 (by omega)
        obtain ⟨a, b, s', rfl⟩ := len2 (s := s) hd2
        refine ih u _ (i + 1) _ (by omega) ?_
        have : (opV (V.2.2.2.2.1 k) (a :: b :: s')).length = s'.length + 1 := by
          unfold opV; dsimp only; rw [iF c8]; split <;> simp
        rw [this]
        simp only [List.length_cons] at hR'
        rw [show (((s'.length + 1 : Nat)) : Int) = ((s'.length + 1 + 1 : Nat) : Int) - 1 by omega]; exact hR'
theorem cc_rule (R : RelN σ V) {r c m : Int} (hr : 0 ≤ r ∧ r < V.2.2.2.2.2.2.2.1) (hc : 0 ≤ c) (hc' : c < V.2.2.2.2.2.1) : fX5_doesHold r 19 c (fireV V c) (knownV V (fireV V c)) m σ = some (b2 (ruleV V r c m)) := by
  have hm := R.r.1
  obtain ⟨h1, h2⟩ := R.r.2 r hr.1 hr.2
  obtain ⟨q, e1, e2⟩ := cc_ruleL R (r := r) (m := m) (by omega) hc hc' h1.2 (σ 47 r).toNat fu (100 * r) 0 [] (by rw [show 20 * r + 0 = 20 * r by omega]; exact h2) (by omega) (by omega) (by unfold fu; omega)
  have e3 := evR_more V c m _ _ (σ 47 r).toNat 21 (100 * r) (20 * r) [] (by omega) h2
  unfold fX5_doesHold ruleV
  rw [e3]
  (try simp (disch := omega) only [↓ck_e, ↓rd_e, ↓wr_e, ↓wrB_e, ↓wrZ_e, ↓dv_e, ↓md_e, ↓fdv_e, ↓cpy_e, ↓filB_e, ↓filI_e, ↓filL_e, ↓st1_e, ↓bnd_e, ↓iT, ↓iF, ↓reduceIte, put_ne, put_T, put_F, isIn_T, isIn_F])
  rw [show enc [] = 0 from rfl] at e1
  rw [e1]
  simp only [bnd_e]
  rw [e2]
  cases evR V c m ((σ 47 r).toNat + 1) (100 * r) [] <;> rfl
def anyV (V : Vw) (c m : Int) : Prop := ∃ r, 0 ≤ r ∧ r < V.2.2.2.2.2.2.2.1 ∧ ruleV V r c m = true
theorem cc_any (R : RelN σ V) {c m : Int} (hc : 0 ≤ c) (hc' : c < V.2.2.2.2.2.1) : fX5_anyHolds 19 c (fireV V c) (knownV V (fireV V c)) m σ = some (bi (anyV V c m)) := by
  have hm := R.r.1
  have loop := srch (L := fun n i => fX5_anyHolds_L3 n 19 c (fireV V c) (knownV V (fireV V c)) m i σ) (lo := 0) (m := V.2.2.2.2.2.2.2.1) (P := fun r => ruleV V r c m = true) (a := some (.inl ())) (b := some (.inr ()))
    (fun n i a1 a2 a3 => by unfold fX5_anyHolds_L3; (try simp (disch := omega) only [↓ck_e, ↓rd_e, ↓wr_e, ↓wrB_e, ↓wrZ_e, ↓dv_e, ↓md_e, ↓fdv_e, ↓cpy_e, ↓filB_e, ↓filI_e, ↓filL_e, ↓st1_e, ↓bnd_e, ↓iT, ↓iF, ↓reduceIte, put_ne, put_T, put_F, isIn_T, isIn_F]); rw [cc_rule R ⟨a1, a2⟩ hc hc', a3]; rfl)
    (fun n i a1 a2 a3 => by
      have : ruleV V i c m = false := by cases h : ruleV V i c m <;> simp_all
      conv => lhs; unfold fX5_anyHolds_L3
      (try simp (disch := omega) only [↓ck_e, ↓rd_e, ↓wr_e, ↓wrB_e, ↓wrZ_e, ↓dv_e, ↓md_e, ↓fdv_e, ↓cpy_e, ↓filB_e, ↓filI_e, ↓filL_e, ↓st1_e, ↓bnd_e, ↓iT, ↓iF, ↓reduceIte, put_ne, put_T, put_F, isIn_T, isIn_F]); rw [cc_rule R ⟨a1, a2⟩ hc hc', this, show b2 false = 0 from rfl]; (try simp (disch := omega) only [↓ck_e, ↓rd_e, ↓wr_e, ↓wrB_e, ↓wrZ_e, ↓dv_e, ↓md_e, ↓fdv_e, ↓cpy_e, ↓filB_e, ↓filI_e, ↓filL_e, ↓st1_e, ↓bnd_e, ↓iT, ↓iF, ↓reduceIte, put_ne, put_T, put_F, isIn_T, isIn_F]))
    (fun n i a1 a2 => by unfold fX5_anyHolds_L3; (try simp (disch := omega) only [↓ck_e, ↓rd_e, ↓wr_e, ↓wrB_e, ↓wrZ_e, ↓dv_e, ↓md_e, ↓fdv_e, ↓cpy_e, ↓filB_e, ↓filI_e, ↓filL_e, ↓st1_e, ↓bnd_e, ↓iT, ↓iF, ↓reduceIte, put_ne, put_T, put_F, isIn_T, isIn_F])) fu 0 (by omega) (by rw [fu_i]; omega) fu_pos
  unfold fX5_anyHolds
  by_cases hh : anyV V c m
  · rw [bi_T hh, loop.1 hh]; rfl
  · rw [bi_F hh, loop.2 hh]; rfl
end

