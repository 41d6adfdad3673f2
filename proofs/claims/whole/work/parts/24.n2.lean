section
set_option linter.unusedVariables false
variable {σ τ : Sg} {V : Vw}
open Classical in
noncomputable def fstI (P : Int → Prop) : Nat → Int → Int
  | 0, _ => -1
  | n + 1, i => if P i then i else fstI P n (i + 1)
theorem fstI_cases (P : Int → Prop) : ∀ (n : Nat) (i : Int), 0 ≤ i → fstI P n i = -1 ∨ (i ≤ fstI P n i ∧ fstI P n i < i + n ∧ P (fstI P n i))
  | 0, i, _ => .inl rfl
  | n + 1, i, h => by
    unfold fstI
    by_cases c : P i
    · rw [if_pos c]; right; exact ⟨by omega, by omega, c⟩
    · rw [if_neg c]
      rcases fstI_cases P n (i + 1) (by omega) with h | ⟨h1, h2, h3⟩
      · exact .inl h
      · right; exact ⟨by omega, by omega, h3⟩
theorem frst {β : Type} {L : Nat → Int → Option β} {m : Int} {P : Int → Prop} {a : Int → Option β} {b : Option β}
    (h0 : ∀ n i, 0 ≤ i → i < m → P i → L (n + 1) i = a i) (h1 : ∀ n i, 0 ≤ i → i < m → ¬ P i → L (n + 1) i = L n (i + 1))
    (h2 : ∀ n i, 0 ≤ i → m ≤ i → L (n + 1) i = b) :
    ∀ (n : Nat) (i : Int), 0 ≤ i → m - i < (n : Int) → 0 < n → L n i = if fstI P (m - i).toNat i = -1 then b else a (fstI P (m - i).toNat i) := by
  intro n
  induction n with
  | zero => intro i _ _ h; omega
  | succ n ih =>
    intro i hi hn _
    by_cases hm : i < m
    · rw [show (m - i).toNat = (m - (i + 1)).toNat + 1 by omega]
      unfold fstI
      by_cases hp : P i
      · rw [if_pos hp, iF (by omega)]; exact h0 n i hi hm hp
      · rw [if_neg hp, h1 n i hi hm hp]; exact ih (i + 1) (by omega) (by omega) (by omega)
    · rw [h2 n i hi (by omega), show (m - i).toNat = 0 by omega]
      unfold fstI; rw [iT rfl]
def okV (V : Vw) (c w k : Int) : Prop := told V k ∧ V.col k = V.col (V.knd c) ∧ V.lift k ≤ V.lift (V.knd c) ∧ safeV V k (V.brg c) (V.ang c) w ∧ holdsV V (V.brg c) k
noncomputable def otherV (V : Vw) (c w : Int) : Int := fstI (okV V c w) 12 0
def wellV (V : Vw) (c : Int) : Prop := safeV V (V.knd c) (V.brg c) (V.ang c) (knownV V (fireV V c))
open Classical in
noncomputable def hasV (V : Vw) (c : Int) : Int := if wellV V c then V.knd c else otherV V c (knownV V (fireV V c))
open Classical in
noncomputable def fate1 (V : Vw) (c m : Int) : Int :=
  if V.brg c = -1 then 6 else if V.hlt ≠ -1 ∧ V.hlt ≤ fireV V c then 4 else if anyV V c m then 3 else if hasV V c = -1 then 2 else if V.flt c = 6 then 5 else if wellV V c then 0 else 1
noncomputable def misV (V : Vw) (F L : Int → Int) (i f : Int) : Int := sumI (fun j => bi (F (L j) = 5 ∧ V.bst (L j) ≤ f)) i.toNat 0
noncomputable def plF (V : Vw) (L : Int → Int) : Nat → (Int → Int)
  | 0 => fun _ => 0
  | i + 1 => zupd (plF V L i) (L i) (fate1 V (L i) (misV V (plF V L i) L i (fireV V (L i))))
noncomputable def fateV (V : Vw) : Int → Int := plF V (lineV V) V.n.toNat
def isSh (x : Int) : Prop := x = 0 ∨ x = 1 ∨ x = 5
def Played (V : Vw) (L F H : Int → Int) : Prop := ∀ c, 0 ≤ c → c < V.n → L c = lineV V c ∧ F c = fateV V c ∧ (isSh (F c) → H c = hasV V c)
theorem put_self {σ : Sg} {i : Nat} {k v : Int} : put σ i k v i = zupd (σ i) k v := by unfold put setA zupd; rw [if_pos rfl]
theorem brg_b (R : RelN σ V) {c : Int} (h0 : 0 ≤ c) (h1 : c < V.n) (h : V.brg c ≠ -1) : isB V (V.brg c) := by
  rcases (R.c c h0 h1).2.2.1 with x | x
  · exact absurd x h
  · exact x
theorem cc_kindToFire (R : RelV σ V) {c : Int} (h0 : 0 ≤ c) (h1 : c < V.n) (hb : V.brg c ≠ -1) : fX7_kindToFire c (knownV V (fireV V c)) σ = some (hasV V c) := by
  have hB := brg_b R.toRelN h0 h1 hb
  have e := R.c c h0 h1
  have ht := e.2.1
  have ha := e.2.2.2.1
  have hw := known_rng R.toRelN (fireV V c)
  have hwell : safeV V (V.knd c) (V.brg c) (V.ang c) (knownV V (fireV V c)) ↔ wellV V c := Iff.rfl
  generalize hW : knownV V (fireV V c) = w at hw hwell ⊢
  unfold fX7_kindToFire
  rw [cc_kind R.toRelN h0 h1]; simp only [bnd_e]
  rw [cc_barge R.toRelN h0 h1]; simp only [bnd_e]
  rw [cc_angle R.toRelN h0 h1]; simp only [bnd_e]
  rw [cc_safe R ht hB ha hw]; simp only [bnd_e]
  unfold hasV
  by_cases hs : safeV V (V.knd c) (V.brg c) (V.ang c) w
  · rw [bi_T hs, if_pos (hwell.1 hs)]; rfl
  · rw [bi_F hs, if_neg (fun x => hs (hwell.2 x)), iT rfl]
    have loop := frst (L := fun n i => (fX7_kindToFire_L61 n w (V.knd c) (V.brg c) (V.ang c) i σ).bind (Sum.elim (fun a35 => some a35) (fun a37 => some (-1)))) (m := 12) (P := okV V c w) (a := fun i => some i) (b := some (-1))
      (fun n i a1 a2 a3 => by
        unfold fX7_kindToFire_L61
        obtain ⟨b1, b2, b3, b4, b5⟩ := a3
        rw [iT a2, cc_toldT R.toRelN b1]; simp only [bnd_e]; rw [iF (by omega)]
        rw [cc_colour R.toRelN b1]; simp only [bnd_e]
        rw [cc_colour R.toRelN ht]; simp only [bnd_e]; rw [iT b2]
        rw [cc_lift R.toRelN b1]; simp only [bnd_e]
        rw [cc_lift R.toRelN ht]; simp only [bnd_e]; rw [iT b3]
        rw [cc_safe R b1 hB ha hw, bi_T b4]; simp only [bnd_e]; rw [iF (by omega)]
        rw [cc_holds R.toRelN hB b1, bi_T b5]; rfl)
      (fun n i a1 a2 a3 => by
        have fin : fX7_kindToFire_L61 (n + 1) w (V.knd c) (V.brg c) (V.ang c) i σ = fX7_kindToFire_L61 n w (V.knd c) (V.brg c) (V.ang c) (i + 1) σ := by
          have nxt : fX7_kindToFire_L61P141 (fX7_kindToFire_L61 n) w (V.knd c) (V.brg c) (V.ang c) i σ = fX7_kindToFire_L61 n w (V.knd c) (V.brg c) (V.ang c) (i + 1) σ := by
            unfold fX7_kindToFire_L61P141; rw [ck_e (by omega) (by omega)]
          conv => lhs; unfold fX7_kindToFire_L61
          rw [iT a2]
          by_cases b1 : told V i
          · rw [cc_toldT R.toRelN b1]; simp only [bnd_e]; rw [iF (by omega)]
            rw [cc_colour R.toRelN b1]; simp only [bnd_e]
            rw [cc_colour R.toRelN ht]; simp only [bnd_e]
            by_cases b2 : V.col i = V.col (V.knd c)
            · rw [iT b2]
              rw [cc_lift R.toRelN b1]; simp only [bnd_e]
              rw [cc_lift R.toRelN ht]; simp only [bnd_e]
              by_cases b3 : V.lift i ≤ V.lift (V.knd c)
              · rw [iT b3, cc_safe R b1 hB ha hw]; simp only [bnd_e]
                by_cases b4 : safeV V i (V.brg c) (V.ang c) w
                · rw [bi_T b4, iF (by omega), cc_holds R.toRelN hB b1]; simp only [bnd_e]
                  rw [bi_F (fun x => a3 ⟨b1, b2, b3, b4, x⟩), iT rfl]; exact nxt
                · rw [bi_F b4, iT rfl]; exact nxt
              · rw [iF b3]; exact nxt
            · rw [iF b2]; exact nxt
          · rw [cc_told R.toRelN, bi_F b1]; simp only [bnd_e, ↓reduceIte]; exact nxt
        rw [fin])
      (fun n i a1 a2 => by unfold fX7_kindToFire_L61; rw [iF (by omega)]; rfl) fu 0 (by omega) (by rw [fu_i]; omega) fu_pos
    rw [loop]
    unfold otherV
    rw [hW, show ((12 : Int) - 0).toNat = 12 from rfl]
    split
    · rename_i h; rw [h]
    · rfl
theorem rr_otherKind (R : RelN σ (vw τ)) {c w : Int} (h0 : 0 ≤ c) (h1 : c < τ 0 32) (hb : τ 15 c ≠ -1) (hw : 0 ≤ w ∧ w < 4) : fX12_otherKind c w τ = some (otherV (vw τ) c w) := by
  have hB := brg_b R h0 h1 hb
  have hn := R.n
  have e := R.c c h0 h1
  have ht := e.2.1
  have ha := e.2.2.2.1
  have ht1 := ht.1
  dsimp only [vw] at ht1 hn
  have stp : ∀ n i, 0 ≤ i → i < 12 → (okV (vw τ) c w i → fX12_otherKind_L2 (n + 1) c w i τ = some (.inl i)) ∧ (¬ okV (vw τ) c w i → fX12_otherKind_L2 (n + 1) c w i τ = fX12_otherKind_L2 n c w (i + 1) τ) := by
    intro n i a1 a2
    have nxt : fX12_otherKind_L2P93 (fX12_otherKind_L2 n) c w i τ = fX12_otherKind_L2 n c w (i + 1) τ := by
      unfold fX12_otherKind_L2P93; rw [ck_e (by omega) (by omega)]
    conv => enter [1, 2, 1]; unfold fX12_otherKind_L2
    conv => enter [2, 2, 1]; unfold fX12_otherKind_L2
    rw [iT a2]
    by_cases b1 : told (vw τ) i
    · rw [rr_isKind, bi_T b1]; simp only [bnd_e]; rw [iF (by omega)]
      rw [rd_e (by omega) (by omega), rd_e (by omega) (by omega), rd_e (by omega) (by omega)]
      by_cases b2 : τ 6 i = τ 6 (τ 14 c)
      · rw [iT b2]
        rw [rd_e (by omega) (by omega), rd_e (by omega) (by omega), rd_e (by omega) (by omega)]
        by_cases b3 : τ 2 i ≤ τ 2 (τ 14 c)
        · rw [iT b3, rd_e (by omega) (by omega), rr_holds R hB b1]; simp only [bnd_e]
          by_cases b5 : holdsV (vw τ) (τ 15 c) i
          · rw [bi_T b5, iF (by omega), rd_e (by omega) (by omega), rd_e (by omega) (by omega), rr_safe R b1 hB ha hw]; simp only [bnd_e]
            by_cases b4 : safeV (vw τ) i (τ 15 c) (τ 16 c) w
            · rw [bi_T b4, iF (by omega)]
              exact ⟨fun _ => rfl, fun x => absurd ⟨b1, b2, b3, b4, b5⟩ x⟩
            · rw [bi_F b4, iT rfl]; exact ⟨fun x => absurd x.2.2.2.1 b4, fun _ => nxt⟩
          · rw [bi_F b5, iT rfl]; exact ⟨fun x => absurd x.2.2.2.2 b5, fun _ => nxt⟩
        · rw [iF b3]; exact ⟨fun x => absurd x.2.2.1 b3, fun _ => nxt⟩
      · rw [iF b2]; exact ⟨fun x => absurd x.2.1 b2, fun _ => nxt⟩
    · rw [rr_isKind, bi_F b1]; simp only [bnd_e, ↓reduceIte]; exact ⟨fun x => absurd x.1 b1, fun _ => nxt⟩
  have loop := frst (L := fun n i => fX12_otherKind_L2 n c w i τ) (m := 12) (P := okV (vw τ) c w) (a := fun i => some (.inl i)) (b := some (.inr ()))
    (fun n i a1 a2 a3 => (stp n i a1 a2).1 a3) (fun n i a1 a2 a3 => (stp n i a1 a2).2 a3)
    (fun n i a1 a2 => by unfold fX12_otherKind_L2; rw [iF (by omega)]) fu 0 (by omega) (by rw [fu_i]; omega) fu_pos
  unfold fX12_otherKind
  rw [loop]
  unfold otherV
  rw [show ((12 : Int) - 0).toNat = 12 from rfl]
  split
  · rename_i h; rw [h]; rfl
  · rfl
theorem misV_cong {F F' L L' : Int → Int} {i f : Int} (h : ∀ j : Int, 0 ≤ j → j < i → L j = L' j ∧ F (L j) = F' (L' j)) : misV V F L i f = misV V F' L' i f := by
  unfold misV
  refine sumI_cong (fun j h0 h1 => ?_)
  obtain ⟨a, b⟩ := h j h0 (by omega)
  rw [b, a]
theorem misV_rng {F L : Int → Int} {i f : Int} (h : 0 ≤ i) : 0 ≤ misV V F L i f ∧ misV V F L i f ≤ i := by
  unfold misV
  have := sumI_rng (g := fun j => bi (F (L j) = 5 ∧ V.bst (L j) ≤ f)) (fun j => bi_rng) i.toNat 0
  omega
theorem cc_mis (R : RelN σ V) {i f : Int} {L : Int → Int} (hi : 0 ≤ i ∧ i ≤ 120) (H : ∀ j : Int, 0 ≤ j → j < i → σ 50 j = L j ∧ 0 ≤ L j ∧ L j < V.n) : fX7_misfiresSeen i f σ = some (misV V (σ 52) L i f) := by
  have hn := R.n
  have loop := cnt (L := fun n a j => fX7_misfiresSeen_L5 n i f a j σ) (m := i) (g := fun j => bi (σ 52 (L j) = 5 ∧ V.bst (L j) ≤ f)) (fun j => bi_rng)
    (fun n a j h0 h1 h2 h3 => by
      obtain ⟨e1, e2, e3⟩ := H j h0 h1
      conv => lhs; unfold fX7_misfiresSeen_L5
      rw [iT h1, iT (by omega), rd_e (by omega) (by omega), e1]
      have : fX7_fateOf (L j) σ = some (σ 52 (L j)) := by unfold fX7_fateOf; ev
      rw [this]; simp only [bnd_e]
      by_cases c1 : σ 52 (L j) = 5
      · rw [iT c1, cc_burst R e2 e3]; simp only [bnd_e]
        by_cases c2 : V.bst (L j) ≤ f
        · rw [iT c2, bi_T ⟨c1, c2⟩]; unfold fX7_misfiresSeen_L5P53; ev
        · rw [iF c2, bi_F (fun x => c2 x.2)]; unfold fX7_misfiresSeen_L5P53; ev; rw [show a + 0 = a by omega]
      · rw [iF c1, bi_F (fun x => c1 x.1)]; unfold fX7_misfiresSeen_L5P53; ev; rw [show a + 0 = a by omega])
    (fun n a j h0 => by unfold fX7_misfiresSeen_L5; rw [iF (by omega)])
    fu 0 0 (by omega) (by omega) (by omega) (by rw [fu_i]; omega) fu_pos
  unfold fX7_misfiresSeen misV
  rw [loop]; simp only [bnd_e]
  congr 1
  rw [show (i - 0).toNat = i.toNat by omega]; omega
end

section
set_option linter.unusedVariables false
variable {σ τ : Sg} {V : Vw}
theorem ne_of_mem {j k : Nat} {l : List Nat} (hj : j ∈ l) (hk : k ∉ l) : j ≠ k := fun h => hk (h ▸ hj)
theorem other_ne (R : RelN σ V) {c w : Int} (h : otherV V c w ≠ -1) : okV V c w (otherV V c w) := by
  unfold otherV at h ⊢
  rcases fstI_cases (okV V c w) 12 0 (by omega) with x | ⟨x1, x2, x3⟩
  · exact absurd x h
  · exact x3
theorem cc_fate (R : RelV σ V) {c m : Int} (h0 : 0 ≤ c) (h1 : c < V.n) :
    ∃ σ', fX7_reckonFate c (fireV V c) m σ = some σ' ∧ (∀ j, j ≠ 52 → j ≠ 53 → σ' j = σ j) ∧ σ' 52 = zupd (σ 52) c (fate1 V c m) ∧ (∀ d, d ≠ c → σ' 53 d = σ 53 d) ∧ (isSh (fate1 V c m) → σ' 53 c = hasV V c) := by
  have hn := R.n
  have e := R.c c h0 h1
  have hh := R.h
  have hfr := fire_rng R.toRelN h0 h1
  have R1 : ∀ v, RelV (put σ 53 c v) V := fun v => RelV_congr R (fun j hj => put_ne (ne_of_mem hj (by decide)))
  have go : ∃ σ', fX7_reckonFate c (fireV V c) m σ = some σ' ∧ (σ' = put (put σ 53 c (V.knd c)) 52 c (fate1 V c m) ∧ ¬ isSh (fate1 V c m) ∨ σ' = put (put (put σ 53 c (V.knd c)) 52 c (fate1 V c m)) 53 c (hasV V c)) := by
    unfold fX7_reckonFate
    rw [iF (by omega), iT (by omega), cc_known R.toRelN]; simp only [bnd_e]
    rw [cc_kind R.toRelN h0 h1]; simp only [bnd_e]
    rw [wr_e (by omega) (by omega), cc_barge (R1 _).toRelN h0 h1]; simp only [bnd_e]
    have tail : ¬ V.brg c = -1 → ¬ (V.hlt ≠ -1 ∧ V.hlt ≤ fireV V c) → ∃ σ', fX7_reckonFate_P84 c (fireV V c) m (knownV V (fireV V c)) (put σ 53 c (V.knd c)) = some σ' ∧ (σ' = put (put σ 53 c (V.knd c)) 52 c (fate1 V c m) ∧ ¬ isSh (fate1 V c m) ∨ σ' = put (put (put σ 53 c (V.knd c)) 52 c (fate1 V c m)) 53 c (hasV V c)) := by
      intro t1 t2
      unfold fX7_reckonFate_P84
      rw [cc_any (R1 _).toRelN h0 h1]; simp only [bnd_e]
      unfold fate1; rw [if_neg t1, if_neg t2]
      by_cases t3 : anyV V c m
      · rw [bi_T t3, iF (by omega), if_pos t3, wr_e (by omega) (by omega)]
        exact ⟨_, rfl, .inl ⟨rfl, by unfold isSh; omega⟩⟩
      · rw [bi_F t3, iT rfl, if_neg t3, cc_kindToFire (R1 _) h0 h1 t1]; simp only [bnd_e]
        by_cases t4 : hasV V c = -1
        · rw [iT t4, if_pos t4]; unfold fX7_reckonFate_P170; rw [wr_e (by omega) (by omega), wr_e (by omega) (by omega)]
          exact ⟨_, rfl, .inr rfl⟩
        · rw [iF t4, if_neg t4, rd_e (by omega) (by omega), put_ne (by decide), e.1.2.2.2.2]
          by_cases t5 : V.flt c = 6
          · rw [iT t5, if_pos t5]; unfold fX7_reckonFate_P170; rw [wr_e (by omega) (by omega), wr_e (by omega) (by omega)]
            exact ⟨_, rfl, .inr rfl⟩
          · rw [iF t5, if_neg t5, cc_kind (R1 _).toRelN h0 h1]; simp only [bnd_e]
            by_cases t6 : wellV V c
            · rw [if_pos t6, iT (by unfold hasV; rw [if_pos t6])]; unfold fX7_reckonFate_P170; rw [wr_e (by omega) (by omega), wr_e (by omega) (by omega)]
              exact ⟨_, rfl, .inr rfl⟩
            · rw [if_neg t6, iF]
              · unfold fX7_reckonFate_P170; rw [wr_e (by omega) (by omega), wr_e (by omega) (by omega)]
                exact ⟨_, rfl, .inr rfl⟩
              · intro x
                have hx : hasV V c = otherV V c (knownV V (fireV V c)) := by unfold hasV; rw [if_neg t6]
                have := other_ne R.toRelN (c := c) (w := knownV V (fireV V c)) (by rw [← hx]; exact t4)
                rw [← hx, x] at this
                exact t6 this.2.2.2.1
    by_cases t1 : V.brg c = -1
    · rw [iT t1, wr_e (by omega) (by omega)]; unfold fate1; rw [if_pos t1]
      exact ⟨_, rfl, .inl ⟨rfl, by unfold isSh; omega⟩⟩
    · rw [iF t1, put_ne (by decide), hh.1]
      by_cases t2 : V.hlt = -1
      · rw [iT t2]; exact tail t1 (fun x => x.1 t2)
      · rw [iF t2]
        by_cases t3 : fireV V c < V.hlt
        · rw [iT t3]; exact tail t1 (fun x => by omega)
        · rw [iF t3, wr_e (by omega) (by omega)]; unfold fate1; rw [if_neg t1, if_pos ⟨t2, by omega⟩]
          exact ⟨_, rfl, .inl ⟨rfl, by unfold isSh; omega⟩⟩
  obtain ⟨σ', g1, g2 | g2⟩ := go
  · obtain ⟨rfl, g3⟩ := g2
    refine ⟨_, g1, ?_, ?_, ?_, fun x => absurd x g3⟩
    · intro j a b; rw [put_ne a, put_ne b]
    · rw [put_self, put_ne (by decide)]
    · intro d hd; rw [put_ne (by decide), put_F hd]
  · subst g2
    refine ⟨_, g1, ?_, ?_, ?_, ?_⟩
    · intro j a b; rw [put_ne b, put_ne a, put_ne b]
    · rw [put_ne (by decide), put_self, put_ne (by decide)]
    · intro d hd; rw [put_F hd, put_ne (by decide), put_F hd]
    · intro _; rw [put_T rfl]
set_option maxRecDepth 10000 in
theorem cc_reckonL {σ0 : Sg} (R0 : RelV σ0 V) : ∀ (n : Nat) (σ : Sg) (i : Nat), (∀ j, j ≠ 50 → j ≠ 51 → j ≠ 52 → j ≠ 53 → σ j = σ0 j) → (∀ j : Int, 0 ≤ j → j < V.n → σ 50 j = lineV V j ∧ σ 51 j = fireV V (lineV V j)) → (i : Int) ≤ V.n → V.n - i < (n : Int) →
    (∀ j : Int, 0 ≤ j → j < i → σ 52 (lineV V j) = plF V (lineV V) i (lineV V j) ∧ (isSh (σ 52 (lineV V j)) → σ 53 (lineV V j) = hasV V (lineV V j))) →
    ∃ σ', fX7_reckon_L6 n i σ = some σ' ∧ (∀ j, j ≠ 50 → j ≠ 51 → j ≠ 52 → j ≠ 53 → σ' j = σ0 j) ∧ (∀ j : Int, 0 ≤ j → j < V.n → σ' 50 j = lineV V j) ∧ (∀ j : Int, 0 ≤ j → j < V.n → σ' 52 (lineV V j) = fateV V (lineV V j) ∧ (isSh (σ' 52 (lineV V j)) → σ' 53 (lineV V j) = hasV V (lineV V j))) := by
  have hn0 := R0.n
  intro n
  induction n with
  | zero => intro σ i _ _ _ h; omega
  | succ n ih =>
    intro σ i hE hS hi hfu H
    have R : RelV σ V := RelV_congr R0 (fun j hj => hE j (ne_of_mem hj (by decide)) (ne_of_mem hj (by decide)) (ne_of_mem hj (by decide)) (ne_of_mem hj (by decide)))
    have hn := R.n
    have lr : ∀ j : Int, 0 ≤ j → j < V.n → 0 ≤ lineV V j ∧ lineV V j < V.n := fun j h0 h1 => by
      have := srtF_rng (fireV V) V.n.toNat j h0 (by omega)
      unfold lineV; omega
    unfold fX7_reckon_L6
    by_cases h : (i : Int) < V.n
    · obtain ⟨s1, s2⟩ := hS i (by omega) h
      obtain ⟨r1, r2⟩ := lr i (by omega) h
      rw [iT (by omega), iT (by omega), rd_e (by omega) (by omega), rd_e (by omega) (by omega), rd_e (by omega) (by omega), s1, s2]
      rw [cc_mis R.toRelN (L := lineV V) (by omega) (fun j a b => ⟨(hS j a (by omega)).1, lr j a (by omega)⟩)]
      simp only [bnd_e]
      obtain ⟨σ1, b1, b2, b3, b4, b5⟩ := cc_fate R (c := lineV V i) (m := misV V (σ 52) (lineV V) i (fireV V (lineV V i))) r1 r2
      rw [b1]; simp only [bnd_e]
      rw [ck_e (by omega) (by omega)]
      refine ih σ1 (i + 1) ?_ ?_ (by omega) (by omega) ?_
      · intro j j1 j2 j3 j4; rw [b2 j j3 j4, hE j j1 j2 j3 j4]
      · rw [b2 50 (by decide) (by decide), b2 51 (by decide) (by decide)]; exact hS
      · have hm : misV V (σ 52) (lineV V) i (fireV V (lineV V i)) = misV V (plF V (lineV V) i) (lineV V) i (fireV V (lineV V i)) := misV_cong (fun j a b => ⟨rfl, (H j a b).1⟩)
        intro j h0 h1
        rw [b3]
        unfold plF
        rw [← hm]
        by_cases e : lineV V j = lineV V i
        · rw [zupd_T e, zupd_T e]
          refine ⟨rfl, fun x => ?_⟩
          rw [e]; exact b5 x
        · rw [zupd_F e, zupd_F e, b4 _ e]
          exact H j h0 (by
            by_cases e2 : j = i
            · exact absurd (by rw [e2]) e
            · omega)
    · rw [iF (by omega)]
      have hin : i = V.n.toNat := by omega
      refine ⟨σ, rfl, hE, fun j a b => (hS j a b).1, ?_⟩
      unfold fateV; rw [← hin]
      intro j a b; exact H j a (by omega)
theorem line_sur (R : RelN σ V) {c : Int} (h0 : 0 ≤ c) (h1 : c < V.n) : ∃ j : Int, 0 ≤ j ∧ j < V.n ∧ lineV V j = c := by
  obtain ⟨j, a, b, d⟩ := srtF_sur (fireV V) V.n.toNat c h0 (by omega)
  exact ⟨j, a, by omega, d⟩
theorem cc_reckon (R : RelV σ V) : ∃ σ', fX7_reckon σ = some σ' ∧ (∀ j, j ≠ 50 → j ≠ 51 → j ≠ 52 → j ≠ 53 → σ' j = σ j) ∧ Played V (σ' 50) (σ' 52) (σ' 53) := by
  have hn := R.n
  obtain ⟨σ1, a1, a2, a3⟩ := cc_sort R.toRelN
  obtain ⟨σ2, b1, b2, b3, b4⟩ := cc_reckonL R fu σ1 0 (fun j j1 j2 _ _ => a2 j j1 j2) a3 (by omega) (by rw [fu_i]; omega) (fun j h0 h1 => by omega)
  refine ⟨σ2, ?_, b2, ?_⟩
  · unfold fX7_reckon; rw [a1]; simp only [bnd_e]
    rw [show ((0 : Nat) : Int) = 0 from rfl] at b1
    rw [b1]; rfl
  · intro c h0 h1
    obtain ⟨j, j0, j1, rfl⟩ := line_sur R.toRelN h0 h1
    exact ⟨b3 _ h0 h1, b4 j j0 j1⟩
-- the reference
theorem rr_mis (R : RelN σ V) (hV : vw τ = V) {c i : Int} {L : Int → Int} (h0 : 0 ≤ c) (h1 : c < V.n) (hi : 0 ≤ i ∧ i ≤ 120) (H : ∀ j : Int, 0 ≤ j → j < i → τ 40 j = L j ∧ 0 ≤ L j ∧ L j < V.n) : fX12_fateOf_L38 fu c i 0 0 τ = some (misV V (τ 41) L i (fireV V c)) := by
  have hn := R.n
  have R' : RelN σ (vw τ) := by rw [hV]; exact R
  have e32 : τ 0 32 = V.n := by rw [← hV]
  have e13 : τ 13 = V.bst := by rw [← hV]
  have hf : fX12_fire c τ = some (fireV V c) := by rw [rr_fire R' h0 (by omega)]; unfold fireV; rw [← hV]
  have loop := cnt (L := fun n a j => fX12_fateOf_L38 n c i a j τ) (m := i) (g := fun j => bi (τ 41 (L j) = 5 ∧ V.bst (L j) ≤ fireV V c)) (fun j => bi_rng)
    (fun n a j a0 a1 a2 a3 => by
      obtain ⟨e1, e2, e3⟩ := H j a0 a1
      conv => lhs; unfold fX12_fateOf_L38
      rw [iT a1, rd_e (by omega) (by omega), e1, rd_e (by omega) (by omega)]
      by_cases c1 : τ 41 (L j) = 5
      · rw [iT c1, rd_e (by omega) (by omega), e1, rd_e (by omega) (by omega), hf, e13]; simp only [bnd_e]
        by_cases c2 : V.bst (L j) ≤ fireV V c
        · rw [iT c2, bi_T ⟨c1, c2⟩]; unfold fX12_fateOf_L38P86; ev
        · rw [iF c2, bi_F (fun x => c2 x.2)]; unfold fX12_fateOf_L38P85 fX12_fateOf_L38P86; ev
      · rw [iF c1, bi_F (fun x => c1 x.1)]; unfold fX12_fateOf_L38P85 fX12_fateOf_L38P86; ev)
    (fun n a j a0 => by unfold fX12_fateOf_L38; rw [iF (by omega)])
    fu 0 0 (by omega) (by omega) (by omega) (by rw [fu_i]; omega) fu_pos
  rw [loop]
  unfold misV
  congr 1
  rw [show (i - 0).toNat = i.toNat by omega]; omega
theorem vw_39 {τ τ' : Sg} (h : ∀ j, j ≠ 39 → τ' j = τ j) : vw τ' = vw τ :=
  vw_congr (fun j hj => h j (ne_of_mem hj (by decide))) (by rw [h 0 (by decide)]) (by rw [h 0 (by decide)]) (by rw [h 0 (by decide)]) (by rw [h 0 (by decide)])
theorem rr_fate (R : RelN σ V) (hV : vw τ = V) {c i : Int} {L : Int → Int} (h0 : 0 ≤ c) (h1 : c < V.n) (hi : 0 ≤ i ∧ i ≤ 120) (H : ∀ j : Int, 0 ≤ j → j < i → τ 40 j = L j ∧ 0 ≤ L j ∧ L j < V.n) (hk : τ 42 c = V.knd c) :
    ∃ τ', fX12_fateOf c i τ = some (fate1 V c (misV V (τ 41) L i (fireV V c)), τ') ∧ (∀ j, j ≠ 39 → j ≠ 42 → τ' j = τ j) ∧ (∀ d, d ≠ c → τ' 42 d = τ 42 d) ∧ (isSh (fate1 V c (misV V (τ 41) L i (fireV V c))) → τ' 42 c = hasV V c) := by
  have hn := R.n
  have hh := R.h
  have e := R.c c h0 h1
  have ht := e.2.1
  have R' : RelN σ (vw τ) := by rw [hV]; exact R
  have e32 : τ 0 32 = V.n := by rw [← hV]
  have e35 : τ 0 35 = V.hlt := by rw [← hV]
  have e15 : τ 15 = V.brg := by rw [← hV]
  have hf : fX12_fire c τ = some (fireV V c) := by rw [rr_fire R' h0 (by omega)]; unfold fireV; rw [← hV]
  have hm := rr_mis R hV h0 h1 hi H
  obtain ⟨m, hmm⟩ : ∃ m, m = misV V (τ 41) L i (fireV V c) := ⟨_, rfl⟩
  rw [← hmm] at hm ⊢
  unfold fX12_fateOf
  rw [rd_e (by omega) (by omega), e15]
  by_cases t1 : V.brg c = -1
  · rw [iT (by omega)]
    refine ⟨τ, ?_, fun _ _ _ => rfl, fun _ _ => rfl, ?_⟩
    · unfold fate1; rw [if_pos t1]
    · unfold fate1; rw [if_pos t1]; unfold isSh; omega
  · have hB := brg_b R h0 h1 t1
    have hB1 := hB.1
    rw [iF (by omega)]
    have tail : ¬ (V.hlt ≠ -1 ∧ V.hlt ≤ fireV V c) → ∃ τ', fX12_fateOf_P33 c i τ = some (fate1 V c m, τ') ∧ (∀ j, j ≠ 39 → j ≠ 42 → τ' j = τ j) ∧ (∀ d, d ≠ c → τ' 42 d = τ 42 d) ∧ (isSh (fate1 V c m) → τ' 42 c = hasV V c) := by
      intro t2
      unfold fX12_fateOf_P33
      rw [hm]; simp only [bnd_e]
      obtain ⟨τ1, a1, a2⟩ := rr_any R (m := m) h0 h1 fu τ 0 hV (by omega) (by have := R.r.1; rw [fu_i]; omega) fu_pos
      rw [a2]; simp only [bnd_e]
      unfold fate1; rw [if_neg t1, if_neg t2]
      by_cases t3 : anyV V c m
      · rw [if_pos (show ∃ r, 0 ≤ r ∧ r < V.nh ∧ ruleV V r c m = true from t3), if_pos t3]
        exact ⟨τ1, rfl, fun j j1 _ => a1 j j1, fun d _ => by rw [a1 42 (by decide)], by unfold isSh; omega⟩
      · rw [if_neg (show ¬ ∃ r, 0 ≤ r ∧ r < V.nh ∧ ruleV V r c m = true from t3), if_neg t3]
        have hV1 : vw τ1 = V := by rw [vw_39 a1, hV]
        have R1 : RelN σ (vw τ1) := by rw [hV1]; exact R
        have f32 : τ1 0 32 = V.n := by rw [← hV1]
        have f14 : τ1 14 = V.knd := by rw [← hV1]
        have f15 : τ1 15 = V.brg := by rw [← hV1]
        have f16 : τ1 16 = V.ang := by rw [← hV1]
        have f17 : τ1 17 = V.flt := by rw [← hV1]
        have hf1 : fX12_fire c τ1 = some (fireV V c) := by rw [rr_fire R1 h0 (by omega)]; unfold fireV; rw [← hV1]
        have hk1 : τ1 42 c = V.knd c := by rw [a1 42 (by decide)]; exact hk
        simp only [Sum.elim_inr]
        rw [hf1]; simp only [bnd_e]
        rw [rr_known R1, hV1]; simp only [bnd_e]
        rw [rd_e (by omega) (by omega), rd_e (by omega) (by omega), rd_e (by omega) (by omega), f14, f15, f16]
        have hsafe := rr_safe R1 (k := V.knd c) (s := V.brg c) (a := V.ang c) (w := knownV V (fireV V c)) (by rw [hV1]; exact ht) (by rw [hV1]; exact hB) e.2.2.2.1 (known_rng R _)
        rw [hV1] at hsafe
        have hsafe' : fX12_isSafe (V.knd c) (V.brg c) (V.ang c) (knownV V (fireV V c)) τ1 = some (bi (wellV V c)) := hsafe
        rw [hsafe']; simp only [bnd_e]
        by_cases t6 : wellV V c
        · have hx : hasV V c = V.knd c := by unfold hasV; rw [if_pos t6]
          have htk := ht.1
          rw [bi_T t6, iF (by omega), hx, if_neg (by omega), if_pos t6]
          unfold fX12_fateOf_P180
          rw [rd_e (by omega) (by omega), hk1, iF (by omega), rd_e (by omega) (by omega), f17]
          refine ⟨τ1, ?_, fun j j1 _ => a1 j j1, fun d _ => by rw [a1 42 (by decide)], fun _ => hk1⟩
          by_cases t5 : V.flt c = 6
          · rw [iT t5, if_pos t5]
          · rw [iF t5, if_neg t5, iF (by omega)]
        · have hx : hasV V c = otherV V c (knownV V (fireV V c)) := by unfold hasV; rw [if_neg t6]
          have hoth := rr_otherKind R1 (c := c) (w := knownV V (fireV V c)) h0 (by omega) (by rw [f15]; exact t1) (known_rng R _)
          rw [hV1] at hoth
          rw [bi_F t6, iT rfl, hoth]; simp only [bnd_e]
          rw [wr_e (by omega) (by omega), if_neg t6, hx]
          unfold fX12_fateOf_P180
          rw [rd_e (by omega) (by omega), put_T rfl]
          by_cases t4 : otherV V c (knownV V (fireV V c)) = -1
          · rw [iT (by omega), if_pos t4, rd_e (by omega) (by omega), wr_e (by omega) (by omega)]
            exact ⟨_, rfl, fun j j1 j2 => by rw [put_ne j2, put_ne j2, a1 j j1], fun d hd => by rw [put_F hd, put_F hd, a1 42 (by decide)], by unfold isSh; omega⟩
          · have := (other_ne R t4).1.1
            rw [iF (by omega), if_neg t4, rd_e (by omega) (by omega), put_ne (by decide), f17]
            refine ⟨put τ1 42 c (otherV V c (knownV V (fireV V c))), ?_, fun j j1 j2 => by rw [put_ne j2, a1 j j1], fun d hd => by rw [put_F hd, a1 42 (by decide)], fun _ => put_T rfl⟩
            by_cases t5 : V.flt c = 6
            · rw [iT t5, if_pos t5]
            · rw [iF t5, if_neg t5, iT rfl]
    rw [e35]
    by_cases t2 : V.hlt < 0
    · rw [iT t2]; exact tail (fun x => x.1 (by omega))
    · rw [iF t2, hf]; simp only [bnd_e]
      by_cases t3 : fireV V c < V.hlt
      · rw [iT t3]; exact tail (fun x => by omega)
      · rw [iF t3]
        refine ⟨τ, ?_, fun _ _ _ => rfl, fun _ _ => rfl, ?_⟩
        · unfold fate1; rw [if_neg t1, if_pos ⟨by omega, by omega⟩]
        · unfold fate1; rw [if_neg t1, if_pos ⟨by omega, by omega⟩]; unfold isSh; omega
theorem rr_playsL (R : RelN σ V) {τ0 : Sg} (hV0 : vw τ0 = V) : ∀ (n : Nat) (τ : Sg) (i : Nat), (∀ j, j ≠ 39 → j ≠ 41 → j ≠ 42 → τ j = τ0 j) → (∀ j : Int, 0 ≤ j → j < V.n → τ 40 j = lineV V j) → (i : Int) ≤ V.n → V.n - i < (n : Int) →
    (∀ j : Int, 0 ≤ j → j < i → τ 41 (lineV V j) = plF V (lineV V) i (lineV V j) ∧ (isSh (τ 41 (lineV V j)) → τ 42 (lineV V j) = hasV V (lineV V j))) →
    ∃ τ', fX12_plays_L84 n i τ = some τ' ∧ (∀ j, j ≠ 39 → j ≠ 41 → j ≠ 42 → τ' j = τ0 j) ∧ (∀ j : Int, 0 ≤ j → j < V.n → τ' 41 (lineV V j) = fateV V (lineV V j) ∧ (isSh (τ' 41 (lineV V j)) → τ' 42 (lineV V j) = hasV V (lineV V j))) := by
  have hn := R.n
  have fr : ∀ τ' : Sg, (∀ j, j ≠ 39 → j ≠ 41 → j ≠ 42 → τ' j = τ0 j) → vw τ' = V := fun τ' h => by
    rw [← hV0]
    exact vw_congr (fun j hj => h j (ne_of_mem hj (by decide)) (ne_of_mem hj (by decide)) (ne_of_mem hj (by decide))) (by rw [h 0 (by decide) (by decide) (by decide)]) (by rw [h 0 (by decide) (by decide) (by decide)]) (by rw [h 0 (by decide) (by decide) (by decide)]) (by rw [h 0 (by decide) (by decide) (by decide)])
  have lr : ∀ j : Int, 0 ≤ j → j < V.n → 0 ≤ lineV V j ∧ lineV V j < V.n := fun j h0 h1 => by
    have := srtF_rng (fireV V) V.n.toNat j h0 (by omega)
    unfold lineV; omega
  intro n
  induction n with
  | zero => intro τ i _ _ _ h; omega
  | succ n ih =>
    intro τ i hE hS hi hfu H
    have hV := fr τ hE
    have e32 : τ 0 32 = V.n := by rw [← hV]
    have e14 : τ 14 = V.knd := by rw [← hV]
    unfold fX12_plays_L84
    by_cases h : (i : Int) < V.n
    · have s1 := hS i (by omega) h
      obtain ⟨r1, r2⟩ := lr i (by omega) h
      rw [iT (by omega), rd_e (by omega) (by omega), s1, rd_e (by omega) (by omega), e14, wr_e (by omega) (by omega)]
      have hE1 : ∀ j, j ≠ 39 → j ≠ 41 → j ≠ 42 → (put τ 42 (lineV V i) (V.knd (lineV V i))) j = τ0 j := fun j j1 j2 j3 => by rw [put_ne j3, hE j j1 j2 j3]
      obtain ⟨τ1, b1, b2, b3, b4⟩ := rr_fate R (fr _ hE1) (c := lineV V i) (i := i) (L := lineV V) r1 r2 (by omega) (fun j a b => by
        rw [put_ne (by decide)]; exact ⟨hS j a (by omega), lr j a (by omega)⟩) (put_T rfl)
      rw [put_ne (by decide : (41 : Nat) ≠ 42)] at b1 b4
      rw [b1]; simp only [bnd_e]
      rw [wr_e (by omega) (by omega), ck_e (by omega) (by omega)]
      refine ih _ (i + 1) ?_ ?_ (by omega) (by omega) ?_
      · intro j j1 j2 j3; rw [put_ne j2, b2 j j1 j3, hE1 j j1 j2 j3]
      · rw [put_ne (by decide), b2 40 (by decide) (by decide), put_ne (by decide)]; exact hS
      · have hm : misV V (τ 41) (lineV V) i (fireV V (lineV V i)) = misV V (plF V (lineV V) i) (lineV V) i (fireV V (lineV V i)) := misV_cong (fun j a b => ⟨rfl, (H j a b).1⟩)
        intro j h0 h1
        rw [put_self, put_ne (by decide), b2 41 (by decide) (by decide), put_ne (by decide)]
        unfold plF
        rw [← hm]
        by_cases e : lineV V j = lineV V i
        · rw [zupd_T e, zupd_T e]
          refine ⟨rfl, fun x => ?_⟩
          rw [e]; exact b4 x
        · rw [zupd_F e, zupd_F e, b3 _ e, put_F e]
          exact H j h0 (by
            by_cases e2 : j = i
            · exact absurd (by rw [e2]) e
            · omega)
    · rw [iF (by omega)]
      have hin : i = V.n.toNat := by omega
      refine ⟨τ, rfl, hE, ?_⟩
      unfold fateV; rw [← hin]
      intro j a b; exact H j a (by omega)
def playInv (τ : Sg) : Prop := τ 0 54 = 0 ∨ (τ 0 54 = 1 ∧ Played (vw τ) (τ 40) (τ 41) (τ 42))
theorem rr_plays (R : RelN σ (vw τ)) (hP : playInv τ) : ∃ τ', fX12_plays τ = some τ' ∧ (∀ j, j ≠ 0 → j ≠ 39 → j ≠ 40 → j ≠ 41 → j ≠ 42 → τ' j = τ j) ∧ (∀ p, p ≠ 54 → τ' 0 p = τ 0 p) ∧ τ' 0 54 = 1 ∧ Played (vw τ) (τ' 40) (τ' 41) (τ' 42) := by
  have hn := R.n
  rcases hP with h | ⟨h1, h2⟩
  · unfold fX12_plays
    rw [iT h, st1_e]
    have hV1 : vw (put τ 0 54 1) = vw τ := rfl
    obtain ⟨τ1, a1, a2, a3⟩ := rr_sortL R (τ0 := put τ 0 54 1) fu (put τ 0 54 1) 0 hV1 (fun _ _ => rfl) (by omega) (by rw [fu_i]; omega) (fun j h0 h1 => by omega)
    have hV2 : vw τ1 = vw τ := by
      rw [← hV1]
      exact vw_congr (fun j hj => a2 j (ne_of_mem hj (by decide))) (by rw [a2 0 (by decide)]) (by rw [a2 0 (by decide)]) (by rw [a2 0 (by decide)]) (by rw [a2 0 (by decide)])
    obtain ⟨τ2, b1, b2, b3⟩ := rr_playsL R (τ0 := τ1) hV2 fu τ1 0 (fun _ _ _ _ => rfl) a3 (by omega) (by rw [fu_i]; omega) (fun j h0 h1 => by omega)
    refine ⟨τ2, ?_, ?_, ?_, ?_, ?_⟩
    · rw [show ((0 : Nat) : Int) = 0 from rfl] at a1 b1
      rw [a1]; simp only [bnd_e]; rw [b1]; rfl
    · intro j j0 j1 j2 j3 j4; rw [b2 j j1 j3 j4, a2 j j2, put_ne j0]
    · intro p hp; rw [b2 0 (by decide) (by decide) (by decide), a2 0 (by decide), put_F hp]
    · rw [b2 0 (by decide) (by decide) (by decide), a2 0 (by decide), put_T rfl]
    · intro c h0 h1
      obtain ⟨j, j0, j1, rfl⟩ := line_sur R h0 h1
      refine ⟨?_, b3 j j0 j1⟩
      rw [b2 40 (by decide) (by decide) (by decide)]; exact a3 _ h0 h1
  · unfold fX12_plays
    rw [iF (by omega)]
    exact ⟨τ, rfl, fun _ _ _ _ _ _ => rfl, fun _ _ => rfl, h1, h2⟩
end

section
set_option linter.unusedVariables false
variable {σ τ : Sg} {V : Vw} {N : Int}
theorem one0 : ((1 : Int) = 0) = False := eq_false (by decide)
theorem two0 : ((2 : Int) = 0) = False := eq_false (by decide)
macro "bb" : tactic => `(tactic| try simp only [bnd_e, one0, two0, if_false, ↓reduceIte])
macro "pu" : tactic => `(tactic| simp (disch := decide) only [put_ne, put_at, vw])
/-- the bursts seen: the class has them by their ticks, the reference as told -/
structure RelS (m : Int) (t c : Int → Int) (m' : Int) (t' c' : Int → Int) : Prop where
  n : m = m' ∧ 0 ≤ m' ∧ m' ≤ 60
  r : ∀ i, 0 ≤ i → i < m' → (0 ≤ t' i ∧ t' i ≤ 20010) ∧ (1 ≤ c' i ∧ c' i ≤ 9)
  s : ∀ i j, 0 ≤ i → i < j → j < m' → t i ≤ t j
  p : ∃ π ρ : Int → Int, (∀ i, 0 ≤ i → i < m' → (0 ≤ π i ∧ π i < m') ∧ ρ (π i) = i ∧ t i = t' (π i) ∧ c i = c' (π i)) ∧ (∀ i, 0 ≤ i → i < m' → (0 ≤ ρ i ∧ ρ i < m') ∧ π (ρ i) = i)
/-- a tape: the class's sort, length, row, kept cues; the reference's sort, size, elements, shows -/
structure RelT (d : Int) (so le : Int) (row : Int → Int) (n : Int) (b k s a : Int → Int) (so' si' : Int) (el sh : Int → Int) : Prop where
  so : so = so' ∧ 0 ≤ so' ∧ so' ≤ 5
  row : ∀ i, 0 ≤ i → i < 100 → row i = el (100 * d + i)
  le : 1 ≤ so' → so' ≤ 4 → le = si' ∧ 0 ≤ si' ∧ si' ≤ 100
  by' : so' = 1 → ∀ i, 0 ≤ i → i < 100 → -128 ≤ el (100 * d + i) ∧ el (100 * d + i) ≤ 127
  n : so' = 5 → n = si' ∧ 0 ≤ si' ∧ si' ≤ 120
  c : so' = 5 → ∀ c, 0 ≤ c → c < si' → (b c = sh (480 * d + 4 * c) ∧ k c = sh (480 * d + 4 * c + 1) ∧ s c = sh (480 * d + 4 * c + 2) ∧ a c = sh (480 * d + 4 * c + 3)) ∧ (0 ≤ b c ∧ b c ≤ 20000) ∧ (0 ≤ k c ∧ k c < 12) ∧ (-1 ≤ s c ∧ s c < 6) ∧ (-4 ≤ a c ∧ a c ≤ 4)
@[reducible] def RelTd (σ τ : Sg) (d : Int) : Prop := RelT d (σ (tpO d) 0) (σ (tpO d) 1) (σ (tpO d + 1)) (σ (tpO d + 2) 4) (σ (tpO d + 3)) (σ (tpO d + 4)) (σ (tpO d + 5)) (σ (tpO d + 6)) (τ 28 d) (τ 29 d) (τ 31) (τ 30)
structure Rel (N : Int) (σ τ : Sg) : Prop where
  v : RelV σ (vw τ)
  gap : σ 0 9 = τ 0 31 ∧ 0 ≤ τ 0 31 ∧ τ 0 31 ≤ 20
  ref : σ 0 10 = τ 0 37 ∧ 0 ≤ τ 0 37 ∧ τ 0 37 ≤ N
  seen : RelS (σ 54 6) (σ 55) (σ 56) (τ 0 36) (τ 26) (τ 27)
  tape : ∀ d, 0 ≤ d → d < 6 → RelTd σ τ d
  play : playInv τ
theorem Rel.mono {N M : Int} (R : Rel N σ τ) (h : N ≤ M) : Rel M σ τ := { R with ref := ⟨R.ref.1, R.ref.2.1, by have := R.ref.2.2; omega⟩ }
theorem Rel.up (R : Rel N σ τ) : Rel (N + 1) σ τ := R.mono (by omega)
theorem tpO_ge {d : Int} : 59 ≤ tpO d := by unfold tpO; omega
theorem tpO_le {d : Int} (h : d < 6) : tpO d ≤ 94 := by unfold tpO; omega
/-- what is scratch may be anything -/
theorem Rel_scr {σ' τ' : Sg} (R : Rel N σ τ) (hσ : ∀ j, ¬ (24 ≤ j ∧ j ≤ 39) → ¬ (50 ≤ j ∧ j ≤ 53) → j ≠ 57 → σ' j = σ j)
    (hτ : ∀ j, j ≠ 0 → ¬ (18 ≤ j ∧ j ≤ 21) → ¬ (32 ≤ j ∧ j ≤ 44) → τ' j = τ j) (h0 : ∀ p, 31 ≤ p → p ≤ 37 → τ' 0 p = τ 0 p) (hp : playInv τ') : Rel N σ' τ' := by
  have hv : vw τ' = vw τ := vw_congr (fun j hj => by
    refine hτ j ?_ ?_ ?_ <;> (simp only [List.mem_cons, List.not_mem_nil, or_false] at hj; omega)) (h0 _ (by omega) (by omega)) (h0 _ (by omega) (by omega)) (h0 _ (by omega) (by omega)) (h0 _ (by omega) (by omega))
  constructor
  · rw [hv]; exact RelV_congr R.v (fun j hj => by
      refine hσ j ?_ ?_ ?_ <;> (simp only [List.mem_cons, List.not_mem_nil, or_false] at hj; omega))
  · rw [hσ 0 (by omega) (by omega) (by omega), h0 31 (by omega) (by omega)]; exact R.gap
  · rw [hσ 0 (by omega) (by omega) (by omega), h0 37 (by omega) (by omega)]; exact R.ref
  · rw [hσ 54 (by omega) (by omega) (by omega), hσ 55 (by omega) (by omega) (by omega), hσ 56 (by omega) (by omega) (by omega), h0 36 (by omega) (by omega), hτ 26 (by omega) (by omega) (by omega), hτ 27 (by omega) (by omega) (by omega)]; exact R.seen
  · intro d h1 h2
    have := tpO_ge (d := d)
    unfold RelTd
    rw [hσ (tpO d) (by omega) (by omega) (by omega), hσ (tpO d + 1) (by omega) (by omega) (by omega), hσ (tpO d + 2) (by omega) (by omega) (by omega), hσ (tpO d + 3) (by omega) (by omega) (by omega), hσ (tpO d + 4) (by omega) (by omega) (by omega), hσ (tpO d + 5) (by omega) (by omega) (by omega), hσ (tpO d + 6) (by omega) (by omega) (by omega), hτ 28 (by omega) (by omega) (by omega), hτ 29 (by omega) (by omega) (by omega), hτ 30 (by omega) (by omega) (by omega), hτ 31 (by omega) (by omega) (by omega)]
    exact R.tape d h1 h2
  · exact hp
/-- a new view, all else as it was -/
theorem Rel_view {σ' τ' : Sg} (R : Rel N σ τ) (hv : RelV σ' (vw τ')) (hσ : ∀ j, 54 ≤ j → σ' j = σ j) (h9 : σ' 0 9 = σ 0 9) (h10 : σ' 0 10 = σ 0 10)
    (hτ : ∀ j, 26 ≤ j → j ≤ 31 → τ' j = τ j) (h31 : τ' 0 31 = τ 0 31) (h36 : τ' 0 36 = τ 0 36) (h37 : τ' 0 37 = τ 0 37) (hp : playInv τ') : Rel N σ' τ' := by
  constructor
  · exact hv
  · rw [h9, h31]; exact R.gap
  · rw [h10, h37]; exact R.ref
  · rw [hσ 54 (by omega), hσ 55 (by omega), hσ 56 (by omega), h36, hτ 26 (by omega) (by omega), hτ 27 (by omega) (by omega)]; exact R.seen
  · intro d h1 h2
    have := tpO_ge (d := d)
    unfold RelTd
    rw [hσ (tpO d) (by omega), hσ (tpO d + 1) (by omega), hσ (tpO d + 2) (by omega), hσ (tpO d + 3) (by omega), hσ (tpO d + 4) (by omega), hσ (tpO d + 5) (by omega), hσ (tpO d + 6) (by omega), hτ 28 (by omega) (by omega), hτ 29 (by omega) (by omega), hτ 30 (by omega) (by omega), hτ 31 (by omega) (by omega)]
    exact R.tape d h1 h2
  · exact hp
theorem tape_congr {σ' τ' : Sg} (H : ∀ d, 0 ≤ d → d < 6 → RelTd σ τ d) (hσ : ∀ j, 59 ≤ j → σ' j = σ j) (hτ : ∀ j, 28 ≤ j → j ≤ 31 → τ' j = τ j) : ∀ d, 0 ≤ d → d < 6 → RelTd σ' τ' d := by
  intro d h1 h2
  have := tpO_ge (d := d)
  unfold RelTd
  rw [hσ (tpO d) (by omega), hσ (tpO d + 1) (by omega), hσ (tpO d + 2) (by omega), hσ (tpO d + 3) (by omega), hσ (tpO d + 4) (by omega), hσ (tpO d + 5) (by omega), hσ (tpO d + 6) (by omega), hτ 28 (by omega) (by omega), hτ 29 (by omega) (by omega), hτ 30 (by omega) (by omega), hτ 31 (by omega) (by omega)]
  exact H d h1 h2
theorem Rel_54 (R : Rel N σ τ) : Rel N σ (put τ 0 54 0) := by
  refine Rel_scr R (fun _ _ _ _ => rfl) (fun j h _ _ => put_ne h) (fun p h1 h2 => put_F (by omega)) (.inl (put_T rfl))
/-- what a method owes -/
def Mt (f g : Sg → Option (Int × Sg)) : Prop := ∀ N σ τ, Rel N σ τ → N ≤ 1000000 → ∃ v σ' τ', f σ = some (v, σ') ∧ g τ = some (v, τ') ∧ Rel (N + 1) σ' τ'
def Mp (f g : Sg → Option Int) : Prop := ∀ N σ τ, Rel N σ τ → ∃ v, f σ = some v ∧ g τ = some v
theorem no_54 {f : Int} (R : Rel N σ τ) : ∃ v σ' τ', some (f, σ) = some (v, σ') ∧ some (f, put τ 0 54 0) = some (v, τ') ∧ Rel (N + 1) σ' τ' := ⟨f, σ, _, rfl, rfl, (Rel_54 R).up⟩
theorem no_ch {f : Int} (R : Rel N σ τ) : ∃ v σ' τ', some (f, σ) = some (v, σ') ∧ some (f, τ) = some (v, τ') ∧ Rel (N + 1) σ' τ' := ⟨f, σ, _, rfl, rfl, R.up⟩
theorem m_apart (g : Int) : Mt (fX11_apart g) (fX12_apart g) := by
  intro N σ τ R hN
  unfold fX11_apart fX12_apart
  by_cases h : 0 ≤ g ∧ g ≤ 20
  · ev
    rw [R.gap.1]
    refine ⟨_, _, _, rfl, rfl, ?_⟩
    exact Rel.up { v := RelV_congr R.v (fun j hj => put_ne (ne_of_mem hj (by decide))), gap := ⟨by rw [put_T rfl, put_T rfl], by rw [put_T rfl]; exact h⟩, ref := R.ref, seen := R.seen, tape := tape_congr R.tape (fun j h => put_ne (by omega)) (fun j h _ => put_ne (by omega)), play := R.play }
  · by_cases h0 : g < 0
    · ev; exact no_ch R
    · ev; exact no_ch R
end

section
set_option linter.unusedVariables false
variable {σ τ : Sg} {V : Vw} {N : Int}
theorem toB_all : ∀ x : Fin 256, toB ((x.val : Int) - 128) = (x.val : Int) - 128 := by decide +kernel
theorem toB_e {x : Int} (h0 : -128 ≤ x) (h1 : x ≤ 127) : toB x = x := by
  have := toB_all ⟨(x + 128).toNat, by omega⟩
  simp only [Int.toNat_of_nonneg (show 0 ≤ x + 128 by omega)] at this
  rw [show x + 128 - 128 = x by omega] at this
  exact this
theorem m_cell (x y w : Int) : Mt (fX11_cell x y w) (fX12_cell x y w) := by
  intro N σ τ R hN
  unfold fX11_cell fX12_cell
  by_cases hx : 0 ≤ x ∧ x < 32
  · by_cases hy : 0 ≤ y ∧ y < 32
    · by_cases hw : 0 ≤ w ∧ w ≤ 2
      · ev
        rw [cc_ground R.v.toRelN hx hy]
        have : fX8_setGround x y w σ = some (put σ 2 (32 * y + x) w) := by
          unfold fX8_setGround; ev; rw [toB_e (by omega) (by omega)]; ev
        rw [this]; ev
        refine ⟨_, _, _, rfl, rfl, ?_⟩
        refine Rel.up (Rel_view R ?_ (fun j h => put_ne (by omega)) (by rw [put_ne (by decide)]) (by rw [put_ne (by decide)]) (fun j h _ => by rw [put_ne (by omega), put_ne (by omega)]) (by rw [put_ne (by decide), put_F (by decide)]) (by rw [put_ne (by decide), put_F (by decide)]) (by rw [put_ne (by decide), put_F (by decide)]) (.inl (by rw [put_ne (by decide), put_T rfl])))
        have v := R.v
        exact {
          g := fun i h0 h1 => by
            have := v.g i h0 h1
            rw [put_at]; show (if i = 32 * y + x then w else σ 2 i) = put (put τ 0 54 0) 1 (32 * y + x) w 1 i ∧ _
            dsimp only [vw]
            rw [put_at, put_ne (by decide)]
            by_cases e : i = 32 * y + x
            · rw [iT e, iT e]; omega
            · rw [iF e, iF e]; exact this
          k := v.k
          b := v.b
          d := v.d
          n := v.n
          c := v.c
          m := v.m
          r := v.r
          h := v.h
          f := fun k w t a b => v.f k w t a b }
      · by_cases hw0 : w < 0
        · ev; exact no_54 R
        · ev; exact no_54 R
    · by_cases h0 : y < 0
      · ev; exact no_54 R
      · ev; exact no_54 R
  · by_cases h0 : x < 0
    · ev; exact no_54 R
    · ev; exact no_54 R
theorem m_barge (s x y c : Int) : Mt (fX11_barge s x y c) (fX12_barge s x y c) := by
  intro N σ τ R hN
  unfold fX11_barge fX12_barge
  by_cases hs : 0 ≤ s ∧ s < 6
  · by_cases hx : 0 ≤ x ∧ x < 32
    · by_cases hy : 0 ≤ y ∧ y < 32
      · by_cases hc : 1 ≤ c ∧ c ≤ 40
        · have : fX8_tellBarge s x y c σ = some (put (put (put σ 3 s x) 4 s y) 5 s c) := by
            unfold fX8_tellBarge; ev
          ev
          rw [this]; ev
          refine ⟨_, _, _, rfl, rfl, ?_⟩
          refine Rel.up (Rel_view R ?_ (fun j h => by rw [put_ne (by omega), put_ne (by omega), put_ne (by omega)]) (by rw [put_ne (by decide), put_ne (by decide), put_ne (by decide)]) (by rw [put_ne (by decide), put_ne (by decide), put_ne (by decide)]) (fun j h _ => by rw [put_ne (by omega), put_ne (by omega), put_ne (by omega), put_ne (by omega)]) (by rw [put_ne (by decide), put_ne (by decide), put_ne (by decide), put_F (by decide)]) (by rw [put_ne (by decide), put_ne (by decide), put_ne (by decide), put_F (by decide)]) (by rw [put_ne (by decide), put_ne (by decide), put_ne (by decide), put_F (by decide)]) (.inl (by rw [put_ne (by decide), put_ne (by decide), put_ne (by decide), put_T rfl])))
          have v := R.v
          exact {
            g := v.g
            k := v.k
            b := fun i h0 h1 => by
              have := v.b i h0 h1
              pu
              by_cases e : i = s
              · simp only [if_pos e, true_and]; omega
              · simp only [if_neg e]; exact this
            d := v.d
            n := v.n
            c := fun i h0 h1 => by
              obtain ⟨a1, a2, a3, a4⟩ := v.c i h0 h1
              refine ⟨a1, a2, ?_, a4⟩
              rcases a3 with a3 | a3
              · exact .inl a3
              · right
                refine ⟨a3.1, ?_⟩
                have := a3.2
                show 0 < put (put (put (put τ 0 54 0) 8 s _) 9 s _) 10 s c 10 (τ 15 i)
                rw [put_at]
                by_cases e : τ 15 i = s
                · rw [iT e]; omega
                · rw [iF e]; exact this
            m := v.m
            r := v.r
            h := v.h
            f := fun k w t a b => v.f k w t a b }
        · by_cases h0 : c < 1
          · ev; exact no_54 R
          · ev; exact no_54 R
      · by_cases h0 : y < 0
        · ev; exact no_54 R
        · ev; exact no_54 R
    · by_cases h0 : x < 0
      · ev; exact no_54 R
      · ev; exact no_54 R
  · by_cases h0 : s < 0
    · ev; exact no_54 R
    · ev; exact no_54 R
theorem m_may (s k : Int) : Mp (fX11_may s k) (fX12_may s k) := by
  intro N σ τ R
  have v := R.v.toRelN
  unfold fX11_may fX12_may
  rw [cc_isBarge v, rr_isBarge]; simp only [bnd_e]
  by_cases h1 : isB (vw τ) s
  · rw [bi_T h1, iF (by omega), iF (by omega), cc_told v, rr_isKind]; simp only [bnd_e]
    by_cases h2 : told (vw τ) k
    · rw [bi_T h2, iF (by omega), iF (by omega), cc_holds v h1 h2, rr_holds v h1 h2]
      simp only [bnd_e]; split <;> exact ⟨_, rfl, rfl⟩
    · rw [bi_F h2]; exact ⟨_, rfl, rfl⟩
  · rw [bi_F h1]; exact ⟨_, rfl, rfl⟩
def lightV (V : Vw) (k s a w : Int) : Prop := told V k ∧ isB V s ∧ (-4 ≤ a ∧ a ≤ 4) ∧ (0 ≤ w ∧ w < 4)
theorem cc_isAngle {a : Int} : fX11_isAngle a σ = some (bi (-4 ≤ a ∧ a ≤ 4)) := by
  unfold fX11_isAngle
  by_cases h : -4 ≤ a ∧ a ≤ 4
  · rw [bi_T h]; ev
  · rw [bi_F h]
    by_cases h0 : a < -4 <;> ev
theorem isIn_b {x a b : Int} : fX12_isIn x a b τ = some (bi (a ≤ x ∧ x ≤ b)) := by
  by_cases h : a ≤ x ∧ x ≤ b
  · rw [bi_T h, isIn_T h.1 h.2]
  · rw [bi_F h, isIn_F h]
theorem cc_isLight (R : RelN σ V) {k s a w : Int} : fX11_isLight k s a w σ = some (bi (lightV V k s a w)) := by
  unfold fX11_isLight
  rw [cc_told R]; simp only [bnd_e]
  by_cases h1 : told V k
  · rw [bi_T h1, iF (by omega), cc_isBarge R]; simp only [bnd_e]
    by_cases h2 : isB V s
    · rw [bi_T h2, iF (by omega), cc_isAngle]; simp only [bnd_e]
      by_cases h3 : -4 ≤ a ∧ a ≤ 4
      · rw [bi_T h3, iF (by omega)]
        by_cases h4 : 0 ≤ w ∧ w < 4
        · rw [bi_T ⟨h1, h2, h3, h4⟩]; ev
        · rw [bi_F (fun x => h4 x.2.2.2)]
          by_cases h5 : w < 0 <;> ev
      · rw [bi_F h3, bi_F (fun x => h3 x.2.2.1)]; rfl
    · rw [bi_F h2, bi_F (fun x => h2 x.2.1)]; rfl
  · rw [bi_F h1, bi_F (fun x => h1 x.1)]; rfl
theorem rr_isLight {k s a w : Int} : fX12_isLight k s a w τ = some (bi (lightV (vw τ) k s a w)) := by
  unfold fX12_isLight
  rw [rr_isKind]; simp only [bnd_e]
  by_cases h1 : told (vw τ) k
  · rw [bi_T h1, iF (by omega), rr_isBarge]; simp only [bnd_e]
    by_cases h2 : isB (vw τ) s
    · rw [bi_T h2, iF (by omega), isIn_b]; simp only [bnd_e]
      by_cases h3 : -4 ≤ a ∧ a ≤ 4
      · rw [bi_T h3, iF (by omega)]
        by_cases h4 : 0 ≤ w ∧ w < 4
        · rw [bi_T ⟨h1, h2, h3, h4⟩]; ev
        · rw [bi_F (fun x => h4 x.2.2.2)]; ev
      · rw [bi_F h3, bi_F (fun x => h3 x.2.2.1)]; rfl
    · rw [bi_F h2, bi_F (fun x => h2 x.2.1)]; rfl
  · rw [bi_F h1, bi_F (fun x => h1 x.1)]; rfl
theorem m_safe (k s a w : Int) : Mp (fX11_safe k s a w) (fX12_safe k s a w) := by
  intro N σ τ R
  unfold fX11_safe fX12_safe
  rw [cc_isLight R.v.toRelN, rr_isLight]; simp only [bnd_e]
  by_cases h : lightV (vw τ) k s a w
  · obtain ⟨h1, h2, h3, h4⟩ := h
    rw [bi_T ⟨h1, h2, h3, h4⟩, iF (by omega), iF (by omega), cc_safe R.v h1 h2 h3 h4, rr_safe R.v.toRelN h1 h2 h3 h4]
    simp only [bnd_e]; split <;> exact ⟨_, rfl, rfl⟩
  · rw [bi_F h]; exact ⟨_, rfl, rfl⟩
theorem m_hot (k s a w i : Int) : Mp (fX11_hot k s a w i) (fX12_hot k s a w i) := by
  intro N σ τ R
  unfold fX11_hot fX12_hot
  rw [cc_isLight R.v.toRelN, rr_isLight]; simp only [bnd_e]
  by_cases h : lightV (vw τ) k s a w
  · obtain ⟨h1, h2, h3, h4⟩ := h
    rw [bi_T ⟨h1, h2, h3, h4⟩]
    by_cases hi : 0 ≤ i ∧ i < 5
    · have hk1 := h1.1
      ev
      rw [slot_e hk1 h4 (by omega)]; ev
      rw [cc_landing R.v.toRelN (q := (k * 4 + w) * 2 + 0) (u := 10) h1 h2 h3 h4 (.inl rfl) (by omega) (R.v.f k w h1 h4.1 h4.2).1, rr_lands R.v.toRelN h1 h2 h3 h4 (.inl rfl)]
      exact ⟨_, rfl, rfl⟩
    · by_cases h0 : i < 0
      · ev; exact ⟨_, rfl, rfl⟩
      · ev; exact ⟨_, rfl, rfl⟩
  · rw [bi_F h]; exact ⟨_, rfl, rfl⟩
theorem m_knows (t : Int) : Mp (fX11_knows t) (fX12_knows t) := by
  intro N σ τ R
  unfold fX11_knows fX12_knows fX11_isTick
  by_cases h : 0 ≤ t ∧ t ≤ 20000
  · ev
    rw [cc_known R.v.toRelN, rr_known R.v.toRelN]; exact ⟨_, rfl, rfl⟩
  · by_cases h0 : t < 0
    · ev; exact ⟨_, rfl, rfl⟩
    · ev; exact ⟨_, rfl, rfl⟩
end

section
set_option linter.unusedVariables false
variable {σ τ : Sg} {V : Vw} {N : Int}
theorem cc_asSaid {l h s r : Int} : fX2_isAsSaid l h s r σ = some (bi ((1 ≤ l ∧ l ≤ 60) ∧ (10 ≤ h ∧ h ≤ 300) ∧ (0 ≤ s ∧ s ≤ 60) ∧ (0 ≤ r ∧ (1 ≤ r / 1000 ∧ r / 1000 ≤ 99) ∧ (1 ≤ r % 1000 / 10 ∧ r % 1000 / 10 ≤ 9) ∧ r % 10 ≤ 5))) := by
  unfold fX2_isAsSaid
  by_cases c1 : 1 ≤ l ∧ l ≤ 60
  · by_cases c2 : 10 ≤ h ∧ h ≤ 300
    · by_cases c3 : 0 ≤ s ∧ s ≤ 60
      · by_cases c4 : 0 ≤ r
        · by_cases c5 : 1 ≤ r / 1000 ∧ r / 1000 ≤ 99
          · by_cases c6 : 1 ≤ r % 1000 / 10 ∧ r % 1000 / 10 ≤ 9
            · by_cases c7 : r % 10 ≤ 5
              · rw [bi_T ⟨c1, c2, c3, c4, c5, c6, c7⟩]; ev
              · rw [bi_F (fun x => c7 x.2.2.2.2.2.2)]; ev
            · rw [bi_F (fun x => c6 x.2.2.2.2.2.1)]
              by_cases d : r % 1000 / 10 < 1 <;> ev
          · rw [bi_F (fun x => c5 x.2.2.2.2.1)]
            by_cases d : r / 1000 < 1 <;> ev
        · rw [bi_F (fun x => c4 x.2.2.2.1)]; ev
      · rw [bi_F (fun x => c3 x.2.2.1)]
        by_cases d : s < 0 <;> ev
    · rw [bi_F (fun x => c2 x.2.1)]
      by_cases d : h < 10 <;> ev
  · rw [bi_F (fun x => c1 x.1)]
    by_cases d : l < 1 <;> ev
theorem mnI_e (a b : Int) : mnI a b ≤ a ∧ mnI a b ≤ b ∧ (mnI a b = a ∨ mnI a b = b) := by unfold mnI; split <;> omega
/-- the least burst of a kind, and 20000 -/
theorem cc_first (R : RelN σ V) {k : Int} : ∃ b, fX1_firstBurstOfKind 19 k σ = some b ∧ b ≤ 20000 ∧ (∀ c, 0 ≤ c → c < V.n → V.knd c = k → b ≤ V.bst c) ∧ (b = 20000 ∨ ∃ c, (0 ≤ c ∧ c < V.n) ∧ V.knd c = k ∧ b = V.bst c) := by
  have hn := R.n
  have L : ∀ (n : Nat) (b i : Int), (0 ≤ i ∧ i ≤ V.n) → V.n - i < (n : Int) → b ≤ 20000 → (∀ c, 0 ≤ c → c < i → V.knd c = k → b ≤ V.bst c) → (b = 20000 ∨ ∃ c, (0 ≤ c ∧ c < V.n) ∧ V.knd c = k ∧ b = V.bst c) →
      ∃ b', fX1_firstBurstOfKind_L6 n 19 k b i σ = some b' ∧ b' ≤ 20000 ∧ (∀ c, 0 ≤ c → c < V.n → V.knd c = k → b' ≤ V.bst c) ∧ (b' = 20000 ∨ ∃ c, (0 ≤ c ∧ c < V.n) ∧ V.knd c = k ∧ b' = V.bst c) := by
    intro n
    induction n with
    | zero =>
      intro b i h0 h1 h2 h3 h4
      omega
    | succ n ih =>
      intro b i h0 h1 h2 h3 h4
      unfold fX1_firstBurstOfKind_L6
      by_cases c : i < V.n
      · rw [iT (by omega), cc_kind R h0.1 c]; simp only [bnd_e]
        by_cases e : V.knd i = k
        · rw [iT e, cc_burst R h0.1 c]; simp only [bnd_e]
          unfold fX1_firstBurstOfKind_L6P33
          rw [ck_e (by omega) (by omega)]
          have hm := mnI_e b (V.bst i)
          refine ih _ (i + 1) (by omega) (by omega) (by omega) ?_ ?_
          · intro d d0 d1 d2
            by_cases e2 : d = i
            · rw [e2]; omega
            · have := h3 d d0 (by omega) d2; omega
          · rcases hm.2.2 with x | x
            · rw [x]; exact h4
            · right; exact ⟨i, ⟨h0.1, c⟩, e, x⟩
        · rw [iF e]
          unfold fX1_firstBurstOfKind_L6P33
          rw [ck_e (by omega) (by omega)]
          refine ih _ (i + 1) (by omega) (by omega) h2 ?_ h4
          intro d d0 d1 d2
          by_cases e2 : d = i
          · exact absurd (e2 ▸ d2) e
          · exact h3 d d0 (by omega) d2
      · rw [iF (by omega)]
        exact ⟨b, rfl, h2, fun d d0 d1 d2 => h3 d d0 (by omega) d2, h4⟩
  obtain ⟨b, x1, x2⟩ := L fu 20000 0 (by omega) (by rw [fu_i]; omega) (by omega) (fun c a b => by omega) (.inl rfl)
  refine ⟨b, ?_, x2⟩
  unfold fX1_firstBurstOfKind; rw [x1]; rfl
/-- a kind told -/
def kindW (V : Vw) (k l h s r : Int) : Vw := { V with lift := zupd V.lift k l, hgt := zupd V.hgt k h, spr := zupd V.spr k s, brn := zupd V.brn k (r / 1000), col := zupd V.col k (r % 1000 / 10), lat := zupd V.lat k (r % 10) }
theorem rr_kindNo {k l h s r : Int} (hk : 0 ≤ k ∧ k < 12) (hs : ¬ ((1 ≤ l ∧ l ≤ 60) ∧ (10 ≤ h ∧ h ≤ 300) ∧ (0 ≤ s ∧ s ≤ 60) ∧ (0 ≤ r ∧ (1 ≤ r / 1000 ∧ r / 1000 ≤ 99) ∧ (1 ≤ r % 1000 / 10 ∧ r % 1000 / 10 ≤ 9) ∧ r % 10 ≤ 5))) : fX12_kind k l h s r τ = some (-1, put τ 0 54 0) := by
  unfold fX12_kind
  rw [st1_e, isIn_T (by omega) (by omega)]; simp only [bnd_e]; rw [iF (by decide)]
  by_cases c1 : 1 ≤ l ∧ l ≤ 60
  · rw [isIn_T c1.1 c1.2]; simp only [bnd_e]; rw [iF (by decide)]
    by_cases c2 : 10 ≤ h ∧ h ≤ 300
    · rw [isIn_T c2.1 c2.2]; simp only [bnd_e]; rw [iF (by decide)]
      by_cases c3 : 0 ≤ s ∧ s ≤ 60
      · rw [isIn_T c3.1 c3.2]; simp only [bnd_e]; rw [iF (by decide)]
        by_cases c4 : 0 ≤ r ∧ r ≤ 99999
        · rw [isIn_T c4.1 c4.2]; simp only [bnd_e]; rw [iF (by decide), dv_e c4.1 (by omega)]
          by_cases c5 : 1 ≤ r / 1000 ∧ r / 1000 ≤ 99
          · rw [isIn_T c5.1 c5.2]; simp only [bnd_e]; rw [iF (by decide), md_e c4.1 (by omega), dv_e (by omega) (by omega)]
            by_cases c6 : 1 ≤ r % 1000 / 10 ∧ r % 1000 / 10 ≤ 9
            · rw [isIn_T c6.1 c6.2]; simp only [bnd_e]; rw [iF (by decide), md_e c4.1 (by omega), iF (fun x => hs ⟨c1, c2, c3, c4.1, c5, c6, x⟩)]
            · rw [isIn_F c6]; rfl
          · rw [isIn_F c5]; rfl
        · rw [isIn_F c4]; rfl
      · rw [isIn_F c3]; rfl
    · rw [isIn_F c2]; rfl
  · rw [isIn_F c1]; rfl
set_option maxHeartbeats 2000000 in
theorem m_kind (k l h s r : Int) : Mt (fX11_kind k l h s r) (fX12_kind k l h s r) := by
  intro N σ τ R hN
  have v := R.v
  have hn := v.n
  unfold fX11_kind
  by_cases hk : 0 ≤ k ∧ k < 12
  · rw [iF (by omega), iT (by omega), cc_asSaid]; simp only [bnd_e]
    by_cases hs : ((1 ≤ l ∧ l ≤ 60) ∧ (10 ≤ h ∧ h ≤ 300) ∧ (0 ≤ s ∧ s ≤ 60) ∧ (0 ≤ r ∧ (1 ≤ r / 1000 ∧ r / 1000 ≤ 99) ∧ (1 ≤ r % 1000 / 10 ∧ r % 1000 / 10 ≤ 9) ∧ r % 10 ≤ 5))
    · rw [bi_T hs, iF (by omega)]
      obtain ⟨b, b1, b2, b3, b4⟩ := cc_first v.toRelN (k := k)
      rw [b1]; simp only [bnd_e]
      have ref : fX12_kind k l h s r τ = (fX12_kind_L108 fu k l h s r 0 (put τ 0 54 0)).bind (Sum.elim (fun _ => some ((-5), put τ 0 54 0)) (fun _ => some (k, put (put (put (put (put (put (put τ 0 54 0) 2 k l) 3 k h) 4 k s) 5 k (r / 1000)) 6 k (r % 1000 / 10)) 7 k (r % 10)))) := by
        unfold fX12_kind
        ev
      have loop := srch (L := fun n i => fX12_kind_L108 n k l h s r i (put τ 0 54 0)) (lo := 0) (m := τ 0 32) (P := fun c => τ 14 c = k ∧ τ 13 c < l) (a := some (.inl ())) (b := some (.inr ()))
        (fun n i a1 a2 a3 => by unfold fX12_kind_L108 fX12_kind_L108P142; dsimp only [vw] at hn; ev)
        (fun n i a1 a2 a3 => by
          dsimp only [vw] at hn
          conv => lhs; unfold fX12_kind_L108
          ev
          by_cases e : τ 14 i = k
          · ev; unfold fX12_kind_L108P142; ev
          · rw [iF e]; unfold fX12_kind_L108P142; ev)
        (fun n i a1 a2 => by unfold fX12_kind_L108; ev) fu 0 (by omega) (by dsimp only [vw] at hn; rw [fu_i]; omega) fu_pos
      rw [ref]
      by_cases c : b < l
      · rw [iT c, loop.1 (by
          rcases b4 with x | ⟨i, x1, x2, x3⟩
          · omega
          · exact ⟨i, x1.1, x1.2, x2, by dsimp only [vw] at x3; omega⟩)]
        exact no_54 R
      · rw [iF c, loop.2 (by
          rintro ⟨i, x1, x2, x3, x4⟩
          have := b3 i x1 x2 x3
          dsimp only [vw] at this; omega)]
        simp only [bnd_e, Sum.elim_inr]
        have tell : fX2_tell k l h s r σ = some (put (put (put (put (put (put σ 7 k l) 8 k h) 9 k s) 10 k (r / 1000)) 11 k (r % 1000 / 10)) 12 k (r % 10)) := by
          unfold fX2_tell; ev
        rw [tell]; simp only [bnd_e]
        have toldm : ∀ i, told (vw τ) i → told (kindW (vw τ) k l h s r) i := by
          rintro i ⟨x1, x2⟩
          refine ⟨x1, ?_⟩
          show 0 < zupd (τ 2) k l i
          by_cases e : i = k
          · rw [zupd_T e]; omega
          · rw [zupd_F e]; exact x2
        have hr : r % 10 ≥ 0 := by omega
        have N1 : RelN (put (put (put (put (put (put σ 7 k l) 8 k h) 9 k s) 10 k (r / 1000)) 11 k (r % 1000 / 10)) 12 k (r % 10)) (kindW (vw τ) k l h s r) := {
          g := v.g
          k := fun i h0 h1 => by
            have := v.k i h0 h1
            unfold kindW zupd
            pu
            by_cases e : i = k
            · simp only [if_pos e, true_and]; omega
            · simp only [if_neg e]; exact this
          b := v.b
          d := v.d
          n := v.n
          c := fun i h0 h1 => by
            obtain ⟨a1, a2, a3, a4, a5, a6⟩ := v.c i h0 h1
            refine ⟨a1, toldm _ a2, a3, a4, ?_, a6⟩
            show zupd (τ 2) k l (τ 14 i) ≤ τ 13 i ∧ τ 13 i ≤ 20000
            dsimp only [vw] at a5
            by_cases e : τ 14 i = k
            · rw [zupd_T e]
              have := b3 i h0 h1 e
              dsimp only [vw] at this; omega
            · rw [zupd_F e]; exact a5
          m := v.m
          r := v.r
          h := v.h }
        obtain ⟨σ', e1, e2, e3⟩ := cc_reckonKindL hk fu _ 0 N1 (by omega) (by omega) (by rw [fu_i]; omega) (by
          intro k' w' t x1 x2 x3
          have hne : k' ≠ k := by omega
          have told' : told (vw τ) k' := by
            refine ⟨t.1, ?_⟩
            have := t.2
            have e : (kindW (vw τ) k l h s r).lift k' = τ 2 k' := zupd_F hne
            rw [e] at this; exact this
          have f := v.f k' w' told' x1 x2
          have q1 : (kindW (vw τ) k l h s r).brn k' = τ 5 k' := zupd_F hne
          have q2 : (kindW (vw τ) k l h s r).hgt k' = τ 3 k' := zupd_F hne
          unfold fallOk at f ⊢
          rw [q1, q2]
          exact f)
        have rk : fX0_reckonKind k (put (put (put (put (put (put σ 7 k l) 8 k h) 9 k s) 10 k (r / 1000)) 11 k (r % 1000 / 10)) 12 k (r % 10)) = some σ' := by
          unfold fX0_reckonKind; rw [e1]; rfl
        rw [rk]; simp only [bnd_e]
        refine ⟨_, _, _, rfl, rfl, ?_⟩
        refine Rel.up (Rel_view R ?_ (fun j hj => ?_) ?_ ?_ (fun j h1 h2 => ?_) ?_ ?_ ?_ (.inl ?_))
        · exact e3
        · rw [e2 j (by omega) (by omega) (by omega), put_ne (by omega), put_ne (by omega), put_ne (by omega), put_ne (by omega), put_ne (by omega), put_ne (by omega)]
        · rw [e2 0 (by decide) (by decide) (by decide)]; pu
        · rw [e2 0 (by decide) (by decide) (by decide)]; pu
        · rw [put_ne (by omega), put_ne (by omega), put_ne (by omega), put_ne (by omega), put_ne (by omega), put_ne (by omega), put_ne (by omega)]
        · pu; rw [iF (by decide)]
        · pu; rw [iF (by decide)]
        · pu; rw [iF (by decide)]
        · pu; rw [if_pos trivial]
    · rw [bi_F hs, iT rfl, rr_kindNo hk hs]; exact no_54 R
  · have ref : fX12_kind k l h s r τ = some (-1, put τ 0 54 0) := by
      unfold fX12_kind; ev
    rw [ref]
    by_cases h0 : k < 0
    · ev; exact no_54 R
    · ev; exact no_54 R
end

section
set_option linter.unusedVariables false
variable {σ τ : Sg} {V : Vw} {N : Int}
theorem cc_isDrift {a : Int} : fX11_isDrift a σ = some (bi (-50 ≤ a ∧ a ≤ 50)) := by
  unfold fX11_isDrift
  by_cases h : -50 ≤ a ∧ a ≤ 50
  · rw [bi_T h]; ev
  · rw [bi_F h]
    by_cases h0 : a < -50 <;> ev
theorem fallV_cong {dx dy dx' dy' : Int → Int} {b : Int} (h : ∀ l, 0 ≤ l → l < 5 → dx (b + l) = dx' (b + l) ∧ dy (b + l) = dy' (b + l)) : ∀ (t : Nat) (x y z : Int), 0 < z ∨ t = 0 → fallV dx dy b t x y z = fallV dx' dy' b t x y z
  | 0, _, _, _, _ => rfl
  | t + 1, x, y, z, hz => by
    unfold fallV
    simp only
    obtain ⟨l, hl⟩ : ∃ l, l = if z / 500 < 4 then z / 500 else 4 := ⟨_, rfl⟩
    have hl3 : 0 ≤ l ∧ l < 5 := by rw [hl]; split <;> omega
    rw [← hl, (h l hl3.1 hl3.2).1, (h l hl3.1 hl3.2).2]
    by_cases c : z - 25 ≤ 0
    · rw [iT c, iT c]
    · rw [iF c, iF c]; exact fallV_cong h t _ _ _ (by omega)
set_option maxHeartbeats 2000000 in
theorem m_wind (w l dx dy : Int) : Mt (fX11_wind w l dx dy) (fX12_wind w l dx dy) := by
  intro N σ τ R hN
  have v := R.v
  unfold fX11_wind fX12_wind
  rw [st1_e, isIn_b]; simp only [bnd_e]
  by_cases hw : 0 ≤ w ∧ w ≤ 3
  · rw [bi_T hw, iF (show ¬ w < 0 by omega), iT (show w < 4 by omega)]; bb; rw [isIn_b]; simp only [bnd_e]
    by_cases hl : 0 ≤ l ∧ l ≤ 4
    · rw [bi_T hl, iF (show ¬ l < 0 by omega), iT (show l < 5 by omega), cc_isDrift]; bb; rw [isIn_b]; simp only [bnd_e]
      by_cases hx : -50 ≤ dx ∧ dx ≤ 50
      · rw [bi_T hx]; bb; rw [cc_isDrift, isIn_b]; simp only [bnd_e]
        by_cases hy : -50 ≤ dy ∧ dy ≤ 50
        · rw [bi_T hy]; bb
          have sd : fX0_setDrift w l dx dy σ = some (put (put σ 14 (5 * w + l) dx) 15 (5 * w + l) dy) := by
            unfold fX0_setDrift; ev; rw [show w * 5 + l = 5 * w + l by omega]
          rw [sd]; simp only [bnd_e]
          rw [ck_e (by omega) (by omega), ck_e (by omega) (by omega), wr_e (by omega) (by omega), ck_e (by omega) (by omega), ck_e (by omega) (by omega), wr_e (by omega) (by omega)]
          obtain ⟨q, hq⟩ : ∃ q, q = 5 * w + l := ⟨_, rfl⟩
          rw [← hq]
          have hq2 : 0 ≤ q ∧ q < 20 := by omega
          have N1 : RelN (put (put σ 14 q dx) 15 q dy) (vw (put (put (put τ 0 54 0) 11 q dx) 12 q dy)) := {
            g := v.g
            k := v.k
            b := v.b
            d := fun i h0 h1 => by
              have := v.d i h0 h1
              pu
              by_cases e : i = q
              · simp only [if_pos e, true_and]; omega
              · simp only [if_neg e]; exact this
            n := v.n
            c := v.c
            m := v.m
            r := v.r
            h := v.h }
          obtain ⟨σ', e1, e2, e3⟩ := cc_reckonWindL (w := w) (by omega) fu _ 0 N1 (by omega) (by omega) (by rw [fu_i]; omega) (by
            intro k' w' t x1 x2 x3
            have t' : told (vw τ) k' := t
            have hK := (v.k k' t'.1.1 t'.1.2).2.2 t'.2
            have t1 := t'.1
            have hne : w' ≠ w := by omega
            have f := v.f k' w' t x1 x2
            dsimp only [vw] at hK
            have ef : ∀ u, (u = 10 ∨ u = 5) → fallV (put (put (put τ 0 54 0) 11 q dx) 12 q dy 11) (put (put (put τ 0 54 0) 11 q dx) 12 q dy 12) (5 * w') (τ 5 k').toNat 0 0 (u * τ 3 k') = fallV (τ 11) (τ 12) (5 * w') (τ 5 k').toNat 0 0 (u * τ 3 k') := by
              intro u hu
              refine fallV_cong (fun j j0 j1 => ?_) _ _ _ _ (by rcases hu with rfl | rfl <;> omega)
              pu
              rw [iF (by omega), iF (by omega)]; exact ⟨rfl, rfl⟩
            unfold fallOk
            show fallAt _ _ (fallV (put (put (put τ 0 54 0) 11 q dx) 12 q dy 11) (put (put (put τ 0 54 0) 11 q dx) 12 q dy 12) (5 * w') (τ 5 k').toNat 0 0 (10 * τ 3 k')) ∧ fallAt _ _ (fallV (put (put (put τ 0 54 0) 11 q dx) 12 q dy 11) (put (put (put τ 0 54 0) 11 q dx) 12 q dy 12) (5 * w') (τ 5 k').toNat 0 0 (5 * τ 3 k'))
            rw [ef 10 (.inl rfl), ef 5 (.inr rfl)]
            exact f)
          have rk : fX0_reckonWind w (put (put σ 14 q dx) 15 q dy) = some σ' := by
            unfold fX0_reckonWind; rw [e1]; rfl
          rw [rk]; simp only [bnd_e]
          refine ⟨_, _, _, rfl, rfl, ?_⟩
          refine Rel.up (Rel_view R e3 (fun j hj => ?_) ?_ ?_ (fun j h1 h2 => ?_) ?_ ?_ ?_ (.inl ?_))
          · rw [e2 j (by omega) (by omega) (by omega), put_ne (by omega), put_ne (by omega)]
          · rw [e2 0 (by decide) (by decide) (by decide)]; pu
          · rw [e2 0 (by decide) (by decide) (by decide)]; pu
          · rw [put_ne (by omega), put_ne (by omega), put_ne (by omega)]
          · pu; rw [iF (by decide)]
          · pu; rw [iF (by decide)]
          · pu; rw [iF (by decide)]
          · pu; rw [if_pos trivial]
        · rw [bi_F hy]; exact no_54 R
      · rw [bi_F hx]; exact no_54 R
    · rw [bi_F hl, iT rfl]
      by_cases h0 : l < 0
      · rw [iT h0]; exact no_54 R
      · rw [iF h0, iF (by omega)]; exact no_54 R
  · rw [bi_F hw, iT rfl]
    by_cases h0 : w < 0
    · rw [iT h0]; exact no_54 R
    · rw [iF h0, iF (by omega)]; exact no_54 R
/-- a method that changes one cue's number in both -/
theorem m_place (c s : Int) : Mt (fX11_place c s) (fX12_place c s) := by
  intro N σ τ R hN
  have v := R.v
  have hn := v.n
  have hn' := hn
  dsimp only [vw] at hn'
  unfold fX11_place fX12_place
  rw [cc_isCue v.toRelN, st1_e, rr_isCue (by rw [put_F (by decide)]; omega) (by rw [put_F (by decide)]; omega), put_F (by decide)]; simp only [bnd_e]
  by_cases h : 0 ≤ c ∧ c < τ 0 32
  · rw [bi_T h]; bb
    have fin : (s = -1 ∨ isB (vw τ) s) → ∃ v σ' τ', fX11_place_P29 c s σ = some (v, σ') ∧ fX12_place_P28 c s (put τ 0 54 0) = some (v, τ') ∧ Rel (N + 1) σ' τ' := by
      intro hs
      unfold fX11_place_P29 fX12_place_P28
      rw [cc_barge v.toRelN h.1 h.2]; simp only [bnd_e]
      have e := v.c c h.1 h.2
      have sb : fX1_setBarge 19 c s σ = some (put σ 22 c s) := by
        unfold fX1_setBarge; rw [cc_isCue v.toRelN, bi_T h]; ev
      rw [sb]; simp only [bnd_e]
      rw [rd_e (by omega) (by omega), wr_e (by omega) (by omega)]
      refine ⟨_, _, _, rfl, rfl, ?_⟩
      refine Rel.up (Rel_view R ?_ (fun j hj => by rw [put_ne (by omega)]) (by pu) (by pu) (fun j h1 h2 => by rw [put_ne (by omega), put_ne (by omega)]) (by pu; rw [iF (by decide)]) (by pu; rw [iF (by decide)]) (by pu; rw [iF (by decide)]) (.inl (by pu; rw [if_pos trivial])))
      exact {
        g := v.g
        k := v.k
        b := v.b
        d := v.d
        n := v.n
        c := fun i h0 h1 => by
          obtain ⟨a1, a2, a3, a4⟩ := v.c i h0 h1
          refine ⟨?_, a2, ?_, a4⟩
          · pu
            by_cases e : i = c
            · simp only [if_pos e, true_and]; exact ⟨a1.1, a1.2.1, a1.2.2.2⟩
            · simp only [if_neg e]; exact a1
          · pu
            by_cases e : i = c
            · simp only [if_pos e]; exact hs
            · simp only [if_neg e]; exact a3
        m := v.m
        r := v.r
        h := v.h
        f := fun k w t a b => v.f k w t a b }
    by_cases c1 : s = -1
    · rw [iT c1, iT c1]; exact fin (.inl c1)
    · rw [iF c1, iF c1, cc_isBarge v.toRelN, rr_isBarge]; simp only [bnd_e]
      have : bi (isB (vw (put τ 0 54 0)) s) = bi (isB (vw τ) s) := rfl
      rw [this]
      by_cases c2 : isB (vw τ) s
      · rw [bi_T c2]; bb; exact fin (.inr c2)
      · rw [bi_F c2]; exact no_54 R
  · rw [bi_F h]; exact no_54 R
theorem cc_isTick {t : Int} : fX11_isTick t σ = some (bi (0 ≤ t ∧ t ≤ 20000)) := by
  unfold fX11_isTick
  by_cases h : 0 ≤ t ∧ t ≤ 20000
  · rw [bi_T h]; ev
  · rw [bi_F h]
    by_cases h0 : t < 0 <;> ev
theorem m_meter (w fr kn : Int) : Mt (fX11_meter w fr kn) (fX12_meter w fr kn) := by
  intro N σ τ R hN
  have v := R.v
  have hm := v.m.1
  have hm' := hm
  dsimp only [vw] at hm'
  unfold fX11_meter fX12_meter
  rw [st1_e, isIn_b]; simp only [bnd_e]
  by_cases hw : 0 ≤ w ∧ w ≤ 3
  · rw [bi_T hw, iF (show ¬ w < 0 by omega), iT (show w < 4 by omega)]; bb; rw [cc_isTick, isIn_b]; simp only [bnd_e]
    by_cases hf : 0 ≤ fr ∧ fr ≤ 20000
    · rw [bi_T hf]; bb; rw [cc_isTick, isIn_b]; simp only [bnd_e]
      by_cases hk : fr ≤ kn ∧ kn ≤ 20000
      · rw [bi_T hk, bi_T (show 0 ≤ kn ∧ kn ≤ 20000 by omega)]
        have pq : put τ 0 54 0 0 33 = τ 0 33 := put_F (by decide)
        by_cases hs : τ 0 33 < 20
        · bb
          rw [iF (show ¬ kn < fr by omega), iT (show σ 40 3 < 20 by omega), pq, iF (show ¬ τ 0 33 = 20 by omega)]
          have tl : fX4_tell w fr kn σ = some (put (put (put (put σ 41 (σ 40 3) w) 42 (σ 40 3) fr) 43 (σ 40 3) kn) 40 3 (σ 40 3 + 1)) := by
            unfold fX4_tell; ev
          rw [tl]; simp only [bnd_e]
          ev
          refine ⟨_, _, _, rfl, by rw [hm'.1], ?_⟩
          obtain ⟨q, hq⟩ : ∃ q, q = τ 0 33 := ⟨_, rfl⟩
          rw [hm'.1, ← hq]
          refine Rel.up (Rel_view R ?_ (fun j hj => by rw [put_ne (by omega), put_ne (by omega), put_ne (by omega), put_ne (by omega)]) (by pu) (by pu) (fun j h1 h2 => by rw [put_ne (by omega), put_ne (by omega), put_ne (by omega), put_ne (by omega), put_ne (by omega)]) (by pu; rw [iF (by decide), iF (by decide)]) (by pu; rw [iF (by decide), iF (by decide)]) (by pu; rw [iF (by decide), iF (by decide)]) (.inl (by pu; rw [iF (by decide), if_pos trivial])))
          exact {
            g := v.g
            k := v.k
            b := v.b
            d := v.d
            n := v.n
            c := v.c
            m := by
              refine ⟨?_, ?_⟩
              · pu; simp only [if_pos trivial, true_and]; omega
              · intro i h0 h1
                have h1' : i < q + 1 := by
                  have : (vw (put (put (put (put (put τ 0 54 0) 22 q w) 23 q fr) 24 q kn) 0 33 (q + 1))).nr = q + 1 := by pu; rw [if_pos trivial]
                  omega
                pu
                by_cases e : i = q
                · simp only [if_pos e, true_and]; omega
                · simp only [if_neg e]
                  exact v.m.2 i h0 (by show i < τ 0 33; omega)
            r := v.r
            h := v.h
            f := fun k w t a b => v.f k w t a b }
        · bb
          rw [iF (show ¬ kn < fr by omega), iF (show ¬ σ 40 3 < 20 by omega), pq, iT (show τ 0 33 = 20 by omega)]; exact no_54 R
      · rw [bi_F hk]; bb
        by_cases h0 : 0 ≤ kn ∧ kn ≤ 20000
        · rw [bi_T h0]; bb; rw [iT (show kn < fr by omega)]; exact no_54 R
        · rw [bi_F h0]; bb; exact no_54 R
    · rw [bi_F hf]; exact no_54 R
  · rw [bi_F hw]; bb
    by_cases h0 : w < 0
    · rw [iT h0]; exact no_54 R
    · rw [iF h0, iF (show ¬ w < 4 by omega)]; exact no_54 R
theorem m_holdless : Mt fX11_holdless fX12_holdless := by
  intro N σ τ R hN
  have v := R.v
  have hm := v.r.1
  unfold fX11_holdless fX12_holdless
  rw [st1_e, st1_e, st1_e, put_F (by decide)]
  refine ⟨_, _, _, rfl, by rw [hm.1], ?_⟩
  refine Rel.up (Rel_view R ?_ (fun j hj => by rw [put_ne (by omega)]) (by pu) (by pu) (fun j h1 h2 => by rw [put_ne (by omega), put_ne (by omega)]) (by pu; rw [iF (by decide), iF (by decide)]) (by pu; rw [iF (by decide), iF (by decide)]) (by pu; rw [iF (by decide), iF (by decide)]) (.inl (by pu; rw [iF (by decide), if_pos trivial])))
  exact {
    g := v.g
    k := v.k
    b := v.b
    d := v.d
    n := v.n
    c := v.c
    m := v.m
    r := by
      have e : (vw (put (put τ 0 54 0) 0 34 0)).nh = 0 := by pu; rw [if_pos trivial]
      refine ⟨?_, fun i h0 h1 => by omega⟩
      rw [e, put_T rfl]; omega
    h := v.h
    f := fun k w t a b => v.f k w t a b }
theorem m_fault (c x : Int) : Mt (fX11_fault c x) (fX12_fault c x) := by
  intro N σ τ R hN
  have v := R.v
  have hn := v.n
  dsimp only [vw] at hn
  unfold fX11_fault fX12_fault
  rw [cc_isCue v.toRelN, st1_e, rr_isCue (by rw [put_F (by decide)]; omega) (by rw [put_F (by decide)]; omega), put_F (by decide)]; simp only [bnd_e]
  by_cases h : 0 ≤ c ∧ c < τ 0 32
  · rw [bi_T h]; bb; rw [isIn_b]; simp only [bnd_e]
    by_cases hx : 0 ≤ x ∧ x ≤ 6
    · rw [bi_T hx, iF (show ¬ x < 0 by omega), iT hx.2]; bb; rw [cc_fault v.toRelN h.1 h.2]; simp only [bnd_e]
      have sf : fX7_setFault c x σ = some (put σ 49 c x) := by unfold fX7_setFault; ev
      rw [sf, rd_e (by omega) (by omega), wr_e (by omega) (by omega)]; simp only [bnd_e]
      refine ⟨_, _, _, rfl, rfl, ?_⟩
      refine Rel.up (Rel_view R ?_ (fun j hj => by rw [put_ne (by omega)]) (by pu) (by pu) (fun j h1 h2 => by rw [put_ne (by omega), put_ne (by omega)]) (by pu; rw [iF (by decide)]) (by pu; rw [iF (by decide)]) (by pu; rw [iF (by decide)]) (.inl (by pu; rw [if_pos trivial])))
      exact {
        g := v.g
        k := v.k
        b := v.b
        d := v.d
        n := v.n
        c := fun i h0 h1 => by
          obtain ⟨a1, a2, a3, a4, a5, a6⟩ := v.c i h0 h1
          refine ⟨?_, a2, a3, a4, a5, ?_⟩
          · pu
            by_cases e : i = c
            · simp only [if_pos e, true_and]; exact ⟨a1.1, a1.2.1, a1.2.2.1, a1.2.2.2.1, trivial⟩
            · simp only [if_neg e]; exact a1
          · pu
            by_cases e : i = c
            · simp only [if_pos e]; exact hx
            · simp only [if_neg e]; exact a6
        m := v.m
        r := v.r
        h := v.h
        f := fun k w t a b => v.f k w t a b }
    · rw [bi_F hx]; bb
      by_cases h0 : x < 0
      · rw [iT h0]; exact no_54 R
      · rw [iF h0, iF (show ¬ x ≤ 6 by omega)]; exact no_54 R
  · rw [bi_F h]; exact no_54 R
theorem m_halt (t : Int) : Mt (fX11_halt t) (fX12_halt t) := by
  intro N σ τ R hN
  have v := R.v
  have hh := v.h
  dsimp only [vw] at hh
  unfold fX11_halt fX12_halt
  rw [st1_e, isIn_b]; simp only [bnd_e]
  have fin : -1 ≤ t ∧ t ≤ 20000 → ∃ v σ' τ', fX11_halt_P14 t σ = some (v, σ') ∧ (st1 (put (put τ 0 54 0) 0 35 t) fun σ5 => some ((put τ 0 54 0) 0 35, σ5)) = some (v, τ') ∧ Rel (N + 1) σ' τ' := by
    intro ht
    unfold fX11_halt_P14
    rw [st1_e, st1_e, put_F (by decide)]
    refine ⟨_, _, _, rfl, by rw [hh.1], ?_⟩
    refine Rel.up (Rel_view R ?_ (fun j hj => by rw [put_ne (by omega)]) (by pu) (by pu) (fun j h1 h2 => by rw [put_ne (by omega), put_ne (by omega)]) (by pu; rw [iF (by decide), iF (by decide)]) (by pu; rw [iF (by decide), iF (by decide)]) (by pu; rw [iF (by decide), iF (by decide)]) (.inl (by pu; rw [iF (by decide), if_pos trivial])))
    exact {
      g := v.g
      k := v.k
      b := v.b
      d := v.d
      n := v.n
      c := v.c
      m := v.m
      r := v.r
      h := by
        have e : (vw (put (put τ 0 54 0) 0 35 t)).hlt = t := by pu; rw [if_pos trivial]
        rw [e, put_T rfl]; omega
      f := fun k w t a b => v.f k w t a b }
  by_cases h : -1 ≤ t ∧ t ≤ 20000
  · rw [bi_T h]; bb
    by_cases h1 : t = -1
    · rw [iT h1]; exact fin h
    · rw [iF h1, cc_isTick, bi_T (by omega)]; simp only [bnd_e]; bb; exact fin h
  · rw [bi_F h, iF (by omega), cc_isTick, bi_F (by omega)]; exact no_54 R
end

section
set_option linter.unusedVariables false
variable {σ τ : Sg} {V : Vw} {N : Int}
theorem fil_loop {L : Nat → Int → Sg → Option Sg} {i : Nat} {m v : Int} (h1 : ∀ n x σ, 0 ≤ x → x < m → L (n + 1) x σ = L n (x + 1) (put σ i x v)) (h2 : ∀ n x σ, m ≤ x → L (n + 1) x σ = some σ) :
    ∀ (n : Nat) (x : Int) (σ : Sg), 0 ≤ x → m - x < (n : Int) → 0 < n → ∃ σ', L n x σ = some σ' ∧ (∀ j, j ≠ i → σ' j = σ j) ∧ (∀ k, x ≤ k → k < m → σ' i k = v) ∧ (∀ k, ¬ (x ≤ k ∧ k < m) → σ' i k = σ i k) := by
  intro n
  induction n with
  | zero => intro x σ _ _ h; omega
  | succ n ih =>
    intro x σ h0 hn _
    by_cases c : x < m
    · obtain ⟨σ', a1, a2, a3, a4⟩ := ih (x + 1) (put σ i x v) (by omega) (by omega) (by omega)
      refine ⟨σ', by rw [h1 n x σ h0 c, a1], fun j hj => by rw [a2 j hj, put_ne hj], ?_, ?_⟩
      · intro k k0 k1
        by_cases e : k = x
        · rw [a4 k (by omega), e, put_T rfl]
        · exact a3 k (by omega) k1
      · intro k hk
        rw [a4 k (by omega), put_F (by omega)]
    · exact ⟨σ, h2 n x σ (by omega), fun _ _ => rfl, fun k k0 k1 => by omega, fun _ _ => rfl⟩
theorem fil2_loop {L : Nat → Int → Sg → Option Sg} {i i' : Nat} (hi : i ≠ i') {m v : Int} (h1 : ∀ n x σ, 0 ≤ x → x < m → L (n + 1) x σ = L n (x + 1) (put (put σ i x v) i' x v)) (h2 : ∀ n x σ, m ≤ x → L (n + 1) x σ = some σ) :
    ∀ (n : Nat) (x : Int) (σ : Sg), 0 ≤ x → m - x < (n : Int) → 0 < n → ∃ σ', L n x σ = some σ' ∧ (∀ j, j ≠ i → j ≠ i' → σ' j = σ j) ∧ (∀ k, x ≤ k → k < m → σ' i k = v ∧ σ' i' k = v) ∧ (∀ k, ¬ (x ≤ k ∧ k < m) → σ' i k = σ i k ∧ σ' i' k = σ i' k) := by
  intro n
  induction n with
  | zero => intro x σ _ _ h; omega
  | succ n ih =>
    intro x σ h0 hn _
    by_cases c : x < m
    · obtain ⟨σ', a1, a2, a3, a4⟩ := ih (x + 1) (put (put σ i x v) i' x v) (by omega) (by omega) (by omega)
      refine ⟨σ', by rw [h1 n x σ h0 c, a1], fun j hj hj' => by rw [a2 j hj hj', put_ne hj', put_ne hj], ?_, ?_⟩
      · intro k k0 k1
        by_cases e : k = x
        · obtain ⟨b1, b2⟩ := a4 k (by omega)
          rw [b1, b2, e, put_ne hi, put_T rfl, put_T rfl]; exact ⟨rfl, rfl⟩
        · exact a3 k (by omega) k1
      · intro k hk
        obtain ⟨b1, b2⟩ := a4 k (by omega)
        rw [b1, b2, put_ne hi, put_F (by omega), put_F (by omega), put_ne (Ne.symm hi)]; exact ⟨rfl, rfl⟩
    · exact ⟨σ, h2 n x σ (by omega), fun _ _ _ => rfl, fun k k0 k1 => by omega, fun _ _ => ⟨rfl, rfl⟩⟩
theorem fillA_ne {i j n : Nat} {v : Int} (h : j ≠ i) : fillA σ i n v j = σ j := setA_ne h
theorem fillA_at {i n : Nat} {v p : Int} : fillA σ i n v i p = if 0 ≤ p ∧ p < (n : Int) then v else σ i p := by unfold fillA; rw [setA_at]
theorem RelS_0 {t c t' c' : Int → Int} : RelS 0 t c 0 t' c' :=
  ⟨by omega, fun i _ _ => by omega, fun i j _ _ _ => by omega, ⟨fun x => x, fun x => x, fun i _ _ => by omega, fun i _ _ => by omega⟩⟩
theorem bL7 {n : Nat} {x : Int} {s : Sg} (h0 : 0 ≤ x) (h1 : x < 1024) : fX12_begin_L7 (n + 1) x s = fX12_begin_L7 n (x + 1) (put s 1 x 0) := by
  conv => lhs; unfold fX12_begin_L7
  ev
theorem bL29 {n : Nat} {x : Int} {s : Sg} (h0 : 0 ≤ x) (h1 : x < 12) : fX12_begin_L29 (n + 1) x s = fX12_begin_L29 n (x + 1) (put s 2 x 0) := by
  conv => lhs; unfold fX12_begin_L29
  ev
theorem bL50 {n : Nat} {x : Int} {s : Sg} (h0 : 0 ≤ x) (h1 : x < 6) : fX12_begin_L50 (n + 1) x s = fX12_begin_L50 n (x + 1) (put s 10 x 0) := by
  conv => lhs; unfold fX12_begin_L50
  ev
theorem bL71 {n : Nat} {x : Int} {s : Sg} (h0 : 0 ≤ x) (h1 : x < 20) : fX12_begin_L71 (n + 1) x s = fX12_begin_L71 n (x + 1) (put (put s 11 x 0) 12 x 0) := by
  conv => lhs; unfold fX12_begin_L71
  ev
theorem m_begin : Mt fX11_begin fX12_begin := by
  intro N σ τ R hN
  have v := R.v
  have cls : fX11_begin σ = some (0, put (put (put (put (fillA (put (put (put (fillA (fillA (fillA (fillA (fillA σ 2 1024 0) 5 6 0) 7 12 0) 14 20 0) 15 20 0) 19 4 0) 40 3 0) 44 3 0) 49 120 0) 48 9 (-1)) 54 6 0) 0 9 2) 0 10 0) := by
    unfold fX11_begin fX8_forget fX2_forget fX0_forget fX7_forget fX7_forgetFaults
    ev
  obtain ⟨τ1, a1, a2, a3, a4⟩ := fil_loop (L := fun n x s => fX12_begin_L7 n x s) (i := 1) (m := 1024) (v := 0) (fun n x s h0 h1 => bL7 h0 h1) (fun n x s h => by unfold fX12_begin_L7; ev) fu 0 (put τ 0 54 0) (by omega) (by rw [fu_i]; omega) fu_pos
  obtain ⟨τ2, b1, b2, b3, b4⟩ := fil_loop (L := fun n x s => fX12_begin_L29 n x s) (i := 2) (m := 12) (v := 0) (fun n x s h0 h1 => bL29 h0 h1) (fun n x s h => by unfold fX12_begin_L29; ev) fu 0 τ1 (by omega) (by rw [fu_i]; omega) fu_pos
  obtain ⟨τ3, c1, c2, c3, c4⟩ := fil_loop (L := fun n x s => fX12_begin_L50 n x s) (i := 10) (m := 6) (v := 0) (fun n x s h0 h1 => bL50 h0 h1) (fun n x s h => by unfold fX12_begin_L50; ev) fu 0 τ2 (by omega) (by rw [fu_i]; omega) fu_pos
  obtain ⟨τ4, d1, d2, d3, d4⟩ := fil2_loop (L := fun n x s => fX12_begin_L71 n x s) (i := 11) (i' := 12) (by decide) (m := 20) (v := 0) (fun n x s h0 h1 => bL71 h0 h1) (fun n x s h => by unfold fX12_begin_L71; ev) fu 0 τ3 (by omega) (by rw [fu_i]; omega) fu_pos
  have rf : fX12_begin τ = some (0, put (put (put (put (put (put (put τ4 0 32 0) 0 33 0) 0 34 0) 0 35 (-1)) 0 36 0) 0 37 0) 0 31 2) := by
    unfold fX12_begin
    rw [st1_e, a1]; simp only [bnd_e]; rw [b1]; simp only [bnd_e]; rw [c1]; simp only [bnd_e]; rw [d1]; simp only [bnd_e]
    ev
  refine ⟨_, _, _, cls, rf, ?_⟩
  have far : ∀ j, j ≠ 0 → j ≠ 1 → j ≠ 2 → j ≠ 10 → j ≠ 11 → j ≠ 12 → τ4 j = τ j := fun j j0 j1 j2 j10 j11 j12 => by
    rw [d2 j j11 j12, c2 j j10, b2 j j2, a2 j j1, put_ne j0]
  have t0 : ∀ p, p ≠ 54 → τ4 0 p = τ 0 p := fun p hp => by
    rw [d2 0 (by decide) (by decide), c2 0 (by decide), b2 0 (by decide), a2 0 (by decide), put_F hp]
  have t54 : τ4 0 54 = 0 := by
    rw [d2 0 (by decide) (by decide), c2 0 (by decide), b2 0 (by decide), a2 0 (by decide), put_T rfl]
  have g1 : ∀ k : Int, 0 ≤ k → k < 1024 → τ4 1 k = 0 := fun k h0 h1 => by
    rw [d2 1 (by decide) (by decide), c2 1 (by decide), b2 1 (by decide)]; exact a3 k h0 h1
  have g2 : ∀ k : Int, 0 ≤ k → k < 12 → τ4 2 k = 0 := fun k h0 h1 => by
    rw [d2 2 (by decide) (by decide), c2 2 (by decide)]; exact b3 k h0 h1
  have g10 : ∀ k : Int, 0 ≤ k → k < 6 → τ4 10 k = 0 := fun k h0 h1 => by
    rw [d2 10 (by decide) (by decide)]; exact c3 k h0 h1
  have cl : ∀ j : Nat, j ≠ 0 → j ≠ 2 → j ≠ 5 → j ≠ 7 → j ≠ 14 → j ≠ 15 → j ≠ 19 → j ≠ 40 → j ≠ 44 → j ≠ 48 → j ≠ 49 → j ≠ 54 → (put (put (put (put (fillA (put (put (put (fillA (fillA (fillA (fillA (fillA σ 2 1024 0) 5 6 0) 7 12 0) 14 20 0) 15 20 0) 19 4 0) 40 3 0) 44 3 0) 49 120 0) 48 9 (-1)) 54 6 0) 0 9 2) 0 10 0) j = σ j := by
    intro j h0 h2 h5 h7 h14 h15 h19 h40 h44 h48 h49 h54
    rw [put_ne h0, put_ne h0, put_ne h54, put_ne h48, fillA_ne h49, put_ne h44, put_ne h40, put_ne h19, fillA_ne h15, fillA_ne h14, fillA_ne h7, fillA_ne h5, fillA_ne h2]
  generalize hS : (put (put (put (put (fillA (put (put (put (fillA (fillA (fillA (fillA (fillA σ 2 1024 0) 5 6 0) 7 12 0) 14 20 0) 15 20 0) 19 4 0) 40 3 0) 44 3 0) 49 120 0) 48 9 (-1)) 54 6 0) 0 9 2) 0 10 0) = σ' at cl
  have s2 : ∀ k : Int, 0 ≤ k → k < 1024 → σ' 2 k = 0 := fun k h0 h1 => by
    rw [← hS]; simp (disch := decide) only [put_ne, fillA_ne, fillA_at]; rw [if_pos ⟨h0, h1⟩]
  have s5 : ∀ k : Int, 0 ≤ k → k < 6 → σ' 5 k = 0 := fun k h0 h1 => by
    rw [← hS]; simp (disch := decide) only [put_ne, fillA_ne, fillA_at]; rw [if_pos ⟨h0, h1⟩]
  have s7 : ∀ k : Int, 0 ≤ k → k < 12 → σ' 7 k = 0 := fun k h0 h1 => by
    rw [← hS]; simp (disch := decide) only [put_ne, fillA_ne, fillA_at]; rw [if_pos ⟨h0, h1⟩]
  have s14 : ∀ k : Int, 0 ≤ k → k < 20 → σ' 14 k = 0 := fun k h0 h1 => by
    rw [← hS]; simp (disch := decide) only [put_ne, fillA_ne, fillA_at]; rw [if_pos ⟨h0, h1⟩]
  have s15 : ∀ k : Int, 0 ≤ k → k < 20 → σ' 15 k = 0 := fun k h0 h1 => by
    rw [← hS]; simp (disch := decide) only [put_ne, fillA_ne, fillA_at]; rw [if_pos ⟨h0, h1⟩]
  have s19 : σ' 19 4 = 0 := by rw [← hS]; simp (disch := decide) only [put_ne, fillA_ne, put_T]
  have s40 : σ' 40 3 = 0 := by rw [← hS]; simp (disch := decide) only [put_ne, fillA_ne, put_T]
  have s44 : σ' 44 3 = 0 := by rw [← hS]; simp (disch := decide) only [put_ne, fillA_ne, put_T]
  have s48 : σ' 48 9 = -1 := by rw [← hS]; simp (disch := decide) only [put_ne, fillA_ne, put_T]
  have s54 : σ' 54 6 = 0 := by rw [← hS]; simp (disch := decide) only [put_ne, fillA_ne, put_T]
  have s09 : σ' 0 9 = 2 := by rw [← hS]; simp (disch := decide) only [put_ne, fillA_ne, put_T, put_F]
  have s010 : σ' 0 10 = 0 := by rw [← hS]; simp (disch := decide) only [put_ne, fillA_ne, put_T, put_F]
  generalize hT : (put (put (put (put (put (put (put τ4 0 32 0) 0 33 0) 0 34 0) 0 35 (-1)) 0 36 0) 0 37 0) 0 31 2) = τ'
  have q : ∀ j, j ≠ 0 → τ' j = τ4 j := fun j hj => by rw [← hT, put_ne hj, put_ne hj, put_ne hj, put_ne hj, put_ne hj, put_ne hj, put_ne hj]
  have q32 : τ' 0 32 = 0 := by rw [← hT]; simp (disch := decide) only [put_T, put_F]
  have q33 : τ' 0 33 = 0 := by rw [← hT]; simp (disch := decide) only [put_T, put_F]
  have q34 : τ' 0 34 = 0 := by rw [← hT]; simp (disch := decide) only [put_T, put_F]
  have q35 : τ' 0 35 = -1 := by rw [← hT]; simp (disch := decide) only [put_T, put_F]
  have q36 : τ' 0 36 = 0 := by rw [← hT]; simp (disch := decide) only [put_T, put_F]
  have q37 : τ' 0 37 = 0 := by rw [← hT]; simp (disch := decide) only [put_T, put_F]
  have q31 : τ' 0 31 = 2 := by rw [← hT]; simp (disch := decide) only [put_T, put_F]
  have q54 : τ' 0 54 = 0 := by rw [← hT]; simp (disch := decide) only [put_F, t54]
  have c5 := R.ref
  refine { v := ?_, gap := by rw [s09, q31]; omega, ref := by rw [s010, q37]; omega, seen := by rw [s54, q36]; exact RelS_0, tape := ?_, play := .inl q54 }
  · exact {
      g := fun k h0 h1 => by dsimp only [vw]; rw [s2 k h0 h1, q 1 (by decide), g1 k h0 h1]; omega
      k := fun k h0 h1 => by
        have := v.k k h0 h1
        dsimp only [vw] at this ⊢
        rw [s7 k h0 h1, q 2 (by decide), g2 k h0 h1, cl 8 (by decide) (by decide) (by decide) (by decide) (by decide) (by decide) (by decide) (by decide) (by decide) (by decide) (by decide) (by decide), cl 9 (by decide) (by decide) (by decide) (by decide) (by decide) (by decide) (by decide) (by decide) (by decide) (by decide) (by decide) (by decide), cl 10 (by decide) (by decide) (by decide) (by decide) (by decide) (by decide) (by decide) (by decide) (by decide) (by decide) (by decide) (by decide), cl 11 (by decide) (by decide) (by decide) (by decide) (by decide) (by decide) (by decide) (by decide) (by decide) (by decide) (by decide) (by decide), cl 12 (by decide) (by decide) (by decide) (by decide) (by decide) (by decide) (by decide) (by decide) (by decide) (by decide) (by decide) (by decide),
          q 3 (by decide), q 4 (by decide), q 5 (by decide), q 6 (by decide), q 7 (by decide), far 3 (by decide) (by decide) (by decide) (by decide) (by decide) (by decide), far 4 (by decide) (by decide) (by decide) (by decide) (by decide) (by decide), far 5 (by decide) (by decide) (by decide) (by decide) (by decide) (by decide), far 6 (by decide) (by decide) (by decide) (by decide) (by decide) (by decide), far 7 (by decide) (by decide) (by decide) (by decide) (by decide) (by decide)]
        exact ⟨⟨rfl, this.1.2⟩, by omega, fun x => by omega⟩
      b := fun k h0 h1 => by dsimp only [vw]; rw [s5 k h0 h1, q 10 (by decide), g10 k h0 h1]; exact ⟨rfl, by omega, fun x => by omega⟩
      d := fun k h0 h1 => by dsimp only [vw]; rw [s14 k h0 h1, s15 k h0 h1, q 11 (by decide), q 12 (by decide), (d3 k h0 h1).1, (d3 k h0 h1).2]; omega
      n := by dsimp only [vw]; rw [s19, q32]; omega
      c := fun k h0 h1 => by dsimp only [vw] at h1; rw [q32] at h1; omega
      m := by
        refine ⟨by dsimp only [vw]; rw [s40, q33]; omega, fun k h0 h1 => ?_⟩
        dsimp only [vw] at h1; rw [q33] at h1; omega
      r := by
        refine ⟨by dsimp only [vw]; rw [s44, q34]; omega, fun k h0 h1 => ?_⟩
        dsimp only [vw] at h1; rw [q34] at h1; omega
      h := by dsimp only [vw]; rw [s48, q35]; omega
      f := fun k w t _ _ => by
        have t2 := t.2
        dsimp only [vw] at t2
        rw [q 2 (by decide), g2 k t.1.1 t.1.2] at t2; omega }
  · refine tape_congr R.tape (fun j hj => cl j ?_ ?_ ?_ ?_ ?_ ?_ ?_ ?_ ?_ ?_ ?_ ?_) (fun j h1 h2 => by rw [q j (by omega), far j (by omega) (by omega) (by omega) (by omega) (by omega) (by omega)]) <;> omega
end

section
set_option linter.unusedVariables false
variable {σ τ : Sg} {V : Vw} {N : Int}
/-- both have played -/
theorem both_play (R : Rel N σ τ) : ∃ σ' τ', fX7_reckon σ = some σ' ∧ fX12_plays τ = some τ' ∧ Rel N σ' τ' ∧ vw τ' = vw τ ∧ Played (vw τ) (σ' 50) (σ' 52) (σ' 53) ∧ Played (vw τ) (τ' 40) (τ' 41) (τ' 42) ∧ (∀ j, j ≠ 0 → j ≠ 39 → j ≠ 40 → j ≠ 41 → j ≠ 42 → τ' j = τ j) ∧ (∀ p, p ≠ 54 → τ' 0 p = τ 0 p) ∧ (∀ j, j ≠ 50 → j ≠ 51 → j ≠ 52 → j ≠ 53 → σ' j = σ j) := by
  obtain ⟨σ', a1, a2, a3⟩ := cc_reckon R.v
  obtain ⟨τ', b1, b2, b3, b4, b5⟩ := rr_plays R.v.toRelN R.play
  have hv : vw τ' = vw τ := vw_congr (fun j hj => b2 j (ne_of_mem hj (by decide)) (ne_of_mem hj (by decide)) (ne_of_mem hj (by decide)) (ne_of_mem hj (by decide)) (ne_of_mem hj (by decide))) (b3 _ (by decide)) (b3 _ (by decide)) (b3 _ (by decide)) (b3 _ (by decide))
  refine ⟨σ', τ', a1, b1, ?_, hv, a3, b5, b2, b3, a2⟩
  refine Rel_scr R (fun j j1 j2 j3 => a2 j (by omega) (by omega) (by omega) (by omega)) (fun j j0 j1 j2 => b2 j j0 (by omega) (by omega) (by omega) (by omega)) (fun p p0 p1 => b3 p (by omega)) ?_
  right
  rw [hv]; exact ⟨b4, b5⟩
theorem fate1_rng (V : Vw) (c m : Int) : 0 ≤ fate1 V c m ∧ fate1 V c m ≤ 6 := by
  unfold fate1
  split
  · omega
  split
  · omega
  split
  · omega
  split
  · omega
  split
  · omega
  split <;> omega
theorem plF_ex (V : Vw) (L : Int → Int) : ∀ (i : Nat) (j : Int), 0 ≤ j → j < i → ∃ m, plF V L i (L j) = fate1 V (L j) m
  | 0, j, h0, h1 => by omega
  | i + 1, j, h0, h1 => by
    unfold plF
    by_cases e : L j = L i
    · rw [zupd_T e, e]; exact ⟨_, rfl⟩
    · rw [zupd_F e]
      exact plF_ex V L i j h0 (by
        by_cases e2 : j = i
        · exact absurd (by rw [e2]) e
        · omega)
theorem fateV_ex (R : RelN σ V) {c : Int} (h0 : 0 ≤ c) (h1 : c < V.n) : ∃ m, fateV V c = fate1 V c m := by
  obtain ⟨j, a, b, rfl⟩ := line_sur R h0 h1
  exact plF_ex V (lineV V) V.n.toNat j a (by omega)
theorem fateV_rng (R : RelN σ V) {c : Int} (h0 : 0 ≤ c) (h1 : c < V.n) : 0 ≤ fateV V c ∧ fateV V c ≤ 6 := by
  obtain ⟨m, e⟩ := fateV_ex R h0 h1
  rw [e]; exact fate1_rng V c m
theorem has_told (R : RelN σ V) {c : Int} (h0 : 0 ≤ c) (h1 : c < V.n) (h : isSh (fateV V c)) : told V (hasV V c) := by
  obtain ⟨m, e⟩ := fateV_ex R h0 h1
  rw [e] at h
  have hne : hasV V c ≠ -1 := by
    intro x
    unfold fate1 at h
    rw [if_pos x] at h
    unfold isSh at h
    split at h
    · omega
    split at h
    · omega
    split at h <;> omega
  unfold hasV at hne ⊢
  by_cases w : wellV V c
  · rw [if_pos w]; exact (R.c c h0 h1).2.1
  · rw [if_neg w] at hne ⊢
    exact (other_ne R hne).1
theorem lineV_rng (R : RelN σ V) {c : Int} (h0 : 0 ≤ c) (h1 : c < V.n) : 0 ≤ lineV V c ∧ lineV V c < V.n := by
  have := srtF_rng (fireV V) V.n.toNat c h0 (by omega)
  unfold lineV; omega
theorem fateOf_e {c : Int} (h0 : 0 ≤ c) (h1 : c < 120) : fX7_fateOf c σ = some (σ 52 c) := by unfold fX7_fateOf; ev
theorem m_fate (c : Int) : Mt (fX11_fate c) (fX12_fate c) := by
  intro N σ τ R hN
  have v := R.v
  have hn := v.n
  dsimp only [vw] at hn
  unfold fX11_fate fX12_fate
  rw [cc_isCue v.toRelN, rr_isCue (by omega) (by omega)]; simp only [bnd_e]
  by_cases h : 0 ≤ c ∧ c < τ 0 32
  · rw [bi_T h]; bb
    obtain ⟨σ', τ', a1, a2, a3, a4, a5, a6, -⟩ := both_play R
    rw [a1, a2]; simp only [bnd_e]
    rw [fateOf_e h.1 (by omega), rd_e h.1 (by omega)]
    refine ⟨_, _, _, rfl, ?_, a3.up⟩
    rw [(a5 c h.1 h.2).2.1, (a6 c h.1 h.2).2.1]
  · rw [bi_F h]; exact no_ch R
theorem m_order (c : Int) : Mt (fX11_order c) (fX12_order c) := by
  intro N σ τ R hN
  have v := R.v
  have hn := v.n
  dsimp only [vw] at hn
  unfold fX11_order fX12_order
  rw [cc_isCue v.toRelN, rr_isCue (by omega) (by omega)]; simp only [bnd_e]
  by_cases h : 0 ≤ c ∧ c < τ 0 32
  · rw [bi_T h]; bb
    obtain ⟨σ', τ', a1, a2, a3, a4, a5, a6, -⟩ := both_play R
    rw [a1, a2]; simp only [bnd_e]
    have e : fX7_cueAt c σ' = some (σ' 50 c) := by unfold fX7_cueAt; ev
    rw [e, rd_e h.1 (by omega)]
    refine ⟨_, _, _, rfl, ?_, a3.up⟩
    rw [(a5 c h.1 h.2).1, (a6 c h.1 h.2).1]
  · rw [bi_F h]; exact no_ch R
theorem m_many (x : Int) : Mt (fX11_many x) (fX12_many x) := by
  intro N σ τ R hN
  have v := R.v
  have hn := v.n
  dsimp only [vw] at hn
  unfold fX11_many fX12_many
  rw [isIn_b]; simp only [bnd_e]
  by_cases h : 0 ≤ x ∧ x ≤ 6
  · rw [bi_T h, iF (show ¬ x < 0 by omega), iT h.2]; bb
    obtain ⟨σ', τ', a1, a2, a3, a4, a5, a6, f1, f2, f3⟩ := both_play R
    rw [a1, a2]; simp only [bnd_e]
    have hn' : σ' 19 4 = τ 0 32 := by rw [f3 19 (by decide) (by decide) (by decide) (by decide)]; exact hn.1
    have hn2 : τ' 0 32 = τ 0 32 := f2 32 (by decide)
    have l1 := cnt (L := fun n a i => fX11_many_L23 n x a i σ') (m := τ 0 32) (g := fun i => bi (fateV (vw τ) i = x)) (fun j => bi_rng)
      (fun n a i i0 i1 a0 a1 => by
        conv => lhs; unfold fX11_many_L23
        rw [iT (by omega), fateOf_e i0 (by omega), (a5 i i0 i1).2.1]; simp only [bnd_e]
        by_cases e : fateV (vw τ) i = x
        · rw [iT e, bi_T e]; unfold fX11_many_L23P49; ev
        · rw [iF e, bi_F e]; unfold fX11_many_L23P49; ev; rw [show a + 0 = a by omega])
      (fun n a i i0 => by unfold fX11_many_L23; rw [iF (by omega)]) fu 0 0 (by omega) (by omega) (by omega) (by rw [fu_i]; omega) fu_pos
    have l2 := cnt (L := fun n a i => fX12_many_L20 n x a i τ') (m := τ 0 32) (g := fun i => bi (fateV (vw τ) i = x)) (fun j => bi_rng)
      (fun n a i i0 i1 a0 a1 => by
        conv => lhs; unfold fX12_many_L20
        rw [iT (by omega), rd_e i0 (by omega), (a6 i i0 i1).2.1]
        by_cases e : fateV (vw τ) i = x
        · rw [iT e, bi_T e]; unfold fX12_many_L20P44; ev
        · rw [iF e, bi_F e]; unfold fX12_many_L20P44; ev)
      (fun n a i i0 => by unfold fX12_many_L20; rw [iF (by omega)]) fu 0 0 (by omega) (by omega) (by omega) (by rw [fu_i]; omega) fu_pos
    rw [l1, l2]
    exact ⟨_, _, _, rfl, rfl, a3.up⟩
  · rw [bi_F h]
    by_cases h0 : x < 0
    · rw [iT h0]; exact no_ch R
    · rw [iF h0, iF (show ¬ x ≤ 6 by omega)]; exact no_ch R
/-- goes: an answer, or one of two failures -/
def Mg (f fT g : Sg → Option (Int × Sg)) : Prop := ∀ N σ τ, Rel N σ τ → N ≤ 1000000 → ∃ w τ', g τ = some (w, τ') ∧
  ((∃ σ', f σ = some (w, σ') ∧ τ' 0 38 = 0 ∧ Rel (N + 1) σ' τ') ∨ (∃ q σ', (q = 1 ∨ q = 2) ∧ fT σ = some (q, σ') ∧ τ' 0 38 = q ∧ Rel (N + 1) σ' τ'))
theorem Rel_38 {x : Int} (R : Rel N σ τ) : Rel N σ (put τ 0 38 x) := by
  refine Rel_scr R (fun _ _ _ _ => rfl) (fun j h _ _ => put_ne h) (fun p h1 h2 => put_F (by omega)) ?_
  rcases R.play with h | ⟨h1, h2⟩
  · exact .inl (by rw [put_F (by decide)]; exact h)
  · exact .inr ⟨by rw [put_F (by decide)]; exact h1, h2⟩
theorem m_goes (c x : Int) : Mg (fX11_goes c x) (fX11_goesT c x) (fX12_goes c x) := by
  intro N σ τ R hN
  have v := R.v
  have hn := v.n
  dsimp only [vw] at hn
  unfold fX11_goes fX11_goesT fX12_goes
  rw [cc_isCue v.toRelN, rr_isCue (by omega) (by omega)]; simp only [bnd_e]
  have bad : ∃ w τ', fX12_goes_P18 c x τ = some (w, τ') ∧ τ' 0 38 = 1 ∧ Rel (N + 1) σ τ' := by
    refine ⟨0, put τ 0 38 1, ?_, put_T rfl, (Rel_38 R).up⟩
    unfold fX12_goes_P18 fX12_goes_P23
    rw [st1_e, put_T rfl, iF (by decide)]
  have badC : ∃ σ', fX11_goesT_P20 σ = some ((1 : Int), σ') ∧ σ' = σ := ⟨σ, rfl, rfl⟩
  by_cases h : 0 ≤ c ∧ c < τ 0 32
  · rw [bi_T h]; bb
    rw [isIn_b]; simp only [bnd_e]
    by_cases hx : 0 ≤ x ∧ x ≤ 2
    · rw [bi_T hx, iF (show ¬ x < 0 by omega), iT hx.2, iF (show ¬ x < 0 by omega), iT hx.2]; bb
      obtain ⟨σ', τ', a1, a2, a3, a4, a5, a6, f1, f2, f3⟩ := both_play (Rel_38 (x := 0) R)
      have hvw : vw (put τ 0 38 0) = vw τ := rfl
      rw [hvw] at a4 a5 a6
      unfold fX12_goes_P23
      rw [st1_e, put_T rfl, iT rfl, a1, a2]; simp only [bnd_e]
      rw [fateOf_e h.1 (by omega), rd_e h.1 (by omega), (a5 c h.1 h.2).2.1, (a6 c h.1 h.2).2.1]; simp only [bnd_e]
      have hr := fateV_rng v.toRelN h.1 h.2
      have hhC := (a5 c h.1 h.2).2.2
      have hhR := (a6 c h.1 h.2).2.2
      rw [(a5 c h.1 h.2).2.1] at hhC
      rw [(a6 c h.1 h.2).2.1] at hhR
      have ht := has_told v.toRelN h.1 h.2
      generalize hF : fateV (vw τ) c = F at hr hhC hhR ht ⊢
      have vR : RelN σ' (vw τ') := a3.v.toRelN
      rw [a4] at vR
      have e := v.c c h.1 h.2
      by_cases c1 : F ≤ 1
      · have sh : isSh F := by unfold isSh; omega
        have ht := ht sh
        have hk := v.k _ ht.1.1 ht.1.2
        have htk := ht.1
        have hhC := hhC sh
        have hhR := hhR sh
        have g13 : τ' 13 = τ 13 := f1 13 (by decide) (by decide) (by decide) (by decide) (by decide)
        have g2 : τ' 2 = τ 2 := f1 2 (by decide) (by decide) (by decide) (by decide) (by decide)
        have g17 : τ' 17 = τ 17 := f1 17 (by decide) (by decide) (by decide) (by decide) (by decide)
        have hkh : fX7_kindHad c σ' = some (hasV (vw τ) c) := by
          unfold fX7_kindHad; ev; rw [hhC]
        have hk0 := (v.k _ e.2.1.1.1 e.2.1.1.2).2.1
        dsimp only [vw] at e hk hk0
        have ans : ∃ w, fX11_goes_P67 c x σ' = some (w, σ') ∧ fX12_goes_P55 c x 0 τ' = some (w, put τ' 0 38 0) := by
          unfold fX11_goes_P67 fX12_goes_P55
          rw [hkh, st1_e, put_T rfl, iT rfl]; simp only [bnd_e]
          by_cases x0 : x = 0
          · rw [iT x0, iT x0, rd_e h.1 (by omega), put_ne (by decide), hhR]; exact ⟨_, rfl, rfl⟩
          · rw [iF x0, iF x0]
            by_cases x1 : x = 1
            · rw [iT x1, iT x1, cc_burst vR h.1 h.2, rd_e h.1 (by omega), rd_e h.1 (by omega)]; simp (disch := decide) only [put_ne, bnd_e]
              rw [hhR, rd_e (by omega) (by omega)]; simp (disch := decide) only [put_ne]; rw [g13, g2]
              rw [cc_lift vR ht]; simp only [bnd_e]
              try dsimp only [vw]
              rw [ck_e (by omega) (by omega), ck_e (by omega) (by omega)]; exact ⟨_, rfl, rfl⟩
            · rw [iF x1, iF x1, cc_burst vR h.1 h.2, cc_fault vR h.1 h.2, rd_e h.1 (by omega), rd_e h.1 (by omega)]; simp (disch := decide) only [put_ne, bnd_e]; rw [g13, g17]
              try dsimp only [vw]
              rw [ck_e (by omega) (by omega), ck_e (by omega) (by omega)]; exact ⟨_, rfl, rfl⟩
        obtain ⟨w, w1, w2⟩ := ans
        refine ⟨w, put τ' 0 38 0, by rw [iT c1, w2], .inl ⟨σ', ?_, put_T rfl, (Rel_38 a3).up⟩⟩
        by_cases f0 : F = 0
        · rw [iT f0]; exact w1
        · rw [iF f0, iT (by omega)]; exact w1
      · refine ⟨0, put τ' 0 38 2, ?_, .inr ⟨2, σ', by omega, ?_, put_T rfl, (Rel_38 a3).up⟩⟩
        · rw [iF c1]; unfold fX12_goes_P55; rw [st1_e, put_T rfl, iF (by decide)]
        · rw [iF (by omega), iF (by omega)]
    · rw [bi_F hx]; bb
      obtain ⟨w, τ', b1, b2, b3⟩ := bad
      refine ⟨w, τ', b1, .inr ⟨1, σ, by omega, ?_, b2, b3⟩⟩
      by_cases h0 : x < 0
      · rw [iT h0]; rfl
      · rw [iF h0, iF (show ¬ x ≤ 2 by omega)]; rfl
  · rw [bi_F h]; bb
    obtain ⟨w, τ', b1, b2, b3⟩ := bad
    exact ⟨w, τ', b1, .inr ⟨1, σ, by omega, rfl, b2, b3⟩⟩
/-- a method that only answers, or fails: the class's state stays -/
def Mc (f fT : Sg → Option Int) (g : Sg → Option (Int × Sg)) : Prop := ∀ N σ τ, Rel N σ τ → ∃ w τ', g τ = some (w, τ') ∧ Rel N σ τ' ∧ ((f σ = some w ∧ τ' 0 38 = 0) ∨ (∃ q, (q = 1 ∨ q = 2) ∧ fT σ = some q ∧ τ' 0 38 = q))
theorem m_cue (c x : Int) : Mc (fX11_cue c x) (fX11_cueT c x) (fX12_cue c x) := by
  intro N σ τ R
  have v := R.v
  have hn := v.n
  dsimp only [vw] at hn
  unfold fX11_cue fX11_cueT fX12_cue
  rw [isIn_b]; simp only [bnd_e]
  by_cases hx : 0 ≤ x ∧ x ≤ 4
  · rw [bi_T hx, iF (show ¬ x < 0 by omega), iT hx.2, iF (show ¬ x < 0 by omega), iT hx.2, cc_isCue v.toRelN, rr_isCue (by omega) (by omega)]; bb
    by_cases h : 0 ≤ c ∧ c < τ 0 32
    · rw [bi_T h]; bb
      have e := v.c c h.1 h.2
      have ht := e.2.1
      have hk := v.k _ ht.1.1 ht.1.2
      have hti := ht.1
      dsimp only [vw] at hk e hti
      unfold fX12_cue_P27
      rw [st1_e, put_T rfl, iT rfl]
      have main : ∃ w, (if x = 0 then (fX1_burstOf 19 c σ).bind fun q16 => some q16 else if x = 1 then (fX1_kindOf 19 c σ).bind fun q14 => some q14 else if x = 2 then (fX1_bargeOf 19 c σ).bind fun q12 => some q12 else if x = 3 then (fX1_angleOf 19 c σ).bind fun q10 => some q10 else (fX8_fireOf 19 c σ).bind fun q4 => some q4) = some w ∧
          (if x = 0 then rd (put τ 0 38 0) 13 120 c fun v48 => some (v48, put τ 0 38 0) else if x = 1 then rd (put τ 0 38 0) 14 120 c fun v45 => some (v45, put τ 0 38 0) else if x = 2 then rd (put τ 0 38 0) 15 120 c fun v42 => some (v42, put τ 0 38 0) else if x = 3 then rd (put τ 0 38 0) 16 120 c fun v39 => some (v39, put τ 0 38 0) else rd (put τ 0 38 0) 13 120 c fun v31 => rd (put τ 0 38 0) 14 120 c fun v33 => rd (put τ 0 38 0) 2 12 v33 fun v35 => ck (v31 - v35) fun v37 => some (v37, put τ 0 38 0)) = some (w, put τ 0 38 0) := by
        by_cases x0 : x = 0
        · rw [iT x0, iT x0, cc_burst v.toRelN h.1 h.2, rd_e h.1 (by omega)]; exact ⟨_, rfl, rfl⟩
        · rw [iF x0, iF x0]
          by_cases x1 : x = 1
          · rw [iT x1, iT x1, cc_kind v.toRelN h.1 h.2, rd_e h.1 (by omega)]; exact ⟨_, rfl, rfl⟩
          · rw [iF x1, iF x1]
            by_cases x2 : x = 2
            · rw [iT x2, iT x2, cc_barge v.toRelN h.1 h.2, rd_e h.1 (by omega)]; exact ⟨_, rfl, rfl⟩
            · rw [iF x2, iF x2]
              by_cases x3 : x = 3
              · rw [iT x3, iT x3, cc_angle v.toRelN h.1 h.2, rd_e h.1 (by omega)]; exact ⟨_, rfl, rfl⟩
              · rw [iF x3, iF x3, cc_fire v.toRelN h.1 h.2, rd_e h.1 (by omega), rd_e h.1 (by omega)]; simp (disch := decide) only [put_ne, bnd_e]; rw [rd_e hti.1 (by omega)]; simp (disch := decide) only [put_ne]; rw [ck_e (by omega) (by omega)]
                exact ⟨_, rfl, rfl⟩
      obtain ⟨w, w1, w2⟩ := main
      exact ⟨w, _, w2, Rel_38 R, .inl ⟨w1, put_T rfl⟩⟩
    · rw [bi_F h]; bb
      refine ⟨0, put τ 0 38 2, ?_, Rel_38 R, .inr ⟨2, by omega, rfl, put_T rfl⟩⟩
      unfold fX12_cue_P27; rw [st1_e, put_T rfl, iF (by decide)]
  · rw [bi_F hx]; bb
    refine ⟨0, put τ 0 38 1, ?_, Rel_38 R, .inr ⟨1, by omega, ?_, put_T rfl⟩⟩
    · unfold fX12_cue_P27; rw [st1_e, put_T rfl, iF (by decide)]
    · by_cases h0 : x < 0
      · rw [iT h0]; rfl
      · rw [iF h0, iF (show ¬ x ≤ 4 by omega)]; rfl
end

