/-! PURE: what both programs do, in words of their own. -/
theorem zb01 {c : Prop} [Decidable c] : ((if c then (1 : Int32) else 0) = 0 ∨ (if c then (1 : Int32) else 0) = 1) = True := by
  by_cases h : c <;> simp [h]
theorem zin_d {i : Nat} {a s : Nat} (hs : a = 100 + s) (hi : i < s) (hb : s < 2000) : zin (nI i) a = true := by
  subst hs
  simp only [zin, Bool.and_eq_true, decide_eq_true_eq]
  rw [nI_toInt (by omega)]
  omega
theorem zlt {a b : Nat} (ha : a < 2147483648) (hb : b < 2147483648) : (nI a < nI b) = (a < b) := propext (nI_ltI ha hb)
theorem zle {a b : Nat} (ha : a < 2147483648) (hb : b < 2147483648) : (nI a ≤ nI b) = (a ≤ b) := propext (nI_leI ha hb)
theorem zeq {a b : Nat} (ha : a < 2147483648) (hb : b < 2147483648) : (nI a = nI b) = (a = b) := propext (nI_eq ha hb)
theorem zlit (n : Nat) : (OfNat.ofNat n : Int32) = nI n := rfl
theorem zclamp {a : Nat} (ha : a < 2147483648) : (nI a).toNatClampNeg = a := nI_clamp ha
theorem zinc (a : Nat) : nI a + 1 = nI (a + 1) := nI_1 a
theorem zdec {a : Nat} (h : 1 ≤ a) : nI a - 1 = nI (a - 1) := by
  obtain ⟨b, rfl⟩ : ∃ b, a = b + 1 := ⟨a - 1, by omega⟩
  exact nI_pred b
theorem zds {v : Value} : zdrop2 (some v) = if v.category = 2 then none else some v := rfl
theorem zdi {x : Int32} : zdrop2 (some (.int x)) = some (.int x) := rfl
theorem zdr {x : Nat} : zdrop2 (some (.ref x)) = some (.ref x) := rfl
theorem zdl {x : Int64} : zdrop2 (some (.long x)) = none := rfl
theorem zdn : zdrop2 none = none := rfl
theorem zpi {v : Value} {st : List Value} : zpush (some v) st = v :: st := rfl
theorem zpn {st : List Value} : zpush none st = st := rfl
theorem zift {α : Sort _} {c : Prop} [Decidable c] {a b : α} (h : c) : (if c then a else b) = a := if_pos h
theorem ziff {α : Sort _} {c : Prop} [Decidable c] {a b : α} (h : ¬ c) : (if c then a else b) = b := if_neg h
abbrev SF : Type := Nat → Int32
def hold (k f : Int32) : Int32 := if k = 2 then f + 1 - 1 else if k = 3 then 2 * (f + 1) else if k = 4 then 2 * (f + 1) + 3 else if k = 5 then (f + 1 - 1) / 2 else f + 1
def east (f : Int32) : Int32 := if 5 < f then 2 else 1
def leanv (k f : Int32) : Int32 := if k = 1 then east f else if k = 2 then -east f else if k = 5 then -east f - 1 else 0
theorem loopA {α : Type} {N : Nat} (E : α → Nat → Prop) {R : Prop} (h : ∀ x i, i < N → ∃ y, E x i = E y (i + 1)) (he : ∀ x, E x N = R) : ∀ (a : Nat) (x : α), a ≤ N → E x a = R := by
  have key : ∀ (k a : Nat) (x : α), a + k = N → E x a = R := by
    intro k
    induction k with
    | zero => intro a x ha; rw [show a = N by omega]; exact he x
    | succ k ih =>
      intro a x ha
      obtain ⟨y, hy⟩ := h x a (by omega)
      rw [hy]
      exact ih (a + 1) y (by omega)
  exact fun a x ha => key (N - a) a x (by omega)
theorem loopE {N : Nat} (E : Nat → Prop) {R : Prop} (h : ∀ i, i < N → E i = E (i + 1)) (he : E N = R) (a : Nat) (ha : a ≤ N) : E a = R :=
  loopA (α := Unit) (fun _ i => E i) (fun _ i hi => ⟨(), h i hi⟩) (fun _ => he) a () ha
/-- the first from i on, of k, that is so; -9 -/
def zf (p : Nat → Prop) [DecidablePred p] : Nat → Nat → Int32
  | _, 0 => -9
  | i, k + 1 => if p i then nI i else zf p (i + 1) k
theorem loopF {α : Type} {N : Nat} {p : Nat → Prop} [DecidablePred p] (E : α → Nat → Prop) {G : Int32 → Prop} (h : ∀ x i, i < N → ∃ y, E x i = if p i then G (nI i) else E y (i + 1)) (he : ∀ x, E x N = G (-9)) : ∀ (a : Nat) (x : α), a ≤ N → E x a = G (zf p a (N - a)) := by
  have key : ∀ (k a : Nat) (x : α), a + k = N → E x a = G (zf p a k) := by
    intro k
    induction k with
    | zero => intro a x ha; rw [show a = N by omega]; exact he x
    | succ k ih =>
      intro a x ha
      obtain ⟨y, hy⟩ := h x a (by omega)
      rw [hy, zf, ih (a + 1) y (by omega)]
      by_cases hp : p a
      · rw [if_pos hp, if_pos hp]
      · rw [if_neg hp, if_neg hp]
  exact fun a x ha => key (N - a) a x (by omega)
theorem loopV {N : Nat} {p : Nat → Prop} [DecidablePred p] (E : Nat → Prop) {G : Int32 → Prop} (h : ∀ i, i < N → E i = if p i then G (nI i) else E (i + 1)) (he : E N = G (-9)) (a : Nat) (ha : a ≤ N) : E a = G (zf p a (N - a)) :=
  loopF (α := Unit) (fun _ i => E i) (fun _ i hi => ⟨(), h i hi⟩) (fun _ => he) a () ha
def iabs (v : Int32) : Int32 := if 0 ≤ v then v else -v
def lsum (K F : SF) : Nat → Int32
  | 0 => 0
  | k + 1 => lsum K F k + leanv (K k) (F k)
def far (K F : SF) : Nat → Int32
  | 0 => 0
  | k + 1 => if far K F k < iabs (lsum K F (k + 1)) then iabs (lsum K F (k + 1)) else far K F k
def hmin (K F : SF) (i : Nat) : Int32 := if hold (K (i + 1)) (F (i + 1)) < hold (K i) (F i) then hold (K (i + 1)) (F (i + 1)) else hold (K i) (F i)
def held (K F L : SF) (i : Nat) : Int32 := if K i = K (i + 1) then hmin K F i + 3 else if L i = L (i + 1) then hmin K F i else if hmin K F i - 1 < 0 then 0 else hmin K F i - 1
def load (n i : Nat) : Int32 := (nI n - 1 - nI i) / 2 + 1
def spare (n : Nat) (K F L : SF) (i : Nat) : Int32 := held K F L i - load n i
def brk (n : Nat) (K F L : SF) : Int32 := zf (fun i => spare n K F L i < 0) 0 (n - 1)
def lng (n : Nat) (K F : SF) : Int32 := zf (fun i => ¬ iabs (lsum K F (i + 1)) ≤ 6) 0 n
def stnd (n : Nat) (K F L : SF) : Prop := brk n K F L = -9 ∧ lng n K F = -9
def stndB (n : Nat) (K F L : SF) : Bool := decide (brk n K F L = -9) && decide (lng n K F = -9)
theorem zQi {Q : Option Value → zG → Prop} {σ : zG} {c : Prop} [Decidable c] {a b : Int32} : (if c then Q (some (.int a)) σ else Q (some (.int b)) σ) = Q (some (.int (if c then a else b))) σ := by
  by_cases h : c <;> simp only [h, if_true, if_false]
theorem five {P : Int32 → Prop} (k : Int32) (h1 : P 1) (h2 : P 2) (h3 : P 3) (h4 : P 4) (h5 : P 5) (h : k ≠ 1 → k ≠ 2 → k ≠ 3 → k ≠ 4 → k ≠ 5 → P k) : P k := by
  by_cases e1 : k = 1
  · rw [e1]; exact h1
  by_cases e2 : k = 2
  · rw [e2]; exact h2
  by_cases e3 : k = 3
  · rw [e3]; exact h3
  by_cases e4 : k = 4
  · rw [e4]; exact h4
  by_cases e5 : k = 5
  · rw [e5]; exact h5
  exact h e1 e2 e3 e4 e5
theorem leanv_c (k f : Int32) : (if f ≤ 5 then (if k = 1 then (1 : Int32) else if k = 2 then -1 else if k = 3 then 0 else if k = 4 then 0 else if k = 5 then -1 - 1 else 0) else (if k = 1 then (2 : Int32) else if k = 2 then -2 else if k = 3 then 0 else if k = 4 then 0 else if k = 5 then -2 - 1 else 0)) = leanv k f := by
  have e : east f = if f ≤ 5 then 1 else 2 := by
    by_cases h : f ≤ 5
    · rw [if_pos h, east, if_neg (Int32.not_lt.mpr h)]
    · rw [if_neg h, east, if_pos (Int32.not_le.mp h)]
  rw [leanv, e]
  by_cases h : f ≤ 5
  · simp only [h, if_true]
    refine five (P := fun k => (if k = 1 then (1 : Int32) else if k = 2 then -1 else if k = 3 then 0 else if k = 4 then 0 else if k = 5 then -1 - 1 else 0) = if k = 1 then 1 else if k = 2 then -1 else if k = 5 then -1 - 1 else 0) k rfl rfl rfl rfl rfl ?_
    intro e1 e2 e3 e4 e5
    simp only [e1, e2, e3, e4, e5, if_false]
  · simp only [h, if_false]
    refine five (P := fun k => (if k = 1 then (2 : Int32) else if k = 2 then -2 else if k = 3 then 0 else if k = 4 then 0 else if k = 5 then -2 - 1 else 0) = if k = 1 then 2 else if k = 2 then -2 else if k = 5 then -2 - 1 else 0) k rfl rfl rfl rfl rfl ?_
    intro e1 e2 e3 e4 e5
    simp only [e1, e2, e3, e4, e5, if_false]
theorem iabs_c (x : Int32) : (if 0 ≤ x then x else 0 - x) = iabs x := by rw [iabs, Int32.zero_sub]
theorem zb_eq {c : Prop} [Decidable c] : ((if c then (1 : Int32) else 0) = 0) = ¬ c := by
  by_cases h : c <;> simp [h]
theorem zb_ne {c : Prop} [Decidable c] : ((if c then (1 : Int32) else 0) ≠ 0) = c := by
  by_cases h : c <;> simp [h]
/-- figures as they must be -/
def Fok (n : Nat) (F : SF) : Prop := ∀ i, i < n → ∃ v, v ≤ 9 ∧ F i = nI v
theorem hold_pos {k : Int32} {v : Nat} (hv : v ≤ 9) : ∃ w, w ≤ 23 ∧ hold k (nI v) = nI w := by
  have h : ∀ v, v ≤ 9 → nI v + 1 - 1 = nI v ∧ 2 * (nI v + 1) = nI (2 * (v + 1)) ∧ 2 * (nI v + 1) + 3 = nI (2 * (v + 1) + 3) ∧ (nI v + 1 - 1) / 2 = nI (v / 2) ∧ nI v + 1 = nI (v + 1) := by decide +kernel
  obtain ⟨h1, h2, h3, h4, h5⟩ := h v hv
  rw [hold, h3, h2, h4, h1, h5]
  split
  · exact ⟨v, by omega, rfl⟩
  split
  · exact ⟨2 * (v + 1), by omega, rfl⟩
  split
  · exact ⟨2 * (v + 1) + 3, by omega, rfl⟩
  split
  · exact ⟨v / 2, by omega, rfl⟩
  · exact ⟨v + 1, by omega, rfl⟩
theorem hmin_pos {n : Nat} {K F : SF} (hF : Fok n F) {i : Nat} (hi : i + 1 < n) : ∃ w, w ≤ 23 ∧ hmin K F i = nI w := by
  obtain ⟨v, hv, e1⟩ := hF i (by omega)
  obtain ⟨u, hu, e2⟩ := hF (i + 1) hi
  obtain ⟨a, ha, e3⟩ := hold_pos (k := K i) hv
  obtain ⟨b, hb, e4⟩ := hold_pos (k := K (i + 1)) hu
  rw [hmin, e1, e2, e3, e4]
  split
  · exact ⟨b, hb, rfl⟩
  · exact ⟨a, ha, rfl⟩
/-- how much a joint holds, as a number -/
theorem held_pos {n : Nat} {K F L : SF} (hF : Fok n F) {i : Nat} (hi : i + 1 < n) : ∃ w, w ≤ 26 ∧ held K F L i = nI w := by
  obtain ⟨w, hw, e⟩ := hmin_pos (K := K) hF hi
  rw [held, e]
  split
  · exact ⟨w + 3, by omega, by rw [show (3 : Int32) = nI 3 from rfl, nI_add]⟩
  split
  · exact ⟨w, by omega, rfl⟩
  split
  · exact ⟨0, by omega, rfl⟩
  · rename_i h
    cases w with
    | zero => exact absurd (show nI 0 - 1 < 0 by decide) h
    | succ w => exact ⟨w, by omega, nI_pred w⟩
theorem load_eq {n i : Nat} (hi : i < n) (hn : n ≤ 13) : load n i = nI ((n - 1 - i) / 2 + 1) := by
  rw [load, zdec (by omega), pk_sub (by omega), show (2 : Int32) = nI 2 from rfl, pk_div (by omega) (by omega) (by omega), zinc]
theorem zf_in {p : Nat → Prop} [DecidablePred p] : ∀ (k i : Nat), zf p i k = -9 ∨ ∃ j, i ≤ j ∧ j < i + k ∧ zf p i k = nI j ∧ p j := by
  intro k
  induction k with
  | zero => intro i; exact Or.inl rfl
  | succ k ih =>
    intro i
    rw [zf]
    by_cases h : p i
    · rw [if_pos h]; exact Or.inr ⟨i, by omega, by omega, rfl, h⟩
    · rw [if_neg h]
      rcases ih (i + 1) with h1 | ⟨j, h1, h2, h3⟩
      · exact Or.inl h1
      · exact Or.inr ⟨j, by omega, by omega, h3⟩
theorem zf_neg {p : Nat → Prop} [DecidablePred p] {k i : Nat} (h : i + k < 1000) : (zf p i k < 0) = (zf p i k = -9) := by
  rcases zf_in (p := p) k i with h1 | ⟨j, h1, h2, h3, -⟩
  · rw [h1]; exact propext ⟨fun _ => rfl, fun _ => by decide⟩
  · rw [h3]
    exact propext ⟨fun h9 => absurd h9 (nI_pos (by omega)), fun h9 => absurd (congrArg Int32.toInt h9) (by rw [nI_toInt (by omega), show (-9 : Int32).toInt = -9 from rfl]; omega)⟩
theorem lsum_f {K F : SF} {j : Nat} : lsum K F j + leanv (K j) (F j) = lsum K F (j + 1) := rfl
theorem far_f {K F : SF} {j : Nat} : (if far K F j < iabs (lsum K F (j + 1)) then iabs (lsum K F (j + 1)) else far K F j) = far K F (j + 1) := rfl
theorem hmin_f {K F : SF} {i : Nat} : (if hold (K (i + 1)) (F (i + 1)) < hold (K i) (F i) then hold (K (i + 1)) (F (i + 1)) else hold (K i) (F i)) = hmin K F i := rfl
