def smin (n : Nat) (K F L : SF) : Nat → Int32
  | 0 => spare n K F L 0
  | k + 1 => if spare n K F L (k + 1) < smin n K F L k then spare n K F L (k + 1) else smin n K F L k
theorem smin_f {n : Nat} {K F L : SF} {j : Nat} : (if spare n K F L (j + 1) < smin n K F L j then spare n K F L (j + 1) else smin n K F L j) = smin n K F L (j + 1) := rfl
/-- the least spare -/
def lsp (n : Nat) (K F L : SF) : Int32 := if n ≤ 1 then 0 else smin n K F L (n - 2)
def wkj (n : Nat) (K F L : SF) : Int32 := zf (fun i => spare n K F L i = lsp n K F L) 0 (n - 1)
def lack (n : Nat) (K F L : SF) : Nat → Int32
  | 0 => 0
  | k + 1 => lack n K F L k + (if spare n K F L k < 0 then -spare n K F L k else 0)
def lackB (n : Nat) (K F L : SF) : Nat → Int32
  | 0 => 0
  | k + 1 => lackB n K F L k ||| (if spare n K F L k < 0 then 1 <<< (nI k &&& 31) else 0)
def strg (K F : SF) : Nat → Int32 × Int32
  | 0 => (-9, 0)
  | k + 1 => if (strg K F k).1 = -9 ∨ (strg K F k).2 < hold (K k) (F k) then (nI k, hold (K k) (F k)) else strg K F k
def fsum (F : SF) : Nat → Int32
  | 0 => 0
  | k + 1 => fsum F k + F k
def laidB (L : SF) (m : Int32) : Nat → Int32
  | 0 => 0
  | k + 1 => laidB L m k ||| (if L k = m then 1 <<< (nI k &&& 31) else 0)
def kindB (K L : SF) (m : Int32) : Nat → Int32
  | 0 => 0
  | k + 1 => kindB K L m k ||| (if L k = m then 1 <<< (K k &&& 31) else 0)
def twos (L : SF) : Nat → Int32
  | 0 => 0
  | k + 1 => twos L k + (if L k = L (k + 1) then 0 else 1)
def runL (L : SF) : Nat → Int32 × Int32
  | 0 => (1, 1)
  | k + 1 => (if L k = L (k + 1) then (runL L k).1 + 1 else 1, if (runL L k).2 < (if L k = L (k + 1) then (runL L k).1 + 1 else 1) then (if L k = L (k + 1) then (runL L k).1 + 1 else 1) else (runL L k).2)
def agr (K L : SF) : Nat → Int32
  | 0 => 0
  | k + 1 => agr K L k + (if K k = K (k + 1) then (if L k = L (k + 1) then 0 else 1) else 0)
theorem spare_pos {n : Nat} {K F L : SF} (hF : Fok n F) (hn : n ≤ 13) {i : Nat} (hi : i + 1 < n) : ∃ a b, a ≤ 26 ∧ b ≤ 7 ∧ spare n K F L i = nI a - nI b := by
  obtain ⟨w, hw, e⟩ := held_pos (K := K) (L := L) hF hi
  refine ⟨w, (n - 1 - i) / 2 + 1, hw, by omega, ?_⟩
  rw [spare, e, load_eq (by omega) hn]
theorem lackv {n : Nat} {K F L : SF} (hF : Fok n F) (hn : n ≤ 13) {i : Nat} (hi : i + 1 < n) : (if -spare n K F L i < 0 then 0 else -spare n K F L i) = if spare n K F L i < 0 then -spare n K F L i else 0 := by
  obtain ⟨a, b, ha, hb, e⟩ := spare_pos (K := K) (L := L) hF hn hi
  have h : ∀ a, a ≤ 26 → ∀ b, b ≤ 7 → (if -(nI a - nI b) < 0 then 0 else -(nI a - nI b)) = if nI a - nI b < 0 then -(nI a - nI b) else 0 := by decide +kernel
  rw [e]
  exact h a ha b hb
theorem zshl0 (x : Int32) : (0 : Int32) <<< x = 0 := Int32.zero_shiftLeft
theorem zor0 (x : Int32) : x ||| (0 : Int32) = x := Int32.or_zero
theorem zadd0 (x : Int32) : x + (0 : Int32) = x := Int32.add_zero x
theorem loopI {α : Type} {N : Nat} (E : α → zG → Nat → Prop) (P : Nat → zG → Prop) (h : ∀ x j σ, j < N → P j σ → (∀ x' σ', P (j + 1) σ' → E x' σ' (j + 1)) → E x σ j) (he : ∀ x σ, P N σ → E x σ N) : ∀ (a : Nat) (x : α) (σ : zG), a ≤ N → P a σ → E x σ a := by
  have key : ∀ (k a : Nat) (x : α) (σ : zG), a + k = N → P a σ → E x σ a := by
    intro k
    induction k with
    | zero => intro a x σ ha hp; exact (show a = N by omega) ▸ he x σ ((show a = N by omega) ▸ hp)
    | succ k ih => intro a x σ ha hp; exact h x a σ (by omega) hp (fun x' σ' hp' => ih (a + 1) x' σ' (by omega) hp')
  exact fun a x σ ha hp => key (N - a) a x σ (by omega) hp
/-- stones, the mason of the day, of the night (style, hand, spite), quarrels, day -/
abbrev Bt : Type := (Nat × SF × SF × SF) × (Int32 × Int32 × Int32) × (Int32 × Int32 × Int32) × Int32 × Int32
def mOf (β : Bt) (m : Int32) : Int32 × Int32 × Int32 := if m = 1 then β.2.2.1 else β.2.1
def crs (p q : Int32) : Int32 := p + q - (p + q) / 10 * 10
def lastS (S : Nat × SF × SF × SF) (k f m : Int32) : Nat × SF × SF × SF := (S.1, upd S.2.1 (S.1 - 1) k, upd S.2.2.1 (S.1 - 1) f, upd S.2.2.2 (S.1 - 1) m)
def addS (S : Nat × SF × SF × SF) (k f m : Int32) : Nat × SF × SF × SF := (S.1 + 1, upd S.2.1 S.1 k, upd S.2.2.1 S.1 f, upd S.2.2.2 S.1 m)
def qup (q : Int32) : Int32 := if q < 999 then q + 1 else q
def findsB (β : Bt) (m : Int32) : Bool := decide (0 < β.1.1) && (decide (β.1.2.2.2 (β.1.1 - 1) ≠ m) && (decide (β.1.2.1 (β.1.1 - 1) ≠ (mOf β m).1) && decide (5 ≤ crs (mOf β m).2.2 β.2.2.2.1)))
def workS (m : Int32) (β : Bt) : Bt := if findsB β m = true then (lastS β.1 (mOf β m).1 (mOf β m).2.1 m, β.2.1, β.2.2.1, qup β.2.2.2.1, β.2.2.2.2) else if β.1.1 < 12 then (addS β.1 (mOf β m).1 (mOf β m).2.1 m, β.2) else β
def dayS (night : Prop) [Decidable night] (β : Bt) : Bt := if night then workS 1 (workS 0 (β.1, β.2.1, β.2.2.1, β.2.2.2.1, β.2.2.2.2 + 1)) else workS 0 (β.1, β.2.1, β.2.2.1, β.2.2.2.1, β.2.2.2.2 + 1)
def daysS : Nat → Bt → Bt
  | 0, β => β
  | k + 1, β => dayS True (daysS k β)
/-- a number that is at most M -/
def num (M : Nat) (x : Int32) : Prop := ∃ v, v ≤ M ∧ x = nI v
def Mok (t : Int32 × Int32 × Int32) : Prop := num 5 t.1 ∧ num 9 t.2.1 ∧ num 9 t.2.2
/-- stones as they must be -/
def Sok (S : Nat × SF × SF × SF) : Prop := S.1 ≤ 12 ∧ ∀ i, i < S.1 → num 5 (S.2.1 i) ∧ num 9 (S.2.2.1 i) ∧ num 1 (S.2.2.2 i)
def Bok (β : Bt) : Prop := Sok β.1 ∧ Mok β.2.1 ∧ Mok β.2.2.1 ∧ num 999 β.2.2.2.1
theorem Sok_add {S : Nat × SF × SF × SF} {k f m : Int32} (h : Sok S) (hn : S.1 < 12) (hk : num 5 k) (hf : num 9 f) (hm : num 1 m) : Sok (addS S k f m) := by
  refine ⟨hn, fun i hi => ?_⟩
  have hi' : i < S.1 + 1 := hi
  by_cases e : i = S.1
  · subst e
    simp only [addS, pk_us]
    exact ⟨hk, hf, hm⟩
  · simp only [addS, pk_un e]
    exact h.2 i (by omega)
theorem Sok_last {S : Nat × SF × SF × SF} {k f m : Int32} (h : Sok S) (hk : num 5 k) (hf : num 9 f) (hm : num 1 m) : Sok (lastS S k f m) := by
  refine ⟨h.1, fun i hi => ?_⟩
  have hi' : i < S.1 := hi
  by_cases e : i = S.1 - 1
  · subst e
    simp only [lastS, pk_us]
    exact ⟨hk, hf, hm⟩
  · simp only [lastS, pk_un e]
    exact h.2 i hi'
theorem mOf_ok {β : Bt} (h : Bok β) (m : Int32) : Mok (mOf β m) := by
  rw [mOf]
  split
  · exact h.2.2.1
  · exact h.2.1
theorem qup_ok {q : Int32} (h : num 999 q) : num 999 (qup q) := by
  obtain ⟨v, hv, rfl⟩ := h
  rw [qup]
  by_cases e : v < 999
  · rw [if_pos (show nI v < (999 : Int32) from nI_lt (b := 999) e (by omega)), zinc]; exact ⟨v + 1, by omega, rfl⟩
  · rw [if_neg (show ¬ nI v < (999 : Int32) from nI_nlt (b := 999) (by omega) (by omega))]; exact ⟨v, hv, rfl⟩
theorem qup_c {q : Int32} (h : num 999 q) : (if (999 : Int32) < q + 1 then 999 else q + 1) = qup q := by
  obtain ⟨v, hv, rfl⟩ := h
  rw [qup, zinc]
  by_cases e : v < 999
  · rw [if_pos (show nI v < (999 : Int32) from nI_lt (b := 999) e (by omega)), if_neg (show ¬ (999 : Int32) < nI (v + 1) from nI_nlt (a := 999) (by omega) (by omega))]
  · obtain rfl : v = 999 := by omega
    rfl
theorem workS_ok {β : Bt} {m : Int32} (h : Bok β) (hm : m = 0 ∨ m = 1) : Bok (workS m β) := by
  have hm1 : num 1 m := by
    rcases hm with rfl | rfl
    · exact ⟨0, by omega, rfl⟩
    · exact ⟨1, by omega, rfl⟩
  obtain ⟨g1, g2, -⟩ := mOf_ok h m
  rw [workS]
  split
  · exact ⟨Sok_last h.1 g1 g2 hm1, h.2.1, h.2.2.1, qup_ok h.2.2.2⟩
  split
  · rename_i hn
    exact ⟨Sok_add h.1 hn g1 g2 hm1, h.2⟩
  · exact h
theorem dayS_ok {β : Bt} {night : Prop} [Decidable night] (h : Bok β) : Bok (dayS night β) := by
  rw [dayS]
  split
  · exact workS_ok (workS_ok h (Or.inl rfl)) (Or.inr rfl)
  · exact workS_ok h (Or.inl rfl)
theorem daysS_ok {β : Bt} (h : Bok β) : ∀ k, Bok (daysS k β) := by
  intro k
  induction k with
  | zero => exact h
  | succ k ih => exact dayS_ok ih
theorem Sok.F {S : Nat × SF × SF × SF} (h : Sok S) : Fok S.1 S.2.2.1 := fun i hi => (h.2 i hi).2.1
