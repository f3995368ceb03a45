/-! FEWEST found stone by stone: the ways to a lean. -/
abbrev zNO : Nat := 1073741824
def bt (b i : Nat) : Nat := if b.testBit i = true then 1 else 0
def pkK (c : Nat) (k : Int32) : Int32 := if c = 1 then 0 else k
def pkF (c : Nat) (f : Int32) : Int32 := if c = 1 then 9 else f
/-- how many stones -/
def bcn (b : Nat) : Nat := (bitc (nI b)).toNatClampNeg
/-- how many, and their bits -/
def cst (b : Nat) : Nat := 4096 * bcn b + b
def mor (c k : Nat) : Nat := if c = 1 then 4096 + 2 ^ k else 0
theorem hb_64 : ∀ i, i < 12 → ∀ h, h < 64 → ∀ l, l < 64 → hb (nI (64 * h + l)) i = (64 * h + l).testBit i := by decide +kernel
theorem hb_tb {b i : Nat} (h1 : b < 4096) (h2 : i < 12) : hb (nI b) i = b.testBit i := by
  have h := hb_64 i h2 (b / 64) (by omega) (b % 64) (Nat.mod_lt _ (by omega))
  rw [show 64 * (b / 64) + b % 64 = b by omega] at h
  exact h
theorem bcn_64 : ∀ h, h < 64 → ∀ l, l < 64 → bitc (nI (64 * h + l)) = nI (bcn (64 * h + l)) := by decide +kernel
theorem bcn_eq {b : Nat} (h1 : b < 4096) : bitc (nI b) = nI (bcn b) := by
  have h := bcn_64 (b / 64) (by omega) (b % 64) (Nat.mod_lt _ (by omega))
  rw [show 64 * (b / 64) + b % 64 = b by omega] at h
  exact h
theorem bcn_st : ∀ k, k < 12 → ∀ b, b < 2 ^ k → bcn (b + 2 ^ k) = bcn b + 1 := by decide +kernel
theorem pow12 {k : Nat} (hk : k ≤ 12) : 2 ^ k ≤ 4096 := Nat.pow_le_pow_right (by omega) (show k ≤ 12 from hk)
theorem plK_bt {K : SF} {b i : Nat} (h1 : b < 4096) (h2 : i < 12) : plK K (nI b) i = pkK (bt b i) (K i) := by
  by_cases h : b.testBit i = true <;> simp [plK, hb_tb h1 h2, pkK, bt, h]
theorem plF_bt {F : SF} {b i : Nat} (h1 : b < 4096) (h2 : i < 12) : plF F (nI b) i = pkF (bt b i) (F i) := by
  by_cases h : b.testBit i = true <;> simp [plF, hb_tb h1 h2, pkF, bt, h]
theorem bt_le (b i : Nat) : bt b i ≤ 1 := by
  rw [bt]; split <;> omega
theorem bt_lo {b c k i : Nat} (hc : c ≤ 1) (hi : i < k) : bt (b + c * 2 ^ k) i = bt b i := by
  rcases (show c = 0 ∨ c = 1 by omega) with rfl | rfl
  · rw [Nat.zero_mul, Nat.add_zero]
  · rw [Nat.one_mul, bt, bt, Nat.add_comm, Nat.testBit_two_pow_add_gt hi]
theorem bt_hi {b c k : Nat} (hc : c ≤ 1) (h1 : b < 2 ^ k) : bt (b + c * 2 ^ k) k = c := by
  have e := Nat.testBit_lt_two_pow h1
  rcases (show c = 0 ∨ c = 1 by omega) with rfl | rfl
  · rw [Nat.zero_mul, Nat.add_zero, bt, e, if_neg (by decide)]
  · rw [Nat.one_mul, bt, Nat.add_comm, Nat.testBit_two_pow_add_eq, e, if_pos (by decide)]
theorem pow_st {b c k : Nat} (hc : c ≤ 1) (h1 : b < 2 ^ k) : b + c * 2 ^ k < 2 ^ (k + 1) := by
  have e : 2 ^ (k + 1) = 2 * 2 ^ k := by rw [Nat.pow_succ, Nat.mul_comm]
  have h2 : c * 2 ^ k ≤ 1 * 2 ^ k := Nat.mul_le_mul_right _ hc
  omega
theorem bsplit {b k : Nat} (h : b < 2 ^ (k + 1)) : ∃ d c, d < 2 ^ k ∧ c ≤ 1 ∧ b = d + c * 2 ^ k := by
  have e : 2 ^ (k + 1) = 2 * 2 ^ k := by rw [Nat.pow_succ, Nat.mul_comm]
  by_cases h1 : b < 2 ^ k
  · exact ⟨b, 0, h1, by omega, by rw [Nat.zero_mul, Nat.add_zero]⟩
  · exact ⟨b - 2 ^ k, 1, by omega, by omega, by rw [Nat.one_mul]; omega⟩
theorem cst_st {b c k : Nat} (hk : k < 12) (hc : c ≤ 1) (h1 : b < 2 ^ k) : cst (b + c * 2 ^ k) = cst b + mor c k := by
  rcases (show c = 0 ∨ c = 1 by omega) with rfl | rfl
  · rw [Nat.zero_mul, Nat.add_zero, mor, if_neg (by decide)]; rfl
  · rw [Nat.one_mul, mor, if_pos rfl, cst, cst, bcn_st k hk b h1]; omega
theorem bcn_le : ∀ k, k ≤ 12 → ∀ b, b < 2 ^ k → bcn b ≤ k := by
  intro k
  induction k with
  | zero =>
    intro _ b h
    obtain rfl : b = 0 := by omega
    decide +kernel
  | succ k ih =>
    intro hk b h
    obtain ⟨d, c, h1, h2, rfl⟩ := bsplit h
    have := ih (by omega) d h1
    rcases (show c = 0 ∨ c = 1 by omega) with rfl | rfl
    · rw [Nat.zero_mul, Nat.add_zero]; omega
    · rw [Nat.one_mul, bcn_st k (by omega) d h1]; omega
theorem cst_lt {k b : Nat} (hk : k ≤ 12) (h : b < 2 ^ k) : cst b < 60000 := by
  have h1 := bcn_le k hk b h
  have h2 := pow12 hk
  rw [cst]; omega
theorem lsum_cg {K F K' F' : SF} : ∀ k, (∀ i, i < k → K i = K' i ∧ F i = F' i) → lsum K F k = lsum K' F' k := by
  intro k
  induction k with
  | zero => intro _; rfl
  | succ k ih =>
    intro h
    rw [lsum, lsum, ih (fun i hi => h i (by omega)), (h k (by omega)).1, (h k (by omega)).2]
theorem spare_cg {n i : Nat} {K F L K' F' : SF} (h1 : K i = K' i) (h2 : K (i + 1) = K' (i + 1)) (h3 : F i = F' i) (h4 : F (i + 1) = F' (i + 1)) : spare n K F L i = spare n K' F' L i := by
  rw [spare, spare, held, held, hmin, hmin, h1, h2, h3, h4]
def lnB (K F : SF) (b k : Nat) : Int32 := lsum (plK K (nI b)) (plF F (nI b)) k
/-- what a joint has to spare, its two stones chosen -/
def jnt (n : Nat) (K F L : SF) (i bf c : Nat) : Int32 := spare n (upd (upd K i (pkK bf (K i))) (i + 1) (pkK c (K (i + 1)))) (upd (upd F i (pkF bf (F i))) (i + 1) (pkF c (F (i + 1)))) L i
def okB (n : Nat) (K F L : SF) (k b : Nat) : Prop := (∀ i, i + 1 < k → ¬ spare n (plK K (nI b)) (plF F (nI b)) L i < 0) ∧ ∀ i, i < k → iabs (lnB K F b (i + 1)) ≤ 6
def jok (n : Nat) (K F L : SF) (k bf c : Nat) : Prop := k = 0 ∨ ¬ jnt n K F L (k - 1) bf c < 0
def lst (b k : Nat) : Nat := if k = 0 then 0 else bt b (k - 1)
theorem lst_le (b k : Nat) : lst b k ≤ 1 := by
  rw [lst]; split
  · omega
  · exact bt_le _ _
def lnv (K F : SF) (k c : Nat) : Int32 := leanv (pkK c (K k)) (pkF c (F k))
theorem lnB_lo {K F : SF} {b c k i : Nat} (hk : k < 12) (hc : c ≤ 1) (h1 : b < 2 ^ k) (hi : i ≤ k) : lnB K F (b + c * 2 ^ k) i = lnB K F b i := by
  have h2 := pow12 (show k + 1 ≤ 12 from hk)
  have h3 := pow_st hc h1
  have h4 := pow12 (Nat.le_of_lt hk)
  refine lsum_cg i (fun j hj => ?_)
  rw [plK_bt (by omega) (by omega), plF_bt (by omega) (by omega), plK_bt (by omega) (by omega), plF_bt (by omega) (by omega), bt_lo hc (by omega)]
  exact ⟨rfl, rfl⟩
theorem lnB_st {K F : SF} {b c k : Nat} (hk : k < 12) (hc : c ≤ 1) (h1 : b < 2 ^ k) : lnB K F (b + c * 2 ^ k) (k + 1) = lnB K F b k + lnv K F k c := by
  have h2 := pow12 (show k + 1 ≤ 12 from hk)
  have h3 := pow_st hc h1
  have e := lnB_lo (K := K) (F := F) hk hc h1 (Nat.le_refl k)
  rw [lnB] at e ⊢
  rw [lsum, e, plK_bt (by omega) hk, plF_bt (by omega) hk, bt_hi hc h1, lnv]
theorem spare_lo {n : Nat} {K F L : SF} {b c k i : Nat} (hk : k < 12) (hc : c ≤ 1) (h1 : b < 2 ^ k) (hi : i + 1 < k) : spare n (plK K (nI (b + c * 2 ^ k))) (plF F (nI (b + c * 2 ^ k))) L i = spare n (plK K (nI b)) (plF F (nI b)) L i := by
  have h2 := pow12 (show k + 1 ≤ 12 from hk)
  have h3 := pow_st hc h1
  have h4 := pow12 (Nat.le_of_lt hk)
  apply spare_cg
  · rw [plK_bt (by omega) (by omega), plK_bt (by omega) (by omega), bt_lo hc (by omega)]
  · rw [plK_bt (by omega) (by omega), plK_bt (by omega) (by omega), bt_lo hc (by omega)]
  · rw [plF_bt (by omega) (by omega), plF_bt (by omega) (by omega), bt_lo hc (by omega)]
  · rw [plF_bt (by omega) (by omega), plF_bt (by omega) (by omega), bt_lo hc (by omega)]
theorem spare_hi {n : Nat} {K F L : SF} {b c k : Nat} (hk : k + 1 < 12) (hc : c ≤ 1) (h1 : b < 2 ^ (k + 1)) : spare n (plK K (nI (b + c * 2 ^ (k + 1)))) (plF F (nI (b + c * 2 ^ (k + 1)))) L k = jnt n K F L k (bt b k) c := by
  have h2 := pow12 (show k + 1 + 1 ≤ 12 from hk)
  have h3 := pow_st hc h1
  have e : ¬ k = k + 1 := by omega
  rw [jnt]
  apply spare_cg
  · rw [plK_bt (by omega) (by omega), bt_lo hc (by omega), pk_un e, pk_us]
  · rw [plK_bt (by omega) (by omega), bt_hi hc h1, pk_us]
  · rw [plF_bt (by omega) (by omega), bt_lo hc (by omega), pk_un e, pk_us]
  · rw [plF_bt (by omega) (by omega), bt_hi hc h1, pk_us]
theorem okB_st {n : Nat} {K F L : SF} {b c k : Nat} (hk : k < 12) (hc : c ≤ 1) (h1 : b < 2 ^ k) : okB n K F L (k + 1) (b + c * 2 ^ k) ↔ okB n K F L k b ∧ jok n K F L k (lst b k) c ∧ iabs (lnB K F b k + lnv K F k c) ≤ 6 := by
  constructor
  · intro h
    refine ⟨⟨fun i hi => ?_, fun i hi => ?_⟩, ?_, ?_⟩
    · have := h.1 i (by omega)
      rw [spare_lo hk hc h1 hi] at this
      exact this
    · have := h.2 i (by omega)
      rw [lnB_lo hk hc h1 (by omega)] at this
      exact this
    · cases k with
      | zero => exact Or.inl rfl
      | succ k =>
        right
        have := h.1 k (by omega)
        rw [spare_hi hk hc h1] at this
        rw [lst, if_neg (by omega), Nat.add_sub_cancel]
        exact this
    · have := h.2 k (by omega)
      rw [lnB_st hk hc h1] at this
      exact this
  · intro h
    obtain ⟨g1, g2, g3⟩ := h
    refine ⟨fun i hi => ?_, fun i hi => ?_⟩
    · by_cases e : i + 1 < k
      · rw [spare_lo hk hc h1 e]
        exact g1.1 i e
      · obtain rfl : k = i + 1 := by omega
        rw [spare_hi hk hc h1]
        rcases g2 with g2 | g2
        · omega
        · rw [lst, if_neg (by omega), Nat.add_sub_cancel] at g2
          exact g2
    · by_cases e : i < k
      · rw [lnB_lo hk hc h1 (by omega)]
        exact g1.2 i e
      · obtain rfl : k = i := by omega
        rw [lnB_st hk hc h1]
        exact g3
theorem lnv_in (K F : SF) (k c : Nat) : ∃ d, d ≤ 5 ∧ lnv K F k c = nI d - 3 := by
  rw [lnv, leanv, east]
  by_cases h1 : pkK c (K k) = 1
  · rw [if_pos h1]
    split
    · exact ⟨5, by omega, by decide⟩
    · exact ⟨4, by omega, by decide⟩
  rw [if_neg h1]
  by_cases h2 : pkK c (K k) = 2
  · rw [if_pos h2]
    split
    · exact ⟨1, by omega, by decide⟩
    · exact ⟨2, by omega, by decide⟩
  rw [if_neg h2]
  by_cases h3 : pkK c (K k) = 5
  · rw [if_pos h3]
    split
    · exact ⟨0, by omega, by decide⟩
    · exact ⟨1, by omega, by decide⟩
  rw [if_neg h3]
  exact ⟨3, by omega, by decide⟩
theorem lean_fit0 : ∀ m, m ≤ 12 → ∀ d, d ≤ 5 → iabs (nI m - 6 + (nI d - 3)) ≤ 6 → (nI m + (nI d - 3)).toNatClampNeg ≤ 12 ∧ nI (nI m + (nI d - 3)).toNatClampNeg - 6 = nI m - 6 + (nI d - 3) := by decide +kernel
theorem lean_fit {K F : SF} {k c m : Nat} (hm : m ≤ 12) (h : iabs (nI m - 6 + lnv K F k c) ≤ 6) : ∃ v, v ≤ 12 ∧ nI v - 6 = nI m - 6 + lnv K F k c := by
  obtain ⟨d, hd, e⟩ := lnv_in K F k c
  rw [e] at h ⊢
  exact ⟨_, lean_fit0 m hm d hd h⟩
theorem lean_in : ∀ v, v ≤ 12 → iabs (nI v - 6) ≤ 6 := by decide +kernel
theorem lean_inj : ∀ v, v ≤ 12 → ∀ u, u ≤ 12 → nI v - 6 = nI u - 6 → v = u := by decide +kernel
theorem lean_of {n : Nat} {K F L : SF} : ∀ k, k ≤ 12 → ∀ b, b < 2 ^ k → okB n K F L k b → ∃ m, m ≤ 12 ∧ lnB K F b k = nI m - 6 := by
  intro k
  induction k with
  | zero => intro _ b _ _; exact ⟨6, by omega, rfl⟩
  | succ k ih =>
    intro hk b h1 h2
    obtain ⟨d, c, g1, g2, rfl⟩ := bsplit h1
    obtain ⟨o1, -, o3⟩ := (okB_st (by omega) g2 g1).mp h2
    obtain ⟨m, hm, e⟩ := ih (by omega) d g1 o1
    rw [e] at o3
    obtain ⟨v, hv, e2⟩ := lean_fit hm o3
    exact ⟨v, hv, by rw [lnB_st (by omega) g2 g1, e, e2]⟩
/-- b is a way to m and c -/
def reach (n : Nat) (K F L : SF) (k b m c : Nat) : Prop := b < 2 ^ k ∧ okB n K F L k b ∧ m ≤ 12 ∧ lnB K F b k = nI m - 6 ∧ c = lst b k
/-- w keeps the best of the ways -/
def Ways (n : Nat) (K F L : SF) (k : Nat) (w : Nat → Nat) : Prop := (∀ b m c, reach n K F L k b m c → w (2 * m + c) ≤ cst b) ∧ ∀ p, p < 26 → w p = zNO ∨ ∃ b m c, reach n K F L k b m c ∧ p = 2 * m + c ∧ w p = cst b
/-- a step from a way to a longer one -/
def goK (n : Nat) (K F L : SF) (k : Nat) (w : Nat → Nat) (bf c m v : Nat) : Prop := bf ≤ 1 ∧ c ≤ 1 ∧ m ≤ 12 ∧ v ≤ 12 ∧ w (2 * m + bf) ≠ zNO ∧ jok n K F L k bf c ∧ nI v - 6 = nI m - 6 + lnv K F k c
def StpA (n : Nat) (K F L : SF) (k : Nat) (w : Nat → Nat) (D : Nat → Nat → Prop) (g : Nat → Nat) : Prop := ∀ bf c m v, D bf c → goK n K F L k w bf c m v → g (2 * v + c) ≤ w (2 * m + bf) + mor c k
def StpB (n : Nat) (K F L : SF) (k : Nat) (w : Nat → Nat) (g : Nat → Nat) : Prop := ∀ p, p < 26 → g p = zNO ∨ ∃ bf c m v, goK n K F L k w bf c m v ∧ p = 2 * v + c ∧ g p = w (2 * m + bf) + mor c k
theorem Ways_st {n : Nat} {K F L : SF} {k : Nat} {w g : Nat → Nat} (hn : n ≤ 12) (hk : k < n) (hI : Ways n K F L k w) (hA : StpA n K F L k w (fun bf c => bf < 2 ∧ c < 2) g) (hB : StpB n K F L k w g) : Ways n K F L (k + 1) g := by
  have hk12 : k < 12 := by omega
  refine ⟨fun b v c hr => ?_, fun p hp => ?_⟩
  · obtain ⟨h1, h2, h3, h4, h5⟩ := hr
    obtain ⟨d, c', g1, g2, rfl⟩ := bsplit h1
    obtain ⟨o1, o2, o3⟩ := (okB_st hk12 g2 g1).mp h2
    obtain ⟨m, hm, e⟩ := lean_of k (by omega) d g1 o1
    rw [lst, if_neg (by omega), Nat.add_sub_cancel, bt_hi g2 g1] at h5
    subst h5
    rw [lnB_st hk12 g2 g1, e] at h4
    have r := hI.1 d m (lst d k) ⟨g1, o1, hm, e, rfl⟩
    have hc := cst_lt (Nat.le_of_lt hk12) g1
    have hz : zNO = 1073741824 := rfl
    have l1 := lst_le d k
    have := hA (lst d k) c m v ⟨by omega, by omega⟩ ⟨l1, g2, hm, h3, by omega, o2, h4.symm⟩
    rw [cst_st hk12 g2 g1]
    omega
  · rcases hB p hp with h | ⟨bf, c, m, v, ⟨g1, g2, g3, g4, g5, g6, g7⟩, e1, e2⟩
    · exact Or.inl h
    · right
      rcases hI.2 (2 * m + bf) (by omega) with h | ⟨b, m1, c1, ⟨r1, r2, r3, r4, r5⟩, e3, e4⟩
      · exact absurd h g5
      · have l1 := lst_le b k
        rw [← r5] at l1
        obtain rfl : m1 = m := by omega
        obtain rfl : c1 = bf := by omega
        refine ⟨b + c * 2 ^ k, v, c, ⟨pow_st g2 r1, (okB_st hk12 g2 r1).mpr ⟨r2, by rw [← r5]; exact g6, by rw [r4, ← g7]; exact lean_in v g4⟩, g4, by rw [lnB_st hk12 g2 r1, r4, g7], by rw [lst, if_neg (by omega), Nat.add_sub_cancel, bt_hi g2 r1]⟩, e1, ?_⟩
        rw [e2, e4, cst_st hk12 g2 r1]
theorem Ways_0 {n : Nat} {K F L : SF} {w : Nat → Nat} (hw : ∀ p, p < 26 → w p = if p = 12 then 0 else zNO) : Ways n K F L 0 w := by
  have c0 : cst 0 = 0 := by decide +kernel
  refine ⟨fun b m c hr => ?_, fun p hp => ?_⟩
  · obtain ⟨h1, h2, h3, h4, h5⟩ := hr
    obtain rfl : b = 0 := by omega
    obtain rfl : m = 6 := lean_inj m h3 6 (by omega) (h4.symm.trans rfl)
    rw [h5, lst, if_pos rfl, hw _ (by omega), if_pos rfl]
    omega
  · rw [hw p hp]
    by_cases e : p = 12
    · right
      refine ⟨0, 6, 0, ⟨by decide, ⟨fun i hi => by omega, fun i hi => by omega⟩, by omega, rfl, rfl⟩, by omega, ?_⟩
      rw [if_pos e, c0]
    · left; rw [if_neg e]
theorem zf_9 {p : Nat → Prop} [DecidablePred p] : ∀ k i, i + k < 2147483648 → (zf p i k = -9 ↔ ∀ j, i ≤ j → j < i + k → ¬ p j) := by
  intro k
  induction k with
  | zero => intro i _; exact ⟨fun _ j h1 h2 => by omega, fun _ => rfl⟩
  | succ k ih =>
    intro i hi
    rw [zf]
    by_cases h : p i
    · rw [if_pos h]
      exact ⟨fun e => absurd e (nI_ne9 (by omega)), fun e => absurd h (e i (by omega) (by omega))⟩
    · rw [if_neg h, ih (i + 1) (by omega)]
      constructor
      · intro e j h1 h2
        by_cases ej : j = i
        · rw [ej]; exact h
        · exact e j (by omega) (by omega)
      · intro e j h1 h2
        exact e j (by omega) (by omega)
theorem fewB_ok {n : Nat} {K F L : SF} {b : Nat} (hn : n ≤ 12) : fewB n K F L b = true ↔ okB n K F L n b := by
  rw [fewB, stndB, Bool.and_eq_true, decide_eq_true_eq, decide_eq_true_eq, brk, lng, zf_9 _ _ (by omega), zf_9 _ _ (by omega), okB]
  constructor
  · rintro ⟨h1, h2⟩
    exact ⟨fun i hi => h1 i (by omega) (by omega), fun i hi => Decidable.not_not.mp (h2 i (by omega) (by omega))⟩
  · rintro ⟨h1, h2⟩
    exact ⟨fun i _ hi => h1 i (by omega), fun i _ hi => not_not_intro (h2 i (by omega))⟩
theorem few_no {n : Nat} {K F L : SF} {w : Nat → Nat} (hn : n ≤ 12) (hI : Ways n K F L n w) (h : ∀ p, p < 26 → w p = zNO) : fewS n K F L = -9 := by
  refine zg_no (n + 1) 0 (fun i _ _ => zf_no (2 ^ n) 0 (fun b _ hb2 hq => ?_))
  have hok := (fewB_ok hn).mp hq.2
  have hb3 : b < 2 ^ n := by omega
  obtain ⟨m, hm, e⟩ := lean_of n hn b hb3 hok
  have l1 := lst_le b n
  have r := hI.1 b m (lst b n) ⟨hb3, hok, hm, e, rfl⟩
  have := cst_lt hn hb3
  have hz : zNO = 1073741824 := rfl
  rw [h _ (by omega)] at r
  omega
theorem few_at {n : Nat} {K F L : SF} {w : Nat → Nat} {p : Nat} (hn : n ≤ 12) (hI : Ways n K F L n w) (hp : p < 26) (hw : w p ≠ zNO) (hm : ∀ q, q < 26 → w p ≤ w q) : fewS n K F L = nI (w p % 4096) := by
  have h2 := pow12 hn
  rcases hI.2 p hp with h | ⟨b, m, c, ⟨r1, r2, -, -, -⟩, -, e⟩
  · exact absurd h hw
  have hmin : ∀ d, d < 2 ^ n → fewB n K F L d = true → cst b ≤ cst d := by
    intro d hd hq
    have hok := (fewB_ok hn).mp hq
    obtain ⟨u, hu, e1⟩ := lean_of n hn d hd hok
    have l1 := lst_le d n
    have r := hI.1 d u (lst d n) ⟨hd, hok, hu, e1, rfl⟩
    have := hm (2 * u + lst d n) (by omega)
    omega
  have hbn := bcn_le n hn b r1
  have e1 : fewI n K F L (bcn b) = nI b := by
    refine zf_at (2 ^ n) 0 b (Nat.zero_le _) (by omega) ⟨bcn_eq (by omega), (fewB_ok hn).mpr r2⟩ (fun d _ hd hq => ?_)
    have h3 := hmin d (by omega) hq.2
    have h4 := hq.1
    have h5 := bcn_le n hn d (by omega)
    rw [bcn_eq (by omega), zeq (by omega) (by omega)] at h4
    rw [cst, cst, h4] at h3
    omega
  have e2 := zg_at (g := fewI n K F L) (n + 1) 0 (bcn b) (Nat.zero_le _) (by omega) (by rw [e1]; exact nI_ne9 (by omega)) (fun i _ hi => zf_no (2 ^ n) 0 (fun d _ hd hq => by
    have h3 := hmin d (by omega) hq.2
    have h4 := hq.1
    have h5 := bcn_le n hn d (by omega)
    rw [bcn_eq (by omega), zeq (by omega) (by omega)] at h4
    rw [cst, cst, h4] at h3
    omega))
  rw [fewS, e2, e1, e, cst]
  congr 1
  omega
/-- the least of the first j -/
def mnW (w : Nat → Nat) : Nat → Nat
  | 0 => zNO
  | j + 1 => if w j < mnW w j then w j else mnW w j
theorem mnW_le (w : Nat → Nat) : ∀ j, mnW w j ≤ zNO ∧ (∀ p, p < j → mnW w j ≤ w p) ∧ (mnW w j = zNO ∨ ∃ p, p < j ∧ mnW w j = w p) := by
  intro j
  induction j with
  | zero => exact ⟨Nat.le_refl _, fun p hp => by omega, Or.inl rfl⟩
  | succ j ih =>
    obtain ⟨h1, h2, h3⟩ := ih
    rw [mnW]
    by_cases h : w j < mnW w j
    · rw [if_pos h]
      refine ⟨by omega, fun p hp => ?_, Or.inr ⟨j, by omega, rfl⟩⟩
      by_cases e : p = j
      · rw [e]; exact Nat.le_refl _
      · have := h2 p (by omega)
        omega
    · rw [if_neg h]
      refine ⟨h1, fun p hp => ?_, ?_⟩
      · by_cases e : p = j
        · rw [e]; omega
        · exact h2 p (by omega)
      · rcases h3 with h3 | ⟨p, hp, e⟩
        · exact Or.inl h3
        · exact Or.inr ⟨p, by omega, e⟩
theorem few_end {n : Nat} {K F L : SF} {w : Nat → Nat} (hn : n ≤ 12) (hI : Ways n K F L n w) (hw : ∀ p, p < 26 → w p ≤ zNO) : fewS n K F L = if mnW w 26 = zNO then -9 else nI (mnW w 26 % 4096) := by
  obtain ⟨h1, h2, h3⟩ := mnW_le w 26
  by_cases h : mnW w 26 = zNO
  · rw [if_pos h]
    refine few_no hn hI (fun p hp => ?_)
    have := h2 p hp
    have := hw p hp
    omega
  · rw [if_neg h]
    rcases h3 with h3 | ⟨p, hp, e⟩
    · exact absurd h3 h
    · rw [e]
      rw [e] at h h2
      exact few_at hn hI hp h h2
