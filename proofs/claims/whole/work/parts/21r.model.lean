def bitsR (v : Int32) : Nat → Int32
  | 0 => 0
  | k + 1 => bitsR v k + ((v >>> (nI k &&& 31)) &&& 1)
theorem bitsR_64 : ∀ h, h < 64 → ∀ l, l < 64 → bitsR (nI (64 * h + l)) 31 = bitc (nI (64 * h + l)) := by decide +kernel
theorem bitsR_c (b : Nat) (hb : b < 4096) : bitsR (nI b) 31 = bitc (nI b) := by
  have h := bitsR_64 (b / 64) (by omega) (b % 64) (by omega)
  rw [show 64 * (b / 64) + b % 64 = b by omega] at h
  exact h
theorem bitc_le : ∀ k, k ≤ 12 → ∀ b, b < 2 ^ k → ∃ c, c ≤ k ∧ bitc (nI b) = nI c := by
  intro k
  induction k with
  | zero => intro _ b hb; exact ⟨0, by omega, by rw [show b = 0 by omega]; rfl⟩
  | succ k ih =>
    intro hk b hb
    by_cases h : b < 2 ^ k
    · obtain ⟨c, h1, h2⟩ := ih (by omega) b h
      exact ⟨c, by omega, h2⟩
    · rw [Nat.pow_succ] at hb
      obtain ⟨c, h1, h2⟩ := ih (by omega) (b - 2 ^ k) (by omega)
      obtain ⟨g1, g2⟩ := bitc_st k (by omega) (b - 2 ^ k) (by omega)
      rw [show b - 2 ^ k + 2 ^ k = b by omega] at g2
      exact ⟨c + 1, by omega, by rw [← g2, g1, h2, zinc]⟩
def bcN (b : Nat) : Nat := (bitc (nI b)).toNatClampNeg
theorem bcN_eq {n b : Nat} (hn : n ≤ 12) (hb : b < 2 ^ n) : bcN b ≤ n ∧ bitc (nI b) = nI (bcN b) := by
  obtain ⟨c, h1, h2⟩ := bitc_le n hn b hb
  have e : bcN b = c := by rw [bcN, h2, zclamp (by omega)]
  rw [e]
  exact ⟨h1, h2⟩
/-- the reference's way to the fewest -/
def rfI (p : Nat → Bool) : Nat → Int32
  | 0 => -9
  | k + 1 => if (rfI p k = -9 ∨ bcN k < bcN (rfI p k).toNatClampNeg) ∧ p k = true then nI k else rfI p k
theorem rfI_in {p : Nat → Bool} : ∀ k, k ≤ 4096 → (rfI p k = -9 ∧ ∀ b, b < k → ¬ p b = true) ∨ ∃ m, m < k ∧ rfI p k = nI m ∧ p m = true ∧ (∀ b, b < k → p b = true → bcN m ≤ bcN b) ∧ ∀ b, b < m → p b = true → bcN m < bcN b := by
  intro k
  induction k with
  | zero => intro _; exact Or.inl ⟨rfl, fun b hb => absurd hb (Nat.not_lt_zero b)⟩
  | succ k ih =>
    intro hk
    rw [rfI]
    rcases ih (by omega) with ⟨h1, h2⟩ | ⟨m, h1, h2, h3, h4, h5⟩
    · by_cases hp : p k = true
      · rw [if_pos ⟨Or.inl h1, hp⟩]
        refine Or.inr ⟨k, by omega, rfl, hp, fun b hb hpb => ?_, fun b hb hpb => absurd hpb (h2 b hb)⟩
        by_cases e : b = k
        · subst e; exact Nat.le_refl _
        · exact absurd hpb (h2 b (by omega))
      · rw [if_neg (fun z => hp z.2)]
        refine Or.inl ⟨h1, fun b hb => ?_⟩
        by_cases e : b = k
        · subst e; exact hp
        · exact h2 b (by omega)
    · have n9 : nI m ≠ -9 := nI_ne9 (by omega)
      rw [h2, zclamp (by omega)]
      by_cases hp : bcN k < bcN m ∧ p k = true
      · rw [if_pos ⟨Or.inr hp.1, hp.2⟩]
        refine Or.inr ⟨k, by omega, rfl, hp.2, fun b hb hpb => ?_, fun b hb hpb => ?_⟩
        · by_cases e : b = k
          · subst e; exact Nat.le_refl _
          · have := h4 b (by omega) hpb
            omega
        · have := h4 b (by omega) hpb
          omega
      · rw [if_neg (fun z => hp ⟨z.1.elim (fun q => absurd q n9) id, z.2⟩)]
        refine Or.inr ⟨m, by omega, rfl, h3, fun b hb hpb => ?_, h5⟩
        by_cases e : b = k
        · subst e
          by_cases c : bcN b < bcN m
          · exact absurd ⟨c, hpb⟩ hp
          · omega
        · exact h4 b (by omega) hpb
theorem pow_12 : ∀ n, n ≤ 12 → 2 ^ n ≤ 4096 := by decide
theorem few_eq {n : Nat} {K F L : SF} (hn : n ≤ 12) : fewS n K F L = rfI (fewB n K F L) (2 ^ n) := by
  have hp12 := pow_12 n hn
  have no : ∀ sz, (∀ b, b < 2 ^ n → fewB n K F L b = true → ¬ bcN b = sz) → sz ≤ n → fewI n K F L sz = -9 := by
    intro sz h hs
    refine zf_no _ _ (fun b _ hb z => ?_)
    obtain ⟨c1, c2⟩ := bcN_eq hn (b := b) (by omega)
    refine h b (by omega) z.2 ?_
    have z1 := z.1
    rw [c2, zeq (by omega) (by omega)] at z1
    exact z1
  rcases rfI_in (p := fewB n K F L) (2 ^ n) hp12 with ⟨h1, h2⟩ | ⟨m, h1, h2, h3, h4, h5⟩
  · rw [h1, fewS]
    exact zg_no _ _ (fun sz _ hs => no sz (fun b hb hp => absurd hp (h2 b hb)) (by omega))
  · obtain ⟨c1, c2⟩ := bcN_eq hn h1
    have at1 : fewI n K F L (bcN m) = nI m := by
      refine zf_at _ _ m (by omega) (by omega) ⟨c2, h3⟩ (fun b _ hb z => ?_)
      obtain ⟨d1, d2⟩ := bcN_eq hn (b := b) (by omega)
      have z1 := z.1
      rw [d2, zeq (by omega) (by omega)] at z1
      have := h5 b hb z.2
      omega
    rw [h2, fewS, ← at1]
    refine zg_at (n + 1) 0 (bcN m) (by omega) (by omega) (by rw [at1]; exact nI_ne9 (by omega)) (fun sz _ hs => ?_)
    refine no sz (fun b hb hp e => ?_) (by omega)
    have := h4 b hb hp
    omega
section
variable {σ : zG} {Q : Option Value → zG → Prop} {a : At} {x y z m w v o f b : Int32} {β : Bt} {i j k n : Nat} {K F L : SF}
theorem M_bits : Ev zshM 167 0 [some (.int v), none, none] [] σ Q = Q (some (.int (bitsR v 31))) σ := by
  have l31 : (31 : Int32) = nI 31 := rfl
  simp (disch := first | assumption | omega | decide | exact zin_d (by assumption) (by omega) (by omega) | (simp only [zb01]; done)) only [s_M_bits_0, s_M_bits_1, s_M_bits_2, s_M_bits_3, s_M_bits_5, s_M_bits_7, s_M_bits_10, s_M_bits_11, s_M_bits_12, s_M_bits_13, s_M_bits_14, s_M_bits_15, s_M_bits_16, s_M_bits_17, s_M_bits_18, s_M_bits_21, s_M_bits_24, s_M_bits_25, zlt, zle, zeq, zclamp, zinc, zdec, zdi, zdr, zdl, zdn, zpi, zpn, if_true, if_false, ite_not, Bool.false_eq_true, ne_eq, not_true_eq_false, not_false_eq_true, true_and, and_true, Nat.add_assoc, Nat.reduceAdd]
  refine loopE (N := 31) (fun j => Ev zshM 167 4 [some (.int v), some (.int (bitsR v j)), some (.int (nI j))] [] σ Q) (fun j hj => ?_) ?_ 0 (by omega)
  · have hj' : ¬ (31 : Int32) ≤ nI j := by rw [l31, zle (by omega) (by omega)]; omega
    rw [s_M_bits_4, bitsR]
    simp (disch := first | assumption | omega | decide | exact zin_d (by assumption) (by omega) (by omega) | (simp only [zb01]; done)) only [s_M_bits_0, s_M_bits_1, s_M_bits_2, s_M_bits_3, s_M_bits_5, s_M_bits_7, s_M_bits_10, s_M_bits_11, s_M_bits_12, s_M_bits_13, s_M_bits_14, s_M_bits_15, s_M_bits_16, s_M_bits_17, s_M_bits_18, s_M_bits_21, s_M_bits_24, s_M_bits_25, zlt, zle, zeq, zclamp, zinc, zdec, zdi, zdr, zdl, zdn, zpi, zpn, if_true, if_false, ite_not, Bool.false_eq_true, ne_eq, not_true_eq_false, not_false_eq_true, true_and, and_true, Nat.add_assoc, Nat.reduceAdd, zift, ziff]
  · have hj' : (31 : Int32) ≤ nI 31 := by decide
    rw [s_M_bits_4]
    simp (disch := first | assumption | omega | decide | exact zin_d (by assumption) (by omega) (by omega) | (simp only [zb01]; done)) only [s_M_bits_0, s_M_bits_1, s_M_bits_2, s_M_bits_3, s_M_bits_5, s_M_bits_7, s_M_bits_10, s_M_bits_11, s_M_bits_12, s_M_bits_13, s_M_bits_14, s_M_bits_15, s_M_bits_16, s_M_bits_17, s_M_bits_18, s_M_bits_21, s_M_bits_24, s_M_bits_25, zlt, zle, zeq, zclamp, zinc, zdec, zdi, zdr, zdl, zdn, zpi, zpn, if_true, if_false, ite_not, Bool.false_eq_true, ne_eq, not_true_eq_false, not_false_eq_true, true_and, and_true, Nat.add_assoc, Nat.reduceAdd, zift, ziff]
theorem M_has : Ev zshM 165 0 [some (.int b), some (.int (nI i))] [] σ Q = Q (some (.int (if hb b i = true then 1 else 0))) σ := by
  by_cases h : (b >>> (nI i &&& 31)) &&& 1 = 1
  · have h' : hb b i = true := by rw [hb, decide_eq_true h]
    simp (disch := first | assumption | omega | decide | exact zin_d (by assumption) (by omega) (by omega) | (simp only [zb01]; done)) only [s_M_has_0, s_M_has_1, s_M_has_2, s_M_has_3, s_M_has_4, s_M_has_5, s_M_has_6, s_M_has_9, s_M_has_10, s_M_has_13, s_M_has_14, zlt, zle, zeq, zclamp, zinc, zdec, zdi, zdr, zdl, zdn, zpi, zpn, if_true, if_false, ite_not, Bool.false_eq_true, ne_eq, not_true_eq_false, not_false_eq_true, true_and, and_true, Nat.add_assoc, Nat.reduceAdd, zift, ziff]
  · have h' : ¬ hb b i = true := by rw [hb, decide_eq_false h]; decide
    simp (disch := first | assumption | omega | decide | exact zin_d (by assumption) (by omega) (by omega) | (simp only [zb01]; done)) only [s_M_has_0, s_M_has_1, s_M_has_2, s_M_has_3, s_M_has_4, s_M_has_5, s_M_has_6, s_M_has_9, s_M_has_10, s_M_has_13, s_M_has_14, zlt, zle, zeq, zclamp, zinc, zdec, zdi, zdr, zdl, zdn, zpi, zpn, if_true, if_false, ite_not, Bool.false_eq_true, ne_eq, not_true_eq_false, not_false_eq_true, true_and, and_true, Nat.add_assoc, Nat.reduceAdd, zift, ziff]
theorem WK.congr {K' F' L' : SF} (h : WK σ n K F L) (he : ∀ i, i < n → K i = K' i ∧ F i = F' i ∧ L i = L' i) : WK σ n K' F' L' := ⟨h.1, h.2.1, fun i hi => by
  obtain ⟨a1, a2, a3⟩ := h.2.2 i hi
  obtain ⟨b1, b2, b3⟩ := he i hi
  exact ⟨a1.trans b1, a2.trans b2, a3.trans b3⟩⟩
def plK' (K : SF) (b : Int32) (j : Nat) : SF := fun i => if i < j ∧ hb b i = true then 0 else K i
def plF' (F : SF) (b : Int32) (j : Nat) : SF := fun i => if i < j ∧ hb b i = true then 9 else F i
theorem M_isUprightBy (hW : WMd σ β) (hB : Bok β) (hQ : ∀ σ', WMd σ' β → frT σ σ' → Q (some (.int (if stndB β.1.1 (plK β.1.2.1 b) (plF β.1.2.2.1 b) β.1.2.2.2 = true then 1 else 0))) σ') : Ev zshM 223 0 [some (.ref 0), some (.int b), none] [] σ Q := by
  have h12 := hB.1.1
  simp (disch := first | assumption | omega | decide | exact zin_d (by assumption) (by omega) (by omega) | (simp only [zb01]; done)) only [s_M_isUprightBy_0, s_M_isUprightBy_1, s_M_isUprightBy_4, s_M_isUprightBy_5, s_M_isUprightBy_7, s_M_isUprightBy_8, s_M_isUprightBy_11, s_M_isUprightBy_14, s_M_isUprightBy_15, s_M_isUprightBy_16, s_M_isUprightBy_19, s_M_isUprightBy_22, s_M_isUprightBy_23, s_M_isUprightBy_24, s_M_isUprightBy_25, s_M_isUprightBy_27, s_M_isUprightBy_30, s_M_isUprightBy_33, s_M_isUprightBy_36, s_M_isUprightBy_37, s_M_isUprightBy_40, s_M_isUprightBy_41, s_M_isUprightBy_42, s_M_isUprightBy_45, s_M_isUprightBy_46, zlt, zle, zeq, zclamp, zinc, zdec, zdi, zdr, zdl, zdn, zpi, zpn, if_true, if_false, ite_not, Bool.false_eq_true, ne_eq, not_true_eq_false, not_false_eq_true, true_and, and_true, Nat.add_assoc, Nat.reduceAdd]
  refine M_thinks hW (fun σ1 h1 k1 f1 => ?_)
  simp (disch := first | assumption | omega | decide | exact zin_d (by assumption) (by omega) (by omega) | (simp only [zb01]; done)) only [s_M_isUprightBy_0, s_M_isUprightBy_1, s_M_isUprightBy_4, s_M_isUprightBy_5, s_M_isUprightBy_7, s_M_isUprightBy_8, s_M_isUprightBy_11, s_M_isUprightBy_14, s_M_isUprightBy_15, s_M_isUprightBy_16, s_M_isUprightBy_19, s_M_isUprightBy_22, s_M_isUprightBy_23, s_M_isUprightBy_24, s_M_isUprightBy_25, s_M_isUprightBy_27, s_M_isUprightBy_30, s_M_isUprightBy_33, s_M_isUprightBy_36, s_M_isUprightBy_37, s_M_isUprightBy_40, s_M_isUprightBy_41, s_M_isUprightBy_42, s_M_isUprightBy_45, s_M_isUprightBy_46, zlt, zle, zeq, zclamp, zinc, zdec, zdi, zdr, zdl, zdn, zpi, zpn, if_true, if_false, ite_not, Bool.false_eq_true, ne_eq, not_true_eq_false, not_false_eq_true, true_and, and_true, Nat.add_assoc, Nat.reduceAdd]
  refine loopI (α := Unit) (N := β.1.1) (fun _ σ2 j => Ev zshM 223 6 [some (.ref 0), some (.int b), some (.int (nI j))] [] σ2 Q) (fun j σ2 => WK σ2 β.1.1 (plK' β.1.2.1 b j) (plF' β.1.2.2.1 b j) β.1.2.2.2 ∧ frM σ1 σ2) (fun _ j σ2 hj hp kk => ?_) (fun _ σ2 hp => ?_) 0 () σ1 (Nat.zero_le _) ⟨h1.1.congr (fun i hi => ⟨?_, ?_, rfl⟩), frM.rf⟩
  · obtain ⟨q1, q2⟩ := hp
    have hn := q1.2.1
    rw [s_M_isUprightBy_6]
    by_cases h : hb b j = true
    · simp (disch := first | assumption | omega | decide | exact zin_d (by assumption) (by omega) (by omega) | (simp only [zb01]; done)) only [s_M_isUprightBy_0, s_M_isUprightBy_1, s_M_isUprightBy_4, s_M_isUprightBy_5, s_M_isUprightBy_7, s_M_isUprightBy_8, s_M_isUprightBy_11, s_M_isUprightBy_14, s_M_isUprightBy_15, s_M_isUprightBy_16, s_M_isUprightBy_19, s_M_isUprightBy_22, s_M_isUprightBy_23, s_M_isUprightBy_24, s_M_isUprightBy_25, s_M_isUprightBy_27, s_M_isUprightBy_30, s_M_isUprightBy_33, s_M_isUprightBy_36, s_M_isUprightBy_37, s_M_isUprightBy_40, s_M_isUprightBy_41, s_M_isUprightBy_42, s_M_isUprightBy_45, s_M_isUprightBy_46, zlt, zle, zeq, zclamp, zinc, zdec, zdi, zdr, zdl, zdn, zpi, zpn, if_true, if_false, ite_not, Bool.false_eq_true, ne_eq, not_true_eq_false, not_false_eq_true, true_and, and_true, Nat.add_assoc, Nat.reduceAdd, hn, M_has, M_becomes, zift, ziff]
      refine kk () _ ⟨(WK_re (i := j) (k := 0) (f := 9) q1).congr (fun i hi => ⟨?_, ?_, rfl⟩), q2.tr ((frM.z (by omega)).tr (frM.z (by omega)))⟩
      · by_cases e : i = j
        · subst e; rw [pk_us, plK', if_pos ⟨by omega, h⟩]
        · rw [pk_un e, plK', plK']
          by_cases g : i < j ∧ hb b i = true
          · rw [if_pos g, if_pos ⟨by omega, g.2⟩]
          · rw [if_neg g, if_neg (fun z => g ⟨by omega, z.2⟩)]
      · by_cases e : i = j
        · subst e; rw [pk_us, plF', if_pos ⟨by omega, h⟩]
        · rw [pk_un e, plF', plF']
          by_cases g : i < j ∧ hb b i = true
          · rw [if_pos g, if_pos ⟨by omega, g.2⟩]
          · rw [if_neg g, if_neg (fun z => g ⟨by omega, z.2⟩)]
    · simp (disch := first | assumption | omega | decide | exact zin_d (by assumption) (by omega) (by omega) | (simp only [zb01]; done)) only [s_M_isUprightBy_0, s_M_isUprightBy_1, s_M_isUprightBy_4, s_M_isUprightBy_5, s_M_isUprightBy_7, s_M_isUprightBy_8, s_M_isUprightBy_11, s_M_isUprightBy_14, s_M_isUprightBy_15, s_M_isUprightBy_16, s_M_isUprightBy_19, s_M_isUprightBy_22, s_M_isUprightBy_23, s_M_isUprightBy_24, s_M_isUprightBy_25, s_M_isUprightBy_27, s_M_isUprightBy_30, s_M_isUprightBy_33, s_M_isUprightBy_36, s_M_isUprightBy_37, s_M_isUprightBy_40, s_M_isUprightBy_41, s_M_isUprightBy_42, s_M_isUprightBy_45, s_M_isUprightBy_46, zlt, zle, zeq, zclamp, zinc, zdec, zdi, zdr, zdl, zdn, zpi, zpn, if_true, if_false, ite_not, Bool.false_eq_true, ne_eq, not_true_eq_false, not_false_eq_true, true_and, and_true, Nat.add_assoc, Nat.reduceAdd, hn, M_has, zift, ziff]
      refine kk () _ ⟨q1.congr (fun i hi => ⟨?_, ?_, rfl⟩), q2⟩
      · rw [plK', plK']
        by_cases g : i < j ∧ hb b i = true
        · rw [if_pos g, if_pos ⟨by omega, g.2⟩]
        · rw [if_neg g, if_neg (fun z => (show ¬ (i = j) from fun e => h (by rw [← e]; exact z.2)) (by
            have z1 := z.1
            by_cases e : i < j
            · exact absurd ⟨e, z.2⟩ g
            · omega))]
      · rw [plF', plF']
        by_cases g : i < j ∧ hb b i = true
        · rw [if_pos g, if_pos ⟨by omega, g.2⟩]
        · rw [if_neg g, if_neg (fun z => (show ¬ (i = j) from fun e => h (by rw [← e]; exact z.2)) (by
            have z1 := z.1
            by_cases e : i < j
            · exact absurd ⟨e, z.2⟩ g
            · omega))]
  · obtain ⟨q1, q2⟩ := hp
    have hn := q1.2.1
    have hK : WK σ2 β.1.1 (plK β.1.2.1 b) (plF β.1.2.2.1 b) β.1.2.2.2 := q1.congr (fun i hi => ⟨by simp only [plK', plK, hi, true_and], by simp only [plF', plF, hi, true_and], rfl⟩)
    have hF : Fok β.1.1 (plF β.1.2.2.1 b) := by
      intro i hi
      rw [plF]
      split
      · exact ⟨9, by omega, rfl⟩
      · exact hB.1.F i hi
    rw [s_M_isUprightBy_6]
    simp (disch := first | assumption | omega | decide | exact zin_d (by assumption) (by omega) (by omega) | (simp only [zb01]; done)) only [s_M_isUprightBy_0, s_M_isUprightBy_1, s_M_isUprightBy_4, s_M_isUprightBy_5, s_M_isUprightBy_7, s_M_isUprightBy_8, s_M_isUprightBy_11, s_M_isUprightBy_14, s_M_isUprightBy_15, s_M_isUprightBy_16, s_M_isUprightBy_19, s_M_isUprightBy_22, s_M_isUprightBy_23, s_M_isUprightBy_24, s_M_isUprightBy_25, s_M_isUprightBy_27, s_M_isUprightBy_30, s_M_isUprightBy_33, s_M_isUprightBy_36, s_M_isUprightBy_37, s_M_isUprightBy_40, s_M_isUprightBy_41, s_M_isUprightBy_42, s_M_isUprightBy_45, s_M_isUprightBy_46, zlt, zle, zeq, zclamp, zinc, zdec, zdi, zdr, zdl, zdn, zpi, zpn, if_true, if_false, ite_not, Bool.false_eq_true, ne_eq, not_true_eq_false, not_false_eq_true, true_and, and_true, Nat.add_assoc, Nat.reduceAdd, hn, M_isUpright hK hF, zift]
    refine M_forgets (k1.keep (q2.1 12 (by omega))) (fun σ3 h3 f3 => ?_)
    simp (disch := first | assumption | omega | decide | exact zin_d (by assumption) (by omega) (by omega) | (simp only [zb01]; done)) only [s_M_isUprightBy_0, s_M_isUprightBy_1, s_M_isUprightBy_4, s_M_isUprightBy_5, s_M_isUprightBy_7, s_M_isUprightBy_8, s_M_isUprightBy_11, s_M_isUprightBy_14, s_M_isUprightBy_15, s_M_isUprightBy_16, s_M_isUprightBy_19, s_M_isUprightBy_22, s_M_isUprightBy_23, s_M_isUprightBy_24, s_M_isUprightBy_25, s_M_isUprightBy_27, s_M_isUprightBy_30, s_M_isUprightBy_33, s_M_isUprightBy_36, s_M_isUprightBy_37, s_M_isUprightBy_40, s_M_isUprightBy_41, s_M_isUprightBy_42, s_M_isUprightBy_45, s_M_isUprightBy_46, zlt, zle, zeq, zclamp, zinc, zdec, zdi, zdr, zdl, zdn, zpi, zpn, if_true, if_false, ite_not, Bool.false_eq_true, ne_eq, not_true_eq_false, not_false_eq_true, true_and, and_true, Nat.add_assoc, Nat.reduceAdd]
    exact hQ σ3 h3 ((f1.tr q2.T).tr f3)
  · rw [plK', if_neg (fun z => absurd z.1 (Nat.not_lt_zero i))]
  · rw [plF', if_neg (fun z => absurd z.1 (Nat.not_lt_zero i))]
theorem M_fewest (hR : WX σ a) (hQ : ∀ σ', WX σ' (c_fewest a).2 → Q (some (.int (c_fewest a).1)) σ') : Ev zshM 224 0 [some (.ref 0), none, none] [] σ Q := by
  have hok := hR.1.2.1
  have h12 := hok.1.1
  dsimp only [c_fewest] at hQ
  rw [few_eq h12] at hQ
  have hp12 := pow_12 a.1.1.1 h12
  have eb := bit_n a.1.1.1 (by omega)
  have hb1 : ∀ b, b < 2 ^ a.1.1.1 → bitsR (nI b) 31 = nI (bcN b) ∧ bcN b ≤ 12 := by
    intro b hb
    obtain ⟨c1, c2⟩ := bcN_eq h12 hb
    exact ⟨by rw [bitsR_c b (by omega)]; exact c2, by omega⟩
  have up : ∀ b, (stndB a.1.1.1 (plK a.1.1.2.1 (nI b)) (plF a.1.1.2.2.1 (nI b)) a.1.1.2.2.2 = true) = (fewB a.1.1.1 a.1.1.2.1 a.1.1.2.2.1 a.1.1.2.2.2 b = true) := fun b => by rw [fewB]
  generalize fewB a.1.1.1 a.1.1.2.1 a.1.1.2.2.1 a.1.1.2.2.2 = p at *
  generalize 2 ^ a.1.1.1 = N at *
  simp (disch := first | assumption | omega | decide | exact zin_d (by assumption) (by omega) (by omega) | (simp only [zb01]; done)) only [s_M_fewest_0, s_M_fewest_2, s_M_fewest_3, s_M_fewest_4, zlt, zle, zeq, zclamp, zinc, zdec, zdi, zdr, zdl, zdn, zpi, zpn, if_true, if_false, ite_not, Bool.false_eq_true, ne_eq, not_true_eq_false, not_false_eq_true, true_and, and_true, Nat.add_assoc, Nat.reduceAdd]
  refine loopI (α := Unit) (N := N) (fun _ σ1 k => Ev zshM 224 5 [some (.ref 0), some (.int (rfI p k)), some (.int (nI k))] [] σ1 Q) (fun k σ1 => WMd σ1 a.1 ∧ frT σ σ1) (fun _ k σ1 hk hp kk => ?_) (fun _ σ1 hp => ?_) 0 () σ (Nat.zero_le _) ⟨hR.1.1, frT.rf⟩
  · obtain ⟨q1, q2⟩ := hp
    have hn := q1.1.2.1
    obtain ⟨d1, d2⟩ := hb1 k hk
    have ask : ((rfI p k = -9 ∨ bcN k < bcN (rfI p k).toNatClampNeg) → Ev zshM 224 30 [some (.ref 0), some (.int (rfI p k)), some (.int (nI k))] [] σ1 Q) := by
      intro hc
      simp (disch := first | assumption | omega | decide | exact zin_d (by assumption) (by omega) (by omega) | (simp only [zb01]; done)) only [s_M_fewest_30, s_M_fewest_31, s_M_fewest_32, s_M_fewest_35, s_M_fewest_38, s_M_fewest_39, zlt, zle, zeq, zclamp, zinc, zdec, zdi, zdr, zdl, zdn, zpi, zpn, if_true, if_false, ite_not, Bool.false_eq_true, ne_eq, not_true_eq_false, not_false_eq_true, true_and, and_true, Nat.add_assoc, Nat.reduceAdd]
      refine M_isUprightBy q1 hok (fun σ2 h2 f2 => ?_)
      have kk2 := kk () σ2 ⟨h2, q2.tr f2⟩
      have u := up k
      by_cases h : p k = true
      · rw [rfI, if_pos ⟨hc, h⟩] at kk2
        rw [if_pos (u.mpr h)]
        simp (disch := first | assumption | omega | decide | exact zin_d (by assumption) (by omega) (by omega) | (simp only [zb01]; done)) only [s_M_fewest_30, s_M_fewest_31, s_M_fewest_32, s_M_fewest_35, s_M_fewest_38, s_M_fewest_39, s_M_fewest_40, s_M_fewest_43, zlt, zle, zeq, zclamp, zinc, zdec, zdi, zdr, zdl, zdn, zpi, zpn, if_true, if_false, ite_not, Bool.false_eq_true, ne_eq, not_true_eq_false, not_false_eq_true, true_and, and_true, Nat.add_assoc, Nat.reduceAdd, zift, ziff]
        exact kk2
      · rw [rfI, if_neg (fun z => h z.2)] at kk2
        rw [if_neg (fun z => h (u.mp z))]
        simp (disch := first | assumption | omega | decide | exact zin_d (by assumption) (by omega) (by omega) | (simp only [zb01]; done)) only [s_M_fewest_30, s_M_fewest_31, s_M_fewest_32, s_M_fewest_35, s_M_fewest_38, s_M_fewest_39, s_M_fewest_40, s_M_fewest_43, zlt, zle, zeq, zclamp, zinc, zdec, zdi, zdr, zdl, zdn, zpi, zpn, if_true, if_false, ite_not, Bool.false_eq_true, ne_eq, not_true_eq_false, not_false_eq_true, true_and, and_true, Nat.add_assoc, Nat.reduceAdd, zift, ziff]
        exact kk2
    rw [s_M_fewest_5]
    rcases rfI_in (p := p) k (by omega) with ⟨h1, h2⟩ | ⟨m, h1, h2, h3, h4, h5⟩
    · have a1 := ask (Or.inl h1)
      rw [h1] at a1 ⊢
      have e9 : (-9 : Int32) < 0 := by decide
      simp (disch := first | assumption | omega | decide | exact zin_d (by assumption) (by omega) (by omega) | (simp only [zb01]; done)) only [s_M_fewest_6, s_M_fewest_7, s_M_fewest_8, s_M_fewest_11, s_M_fewest_12, s_M_fewest_15, s_M_fewest_16, s_M_fewest_19, s_M_fewest_20, s_M_fewest_23, s_M_fewest_24, s_M_fewest_27, zlt, zle, zeq, zclamp, zinc, zdec, zdi, zdr, zdl, zdn, zpi, zpn, if_true, if_false, ite_not, Bool.false_eq_true, ne_eq, not_true_eq_false, not_false_eq_true, true_and, and_true, Nat.add_assoc, Nat.reduceAdd, hn, eb, zift, ziff]
      exact a1
    · obtain ⟨d3, d4⟩ := hb1 m (by omega)
      have pm : ¬ nI m < 0 := nI_pos (by omega)
      have n9 : nI m ≠ -9 := nI_ne9 (by omega)
      by_cases h : bcN k < bcN m
      · have h' : ¬ bcN m ≤ bcN k := by omega
        have a1 := ask (Or.inr (by rw [h2, zclamp (by omega)]; exact h))
        rw [h2] at a1 ⊢
        simp (disch := first | assumption | omega | decide | exact zin_d (by assumption) (by omega) (by omega) | (simp only [zb01]; done)) only [s_M_fewest_6, s_M_fewest_7, s_M_fewest_8, s_M_fewest_11, s_M_fewest_12, s_M_fewest_15, s_M_fewest_16, s_M_fewest_19, s_M_fewest_20, s_M_fewest_23, s_M_fewest_24, s_M_fewest_27, zlt, zle, zeq, zclamp, zinc, zdec, zdi, zdr, zdl, zdn, zpi, zpn, if_true, if_false, ite_not, Bool.false_eq_true, ne_eq, not_true_eq_false, not_false_eq_true, true_and, and_true, Nat.add_assoc, Nat.reduceAdd, hn, eb, M_bits, d1, d3, zift, ziff]
        exact a1
      · have h' : bcN m ≤ bcN k := by omega
        have kk2 := kk () σ1 ⟨q1, q2⟩
        rw [rfI, if_neg (fun z => z.1.elim (fun q => n9 (h2.symm.trans q)) (fun q => h (by rw [h2, zclamp (by omega)] at q; exact q)))] at kk2
        rw [h2] at kk2 ⊢
        simp (disch := first | assumption | omega | decide | exact zin_d (by assumption) (by omega) (by omega) | (simp only [zb01]; done)) only [s_M_fewest_6, s_M_fewest_7, s_M_fewest_8, s_M_fewest_11, s_M_fewest_12, s_M_fewest_15, s_M_fewest_16, s_M_fewest_19, s_M_fewest_20, s_M_fewest_23, s_M_fewest_24, s_M_fewest_27, s_M_fewest_30, s_M_fewest_31, s_M_fewest_32, s_M_fewest_35, s_M_fewest_38, s_M_fewest_39, s_M_fewest_40, s_M_fewest_43, zlt, zle, zeq, zclamp, zinc, zdec, zdi, zdr, zdl, zdn, zpi, zpn, if_true, if_false, ite_not, Bool.false_eq_true, ne_eq, not_true_eq_false, not_false_eq_true, true_and, and_true, Nat.add_assoc, Nat.reduceAdd, hn, eb, M_bits, d1, d3, zift, ziff]
        exact kk2
  · obtain ⟨q1, q2⟩ := hp
    have hn := q1.1.2.1
    rw [s_M_fewest_5]
    simp (disch := first | assumption | omega | decide | exact zin_d (by assumption) (by omega) (by omega) | (simp only [zb01]; done)) only [s_M_fewest_0, s_M_fewest_2, s_M_fewest_3, s_M_fewest_4, s_M_fewest_6, s_M_fewest_7, s_M_fewest_8, s_M_fewest_11, s_M_fewest_12, s_M_fewest_15, s_M_fewest_16, s_M_fewest_19, s_M_fewest_20, s_M_fewest_23, s_M_fewest_24, s_M_fewest_27, s_M_fewest_30, s_M_fewest_31, s_M_fewest_32, s_M_fewest_35, s_M_fewest_38, s_M_fewest_39, s_M_fewest_40, s_M_fewest_43, s_M_fewest_46, s_M_fewest_47, zlt, zle, zeq, zclamp, zinc, zdec, zdi, zdr, zdl, zdn, zpi, zpn, if_true, if_false, ite_not, Bool.false_eq_true, ne_eq, not_true_eq_false, not_false_eq_true, true_and, and_true, Nat.add_assoc, Nat.reduceAdd, hn, eb, zift]
    exact hQ σ1 (hR.T q1 q2)
end
