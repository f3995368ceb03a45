theorem mod_half {b r : Nat} (h0 : 0 < r) (h1 : r < b) : 2 * (b % r) < b := by
  have h2 := Nat.mod_lt b h0
  have h3 := Nat.div_add_mod b r
  have h4 : 1 ≤ b / r := Nat.div_pos (Nat.le_of_lt h1) h0
  have h5 : r * 1 ≤ r * (b / r) := Nat.mul_le_mul_left r h4
  omega
theorem lN0 {a : Nat} (ha : a < 2 ^ 63) : (lN a = 0) = (a = 0) := propext (pk_lEQ (b := 0) ha (by decide))
theorem gcdS_eq : ∀ (m a b k : Nat), a < 2 ^ 63 → b < 2 ^ m → m ≤ 31 → 2 * m + 1 ≤ k → gcdS k (lN a) (lN b) = lN (Nat.gcd a b) := by
  intro m
  induction m with
  | zero =>
    intro a b k ha hb _ hk
    obtain rfl : b = 0 := by omega
    obtain ⟨k, rfl⟩ : ∃ j, k = j + 1 := ⟨k - 1, by omega⟩
    rw [gcdS, if_pos (show lN 0 = 0 from rfl), Nat.gcd_zero_right]
  | succ m ih =>
    intro a b k ha hb hm hk
    have hb31 : b < 2 ^ 31 := Nat.lt_of_lt_of_le hb (Nat.pow_le_pow_right (by omega) hm)
    have hb63 : b < 2 ^ 63 := Nat.lt_of_lt_of_le hb31 (by decide)
    obtain ⟨k, rfl⟩ : ∃ j, k = j + 1 := ⟨k - 1, by omega⟩
    rw [gcdS]
    by_cases h : b = 0
    · subst h
      rw [if_pos (show lN 0 = 0 from rfl), Nat.gcd_zero_right]
    · have hn : ¬ lN b = 0 := by rw [lN0 hb63]; exact h
      rw [if_neg hn, pk_lRem ha (by omega) hb63]
      have e1 : Nat.gcd a b = Nat.gcd b (a % b) := by rw [Nat.gcd_comm, Nat.gcd_rec, Nat.gcd_comm]
      have hr := Nat.mod_lt a (show 0 < b by omega)
      rw [e1]
      generalize a % b = r at *
      obtain ⟨k, rfl⟩ : ∃ j, k = j + 1 := ⟨k - 1, by omega⟩
      rw [gcdS]
      by_cases h2 : r = 0
      · subst h2
        rw [if_pos (show lN 0 = 0 from rfl), Nat.gcd_zero_right]
      · have hn2 : ¬ lN r = 0 := by rw [lN0 (by omega)]; exact h2
        rw [if_neg hn2, pk_lRem hb63 (by omega) (by omega)]
        have e2 : Nat.gcd b r = Nat.gcd r (b % r) := by rw [Nat.gcd_comm, Nat.gcd_rec, Nat.gcd_comm]
        have hh := mod_half (show 0 < r by omega) hr
        rw [e2]
        exact ih r (b % r) k (by omega) (by rw [Nat.pow_succ] at hb; omega) (by omega) (by omega)
section
variable {σ : zG} {Q : Option Value → zG → Prop} {a : At} {x y z w p t : Int32} {β : Bt} {i j k n : Nat} {K F L : SF} {u d : Int64}
theorem M_divisorLoop : ∀ (b a : Nat) (o0 o2 o8 o9 : Option Value), a < 2 ^ 63 → b < 2 ^ 63 → Ev zshM 243 6 [o0, none, o2, none, some (.long (lN a)), none, some (.long (lN b)), none, o8, o9] [] σ Q = Q (some (.long (lN (Nat.gcd a b)))) σ := by
  intro b
  induction b using Nat.strongRecOn with
  | ind b ih =>
    intro a o0 o2 o8 o9 ha hb
    rw [s_M_divisor_6]
    by_cases h : b = 0
    · have e : lN b = 0 := by rw [h]; rfl
      simp (disch := first | assumption | omega | decide | exact zin_d (by assumption) (by omega) (by omega) | (simp only [zb01]; done)) only [s_M_divisor_0, s_M_divisor_1, s_M_divisor_3, s_M_divisor_4, s_M_divisor_8, s_M_divisor_9, s_M_divisor_10, s_M_divisor_13, s_M_divisor_15, s_M_divisor_17, s_M_divisor_18, s_M_divisor_20, s_M_divisor_22, s_M_divisor_24, s_M_divisor_26, s_M_divisor_28, s_M_divisor_31, s_M_divisor_33, zlt, zle, zeq, zclamp, zinc, zdec, zdi, zdr, zdl, zdn, zpi, zpn, if_true, if_false, ite_not, Bool.false_eq_true, ne_eq, not_true_eq_false, not_false_eq_true, true_and, and_true, Nat.add_assoc, Nat.reduceAdd, cmp_eq, zift]
      rw [h, Nat.gcd_zero_right]
    · have hn : ¬ lN b = 0 := by rw [lN0 hb]; exact h
      have hr := Nat.mod_lt a (show 0 < b by omega)
      have er := pk_lRem ha (show 0 < b by omega) hb
      have e1 : Nat.gcd a b = Nat.gcd b (a % b) := by rw [Nat.gcd_comm, Nat.gcd_rec, Nat.gcd_comm]
      simp (disch := first | assumption | omega | decide | exact zin_d (by assumption) (by omega) (by omega) | (simp only [zb01]; done)) only [s_M_divisor_0, s_M_divisor_1, s_M_divisor_3, s_M_divisor_4, s_M_divisor_8, s_M_divisor_9, s_M_divisor_10, s_M_divisor_13, s_M_divisor_15, s_M_divisor_17, s_M_divisor_18, s_M_divisor_20, s_M_divisor_22, s_M_divisor_24, s_M_divisor_26, s_M_divisor_28, s_M_divisor_31, s_M_divisor_33, zlt, zle, zeq, zclamp, zinc, zdec, zdi, zdr, zdl, zdn, zpi, zpn, if_true, if_false, ite_not, Bool.false_eq_true, ne_eq, not_true_eq_false, not_false_eq_true, true_and, and_true, Nat.add_assoc, Nat.reduceAdd, cmp_eq, er, ziff]
      rw [ih (a % b) hr b _ _ _ _ hb (by omega), e1]
theorem M_divisor {a b : Nat} (ha : a < 2 ^ 63) (hb : b < 2 ^ 63) : Ev zshM 243 0 [some (.long (lN a)), none, some (.long (lN b)), none, none, none, none, none, none, none] [] σ Q = Q (some (.long (lN (Nat.gcd a b)))) σ := by
  simp (disch := first | assumption | omega | decide | exact zin_d (by assumption) (by omega) (by omega) | (simp only [zb01]; done)) only [s_M_divisor_0, s_M_divisor_1, s_M_divisor_3, s_M_divisor_4, s_M_divisor_8, s_M_divisor_9, s_M_divisor_10, s_M_divisor_13, s_M_divisor_15, s_M_divisor_17, s_M_divisor_18, s_M_divisor_20, s_M_divisor_22, s_M_divisor_24, s_M_divisor_26, s_M_divisor_28, s_M_divisor_31, s_M_divisor_33, zlt, zle, zeq, zclamp, zinc, zdec, zdi, zdr, zdl, zdn, zpi, zpn, if_true, if_false, ite_not, Bool.false_eq_true, ne_eq, not_true_eq_false, not_false_eq_true, true_and, and_true, Nat.add_assoc, Nat.reduceAdd]
  exact M_divisorLoop b a _ _ _ _ ha hb
theorem M_partOf {a b : Nat} (ha : a < 2 ^ 63) (h0 : 0 < b) (hb : b < 2 ^ 31) : Ev zshM 244 0 [some (.long (lN a)), none, some (.long (lN b)), none, some (.int p)] [] σ Q = Q (some (.long (ltS (lN a) (lN b) p))) σ := by
  have hb63 : b < 2 ^ 63 := by omega
  have hg0 : 0 < Nat.gcd a b := Nat.gcd_pos_of_pos_right a h0
  have hgb : Nat.gcd a b ≤ b := Nat.gcd_le_right a h0
  have hg : ¬ lN (Nat.gcd a b) = 0 := by rw [lN0 (by omega)]; omega
  have hd : ¬ lN b = 0 := by rw [lN0 hb63]; omega
  have eg : gcdS 100 (lN a) (lN b) = lN (Nat.gcd a b) := gcdS_eq 31 a b 100 ha hb (by omega) (by omega)
  have el : ltS (lN a) (lN b) p = if p = 0 then lN a / lN (Nat.gcd a b) else lN b / lN (Nat.gcd a b) := by
    rw [ltS]
    by_cases hu : a = 0
    · subst hu
      rw [if_pos (Or.inl (show lN 0 = 0 from rfl)), Nat.gcd_zero_left, pk_lDiv (by omega) h0 hb63, pk_lDiv (by omega) h0 hb63, Nat.zero_div, Nat.div_self h0]
      rfl
    · rw [if_neg (fun z => z.elim (fun q => hu (by rw [lN0 ha] at q; exact q)) hd), eg, if_neg hg]
  rw [el]
  by_cases hp : p = 0
  · rw [if_pos hp]
    simp (disch := first | assumption | omega | decide | exact zin_d (by assumption) (by omega) (by omega) | (simp only [zb01]; done)) only [s_M_partOf_0, s_M_partOf_2, s_M_partOf_5, s_M_partOf_6, s_M_partOf_9, s_M_partOf_10, s_M_partOf_11, s_M_partOf_12, s_M_partOf_15, s_M_partOf_16, zlt, zle, zeq, zclamp, zinc, zdec, zdi, zdr, zdl, zdn, zpi, zpn, if_true, if_false, ite_not, Bool.false_eq_true, ne_eq, not_true_eq_false, not_false_eq_true, true_and, and_true, Nat.add_assoc, Nat.reduceAdd, M_divisor ha hb63, ziff, hp]
  · rw [if_neg hp]
    simp (disch := first | assumption | omega | decide | exact zin_d (by assumption) (by omega) (by omega) | (simp only [zb01]; done)) only [s_M_partOf_0, s_M_partOf_2, s_M_partOf_5, s_M_partOf_6, s_M_partOf_9, s_M_partOf_10, s_M_partOf_11, s_M_partOf_12, s_M_partOf_15, s_M_partOf_16, zlt, zle, zeq, zclamp, zinc, zdec, zdi, zdr, zdl, zdn, zpi, zpn, if_true, if_false, ite_not, Bool.false_eq_true, ne_eq, not_true_eq_false, not_false_eq_true, true_and, and_true, Nat.add_assoc, Nat.reduceAdd, M_divisor ha hb63, zift]
theorem fsum_num (hF : Fok n F) : ∀ k, k ≤ n → ∃ s, s ≤ 9 * k ∧ fsum F k = nI s := by
  intro k
  induction k with
  | zero => intro _; exact ⟨0, by omega, rfl⟩
  | succ k ih =>
    intro hk
    obtain ⟨s, h1, h2⟩ := ih (by omega)
    obtain ⟨v, h3, h4⟩ := hF k (by omega)
    exact ⟨s + v, by omega, by rw [fsum, h2, h4, nI_add]⟩
theorem M_mean (hR : WX σ a) (hQ : ∀ σ', WX σ' (c_mean a p).2 → Q (some (.long (c_mean a p).1)) σ') : Ev zshM 247 0 [some (.ref 0), some (.int p)] [] σ Q := by
  have hK := hR.1.1.1
  have hok := hR.1.2.1
  have h12 := hok.1.1
  have hn := hK.2.1
  rw [c_mean] at hQ
  by_cases hp : p = 0 ∨ p = 1
  · rw [if_pos hp] at hQ
    have hb : btw p 0 1 = true := by
      rcases hp with rfl | rfl <;> rfl
    obtain ⟨s, hs, es⟩ := fsum_num hok.1.F a.1.1.1 (Nat.le_refl _)
    rw [es, nI_l (by omega), nI_l (by omega)] at hQ
    have hq := hQ σ hR
    by_cases h0 : a.1.1.1 = 0
    · have e0 : ltS (lN s) (lN a.1.1.1) p = p.toInt64 := by
        rw [h0, ltS, if_pos (Or.inr (show lN 0 = 0 from rfl))]
        rcases hp with rfl | rfl <;> rfl
      rw [e0] at hq
      simp (disch := first | assumption | omega | decide | exact zin_d (by assumption) (by omega) (by omega) | (simp only [zb01]; done)) only [s_M_mean_0, s_M_mean_1, s_M_mean_2, s_M_mean_3, s_M_mean_6, s_M_mean_9, s_M_mean_10, s_M_mean_12, s_M_mean_15, s_M_mean_16, s_M_mean_17, s_M_mean_20, s_M_mean_23, s_M_mean_24, s_M_mean_25, s_M_mean_28, s_M_mean_29, s_M_mean_32, s_M_mean_33, s_M_mean_34, s_M_mean_37, s_M_mean_38, s_M_mean_39, s_M_mean_42, zlt, zle, zeq, zclamp, zinc, zdec, zdi, zdr, zdl, zdn, zpi, zpn, if_true, if_false, ite_not, Bool.false_eq_true, ne_eq, not_true_eq_false, not_false_eq_true, true_and, and_true, Nat.add_assoc, Nat.reduceAdd, zlL_0, zlR_0, zeL_0, zeR_0, zqL_0, zcl_0, M_isIn, hn, zift, ziff]
      exact hq
    · simp (disch := first | assumption | omega | decide | exact zin_d (by assumption) (by omega) (by omega) | (simp only [zb01]; done)) only [s_M_mean_0, s_M_mean_1, s_M_mean_2, s_M_mean_3, s_M_mean_6, s_M_mean_9, s_M_mean_10, s_M_mean_12, s_M_mean_15, s_M_mean_16, s_M_mean_17, s_M_mean_20, s_M_mean_23, s_M_mean_24, s_M_mean_25, s_M_mean_28, s_M_mean_29, s_M_mean_32, s_M_mean_33, s_M_mean_34, s_M_mean_37, s_M_mean_38, s_M_mean_39, s_M_mean_42, zlt, zle, zeq, zclamp, zinc, zdec, zdi, zdr, zdl, zdn, zpi, zpn, if_true, if_false, ite_not, Bool.false_eq_true, ne_eq, not_true_eq_false, not_false_eq_true, true_and, and_true, Nat.add_assoc, Nat.reduceAdd, zlL_0, zlR_0, zeL_0, zeR_0, zqL_0, zcl_0, M_isIn, hn, M_allFigures hK, es, nI_l, zift, ziff]
      rw [M_partOf (by omega) (by omega) (by omega)]
      simp (disch := first | assumption | omega | decide | exact zin_d (by assumption) (by omega) (by omega) | (simp only [zb01]; done)) only [s_M_mean_0, s_M_mean_1, s_M_mean_2, s_M_mean_3, s_M_mean_6, s_M_mean_9, s_M_mean_10, s_M_mean_12, s_M_mean_15, s_M_mean_16, s_M_mean_17, s_M_mean_20, s_M_mean_23, s_M_mean_24, s_M_mean_25, s_M_mean_28, s_M_mean_29, s_M_mean_32, s_M_mean_33, s_M_mean_34, s_M_mean_37, s_M_mean_38, s_M_mean_39, s_M_mean_42, zlt, zle, zeq, zclamp, zinc, zdec, zdi, zdr, zdl, zdn, zpi, zpn, if_true, if_false, ite_not, Bool.false_eq_true, ne_eq, not_true_eq_false, not_false_eq_true, true_and, and_true, Nat.add_assoc, Nat.reduceAdd]
      exact hq
  · rw [if_neg hp] at hQ
    have hb := btw01 (fun e => hp (Or.inl e)) (fun e => hp (Or.inr e))
    simp (disch := first | assumption | omega | decide | exact zin_d (by assumption) (by omega) (by omega) | (simp only [zb01]; done)) only [s_M_mean_0, s_M_mean_1, s_M_mean_2, s_M_mean_3, s_M_mean_6, s_M_mean_9, s_M_mean_10, s_M_mean_12, s_M_mean_15, s_M_mean_16, s_M_mean_17, s_M_mean_20, s_M_mean_23, s_M_mean_24, s_M_mean_25, s_M_mean_28, s_M_mean_29, s_M_mean_32, s_M_mean_33, s_M_mean_34, s_M_mean_37, s_M_mean_38, s_M_mean_39, s_M_mean_42, zlt, zle, zeq, zclamp, zinc, zdec, zdi, zdr, zdl, zdn, zpi, zpn, if_true, if_false, ite_not, Bool.false_eq_true, ne_eq, not_true_eq_false, not_false_eq_true, true_and, and_true, Nat.add_assoc, Nat.reduceAdd, M_isIn, zift, ziff]
    refine M_lowestOf hR ref2 (fun σ' h => ?_)
    simp (disch := first | assumption | omega | decide | exact zin_d (by assumption) (by omega) (by omega) | (simp only [zb01]; done)) only [s_M_mean_0, s_M_mean_1, s_M_mean_2, s_M_mean_3, s_M_mean_6, s_M_mean_9, s_M_mean_10, s_M_mean_12, s_M_mean_15, s_M_mean_16, s_M_mean_17, s_M_mean_20, s_M_mean_23, s_M_mean_24, s_M_mean_25, s_M_mean_28, s_M_mean_29, s_M_mean_32, s_M_mean_33, s_M_mean_34, s_M_mean_37, s_M_mean_38, s_M_mean_39, s_M_mean_42, zlt, zle, zeq, zclamp, zinc, zdec, zdi, zdr, zdl, zdn, zpi, zpn, if_true, if_false, ite_not, Bool.false_eq_true, ne_eq, not_true_eq_false, not_false_eq_true, true_and, and_true, Nat.add_assoc, Nat.reduceAdd]
    exact hQ σ' h
end
