theorem first_or (p : Nat → Prop) : ∀ N : Nat, (∀ i, i < N → p i) ∨ ∃ j, j < N ∧ ¬ p j ∧ ∀ i, i < j → p i := by
  intro N
  induction N with
  | zero => exact Or.inl fun i h => by omega
  | succ N ih =>
    rcases ih with h | ⟨j, h1, h2, h3⟩
    · by_cases hp : p N
      · exact Or.inl fun i hi => by
          by_cases e : i = N
          · exact e ▸ hp
          · exact h i (by omega)
      · exact Or.inr ⟨N, by omega, hp, h⟩
    · exact Or.inr ⟨j, by omega, h2, h3⟩
theorem zf_at {p : Nat → Prop} [DecidablePred p] : ∀ (k a j : Nat), a ≤ j → j < a + k → p j → (∀ i, a ≤ i → i < j → ¬ p i) → zf p a k = nI j := by
  intro k
  induction k with
  | zero => intro a j h1 h2; omega
  | succ k ih =>
    intro a j h1 h2 hp hn
    rw [zf]
    by_cases e : a = j
    · subst e; rw [if_pos hp]
    · rw [if_neg (hn a (Nat.le_refl a) (by omega))]
      exact ih (a + 1) j (by omega) (by omega) hp (fun i g1 g2 => hn i (by omega) g2)
theorem zf_no {p : Nat → Prop} [DecidablePred p] : ∀ (k a : Nat), (∀ i, a ≤ i → i < a + k → ¬ p i) → zf p a k = -9 := by
  intro k
  induction k with
  | zero => intro a _; rfl
  | succ k ih =>
    intro a hn
    rw [zf, if_neg (hn a (Nat.le_refl a) (by omega))]
    exact ih (a + 1) (fun i g1 g2 => hn i (by omega) (by omega))
/-- the told numbers -/
def WR (σ : zG) (rn : Nat) (rf : SF) : Prop := rn ≤ 16 ∧ σ 24 1 = nI rn ∧ ∀ i, i < rn → σ 25 i = rf i
def tellB (n : Nat) (K F L : SF) (rn : Nat) (rf : SF) : Bool := (List.range rn).all fun i => decide (i + 1 < n) && decide (held K F L i = rf i)
theorem tellB_eq {n : Nat} {K F L : SF} {rn : Nat} {rf : SF} : (tellB n K F L rn rf = true) = ∀ i, i < rn → i + 1 < n ∧ held K F L i = rf i := by
  simp only [tellB, List.all_eq_true, List.mem_range, Bool.and_eq_true, decide_eq_true_eq]
def jdg (n : Nat) (K F : SF) (rn : Nat) (rf : SF) : Int32 := zf (fun i => ¬ (i < n ∧ lsum K F (i + 1) + 50 = rf i)) 0 rn
theorem WR.keep {σ σ' : zG} {rn : Nat} {rf : SF} (h : WR σ rn rf) (h1 : σ' 24 = σ 24) (h2 : σ' 25 = σ 25) : WR σ' rn rf := ⟨h.1, by rw [h1]; exact h.2.1, fun i hi => by rw [h2]; exact h.2.2 i hi⟩
section
variable {s n : Nat} {σ : zG} {Q : Option Value → zG → Prop} {K F L rf : SF} {rn : Nat}
theorem Row_tellsWhatHolds (hW : WS σ s n K F L) (hR : WR σ rn rf) : Ev zshX 61 0 [some (.ref 24), some (.ref s), none] [] σ Q = Q (some (.int (if tellB n K F L rn rf = true then 1 else 0))) σ := by
  obtain ⟨hr1, hr2, hr3⟩ := hR
  have h7 := hW.1.1
  have hN := hW.2.1
  have a25 : zshX 25 = 100 + 16 := rfl
  simp (disch := first | assumption | omega | decide | exact zin_d (by assumption) (by omega) (by omega) | (simp only [zb01]; done)) only [s_Row_tellsWhatHolds_0, s_Row_tellsWhatHolds_1, s_Row_tellsWhatHolds_3, s_Row_tellsWhatHolds_4, s_Row_tellsWhatHolds_7, s_Row_tellsWhatHolds_10, s_Row_tellsWhatHolds_11, s_Row_tellsWhatHolds_13, s_Row_tellsWhatHolds_16, s_Row_tellsWhatHolds_17, s_Row_tellsWhatHolds_18, s_Row_tellsWhatHolds_21, s_Row_tellsWhatHolds_24, s_Row_tellsWhatHolds_25, s_Row_tellsWhatHolds_26, s_Row_tellsWhatHolds_29, s_Row_tellsWhatHolds_30, s_Row_tellsWhatHolds_33, s_Row_tellsWhatHolds_34, s_Row_tellsWhatHolds_35, s_Row_tellsWhatHolds_38, s_Row_tellsWhatHolds_39, s_Row_tellsWhatHolds_40, s_Row_tellsWhatHolds_43, s_Row_tellsWhatHolds_46, s_Row_tellsWhatHolds_47, zlt, zle, zeq, zclamp, zinc, zdec, zdi, zdr, zdl, zdn, zpi, zpn, if_true, if_false, ite_not, Bool.false_eq_true, ne_eq, not_true_eq_false, not_false_eq_true, true_and, and_true, Nat.add_assoc, Nat.reduceAdd]
  have step : ∀ i, i < rn → i + 1 < n ∧ held K F L i = rf i → Ev zshX 61 2 [some (.ref 24), some (.ref s), some (.int (nI i))] [] σ Q = Ev zshX 61 2 [some (.ref 24), some (.ref s), some (.int (nI (i + 1)))] [] σ Q := by
    intro i hi hp
    have hp1 := hp.1
    rw [s_Row_tellsWhatHolds_2]
    simp (disch := first | assumption | omega | decide | exact zin_d (by assumption) (by omega) (by omega) | (simp only [zb01]; done)) only [s_Row_tellsWhatHolds_0, s_Row_tellsWhatHolds_1, s_Row_tellsWhatHolds_3, s_Row_tellsWhatHolds_4, s_Row_tellsWhatHolds_7, s_Row_tellsWhatHolds_10, s_Row_tellsWhatHolds_11, s_Row_tellsWhatHolds_13, s_Row_tellsWhatHolds_16, s_Row_tellsWhatHolds_17, s_Row_tellsWhatHolds_18, s_Row_tellsWhatHolds_21, s_Row_tellsWhatHolds_24, s_Row_tellsWhatHolds_25, s_Row_tellsWhatHolds_26, s_Row_tellsWhatHolds_29, s_Row_tellsWhatHolds_30, s_Row_tellsWhatHolds_33, s_Row_tellsWhatHolds_34, s_Row_tellsWhatHolds_35, s_Row_tellsWhatHolds_38, s_Row_tellsWhatHolds_39, s_Row_tellsWhatHolds_40, s_Row_tellsWhatHolds_43, s_Row_tellsWhatHolds_46, s_Row_tellsWhatHolds_47, zlt, zle, zeq, zclamp, zinc, zdec, zdi, zdr, zdl, zdn, zpi, zpn, if_true, if_false, ite_not, Bool.false_eq_true, ne_eq, not_true_eq_false, not_false_eq_true, true_and, and_true, Nat.add_assoc, Nat.reduceAdd, zlL_0, zlR_0, zeL_0, zeR_0, zqL_0, zcl_0, zlL_1, zlR_1, zeL_1, zeR_1, zqL_1, zcl_1, zlL_16, zlR_16, zeL_16, zeR_16, zqL_16, zcl_16, hr2, hr3 i hi, Stones_hasJoint_in hW, Stones_heldBy hW, hp.2, zift, ziff]
  rcases first_or (fun i => i + 1 < n ∧ held K F L i = rf i) rn with h | ⟨j, hj, hp, hall⟩
  · rw [if_pos (by rw [tellB_eq]; exact h)]
    refine loopE (N := rn) (fun i => Ev zshX 61 2 [some (.ref 24), some (.ref s), some (.int (nI i))] [] σ Q) (fun i hi => step i hi (h i hi)) ?_ 0 (Nat.zero_le _)
    rw [s_Row_tellsWhatHolds_2]
    simp (disch := first | assumption | omega | decide | exact zin_d (by assumption) (by omega) (by omega) | (simp only [zb01]; done)) only [s_Row_tellsWhatHolds_0, s_Row_tellsWhatHolds_1, s_Row_tellsWhatHolds_3, s_Row_tellsWhatHolds_4, s_Row_tellsWhatHolds_7, s_Row_tellsWhatHolds_10, s_Row_tellsWhatHolds_11, s_Row_tellsWhatHolds_13, s_Row_tellsWhatHolds_16, s_Row_tellsWhatHolds_17, s_Row_tellsWhatHolds_18, s_Row_tellsWhatHolds_21, s_Row_tellsWhatHolds_24, s_Row_tellsWhatHolds_25, s_Row_tellsWhatHolds_26, s_Row_tellsWhatHolds_29, s_Row_tellsWhatHolds_30, s_Row_tellsWhatHolds_33, s_Row_tellsWhatHolds_34, s_Row_tellsWhatHolds_35, s_Row_tellsWhatHolds_38, s_Row_tellsWhatHolds_39, s_Row_tellsWhatHolds_40, s_Row_tellsWhatHolds_43, s_Row_tellsWhatHolds_46, s_Row_tellsWhatHolds_47, zlt, zle, zeq, zclamp, zinc, zdec, zdi, zdr, zdl, zdn, zpi, zpn, if_true, if_false, ite_not, Bool.false_eq_true, ne_eq, not_true_eq_false, not_false_eq_true, true_and, and_true, Nat.add_assoc, Nat.reduceAdd, zlL_0, zlR_0, zeL_0, zeR_0, zqL_0, zcl_0, zlL_1, zlR_1, zeL_1, zeR_1, zqL_1, zcl_1, hr2, zift]
  · rw [if_neg (by rw [tellB_eq]; exact fun z => hp (z j hj))]
    refine loopE (N := j) (fun i => Ev zshX 61 2 [some (.ref 24), some (.ref s), some (.int (nI i))] [] σ Q) (fun i hi => step i (by omega) (hall i hi)) ?_ 0 (Nat.zero_le _)
    rw [s_Row_tellsWhatHolds_2]
    by_cases h1 : j + 1 < n
    · have h2 : ¬ held K F L j = rf j := fun z => hp ⟨h1, z⟩
      simp (disch := first | assumption | omega | decide | exact zin_d (by assumption) (by omega) (by omega) | (simp only [zb01]; done)) only [s_Row_tellsWhatHolds_0, s_Row_tellsWhatHolds_1, s_Row_tellsWhatHolds_3, s_Row_tellsWhatHolds_4, s_Row_tellsWhatHolds_7, s_Row_tellsWhatHolds_10, s_Row_tellsWhatHolds_11, s_Row_tellsWhatHolds_13, s_Row_tellsWhatHolds_16, s_Row_tellsWhatHolds_17, s_Row_tellsWhatHolds_18, s_Row_tellsWhatHolds_21, s_Row_tellsWhatHolds_24, s_Row_tellsWhatHolds_25, s_Row_tellsWhatHolds_26, s_Row_tellsWhatHolds_29, s_Row_tellsWhatHolds_30, s_Row_tellsWhatHolds_33, s_Row_tellsWhatHolds_34, s_Row_tellsWhatHolds_35, s_Row_tellsWhatHolds_38, s_Row_tellsWhatHolds_39, s_Row_tellsWhatHolds_40, s_Row_tellsWhatHolds_43, s_Row_tellsWhatHolds_46, s_Row_tellsWhatHolds_47, zlt, zle, zeq, zclamp, zinc, zdec, zdi, zdr, zdl, zdn, zpi, zpn, if_true, if_false, ite_not, Bool.false_eq_true, ne_eq, not_true_eq_false, not_false_eq_true, true_and, and_true, Nat.add_assoc, Nat.reduceAdd, zlL_0, zlR_0, zeL_0, zeR_0, zqL_0, zcl_0, zlL_1, zlR_1, zeL_1, zeR_1, zqL_1, zcl_1, zlL_16, zlR_16, zeL_16, zeR_16, zqL_16, zcl_16, hr2, hr3 j hj, Stones_hasJoint_in hW, Stones_heldBy hW, h2, zift, ziff]
    · have e : ¬ (0 ≤ nI j ∧ nI j < nI (n - 1)) := fun z => nI_nlt (by omega) (by omega) z.2
      simp (disch := first | assumption | omega | decide | exact zin_d (by assumption) (by omega) (by omega) | (simp only [zb01]; done)) only [s_Row_tellsWhatHolds_0, s_Row_tellsWhatHolds_1, s_Row_tellsWhatHolds_3, s_Row_tellsWhatHolds_4, s_Row_tellsWhatHolds_7, s_Row_tellsWhatHolds_10, s_Row_tellsWhatHolds_11, s_Row_tellsWhatHolds_13, s_Row_tellsWhatHolds_16, s_Row_tellsWhatHolds_17, s_Row_tellsWhatHolds_18, s_Row_tellsWhatHolds_21, s_Row_tellsWhatHolds_24, s_Row_tellsWhatHolds_25, s_Row_tellsWhatHolds_26, s_Row_tellsWhatHolds_29, s_Row_tellsWhatHolds_30, s_Row_tellsWhatHolds_33, s_Row_tellsWhatHolds_34, s_Row_tellsWhatHolds_35, s_Row_tellsWhatHolds_38, s_Row_tellsWhatHolds_39, s_Row_tellsWhatHolds_40, s_Row_tellsWhatHolds_43, s_Row_tellsWhatHolds_46, s_Row_tellsWhatHolds_47, zlt, zle, zeq, zclamp, zinc, zdec, zdi, zdr, zdl, zdn, zpi, zpn, if_true, if_false, ite_not, Bool.false_eq_true, ne_eq, not_true_eq_false, not_false_eq_true, true_and, and_true, Nat.add_assoc, Nat.reduceAdd, zlL_0, zlR_0, zeL_0, zeR_0, zqL_0, zcl_0, zlL_1, zlR_1, zeL_1, zeR_1, zqL_1, zcl_1, zlL_16, zlR_16, zeL_16, zeR_16, zqL_16, zcl_16, hr2, Stones_hasJoint hW, zift, ziff]
theorem Row_firstFalseLean (hW : WS σ s n K F L) (hR : WR σ rn rf) : Ev zshX 62 0 [some (.ref 24), some (.ref s), none, none] [] σ Q = Q (some (.int (jdg n K F rn rf))) σ := by
  obtain ⟨hr1, hr2, hr3⟩ := hR
  have h7 := hW.1.1
  have hN := hW.2.1
  have hn := hW.2.2.1
  have a25 : zshX 25 = 100 + 16 := rfl
  simp (disch := first | assumption | omega | decide | exact zin_d (by assumption) (by omega) (by omega) | (simp only [zb01]; done)) only [s_Row_firstFalseLean_0, s_Row_firstFalseLean_1, s_Row_firstFalseLean_2, s_Row_firstFalseLean_3, s_Row_firstFalseLean_5, s_Row_firstFalseLean_6, s_Row_firstFalseLean_9, s_Row_firstFalseLean_12, s_Row_firstFalseLean_13, s_Row_firstFalseLean_15, s_Row_firstFalseLean_18, s_Row_firstFalseLean_19, s_Row_firstFalseLean_20, s_Row_firstFalseLean_21, s_Row_firstFalseLean_24, s_Row_firstFalseLean_25, s_Row_firstFalseLean_26, s_Row_firstFalseLean_27, s_Row_firstFalseLean_28, s_Row_firstFalseLean_31, s_Row_firstFalseLean_34, s_Row_firstFalseLean_35, s_Row_firstFalseLean_37, s_Row_firstFalseLean_38, s_Row_firstFalseLean_39, s_Row_firstFalseLean_42, s_Row_firstFalseLean_43, s_Row_firstFalseLean_44, s_Row_firstFalseLean_47, s_Row_firstFalseLean_48, s_Row_firstFalseLean_49, s_Row_firstFalseLean_52, s_Row_firstFalseLean_55, s_Row_firstFalseLean_57, zlt, zle, zeq, zclamp, zinc, zdec, zdi, zdr, zdl, zdn, zpi, zpn, if_true, if_false, ite_not, Bool.false_eq_true, ne_eq, not_true_eq_false, not_false_eq_true, true_and, and_true, Nat.add_assoc, Nat.reduceAdd]
  have step : ∀ i, i < rn → i < n ∧ lsum K F (i + 1) + 50 = rf i → Ev zshX 62 4 [some (.ref 24), some (.ref s), some (.int (lsum K F i)), some (.int (nI i))] [] σ Q = Ev zshX 62 4 [some (.ref 24), some (.ref s), some (.int (lsum K F (i + 1))), some (.int (nI (i + 1)))] [] σ Q := by
    intro i hi hp
    have hp1 := hp.1
    rw [s_Row_firstFalseLean_4]
    simp (disch := first | assumption | omega | decide | exact zin_d (by assumption) (by omega) (by omega) | (simp only [zb01]; done)) only [s_Row_firstFalseLean_0, s_Row_firstFalseLean_1, s_Row_firstFalseLean_2, s_Row_firstFalseLean_3, s_Row_firstFalseLean_5, s_Row_firstFalseLean_6, s_Row_firstFalseLean_9, s_Row_firstFalseLean_12, s_Row_firstFalseLean_13, s_Row_firstFalseLean_15, s_Row_firstFalseLean_18, s_Row_firstFalseLean_19, s_Row_firstFalseLean_20, s_Row_firstFalseLean_21, s_Row_firstFalseLean_24, s_Row_firstFalseLean_25, s_Row_firstFalseLean_26, s_Row_firstFalseLean_27, s_Row_firstFalseLean_28, s_Row_firstFalseLean_31, s_Row_firstFalseLean_34, s_Row_firstFalseLean_35, s_Row_firstFalseLean_37, s_Row_firstFalseLean_38, s_Row_firstFalseLean_39, s_Row_firstFalseLean_42, s_Row_firstFalseLean_43, s_Row_firstFalseLean_44, s_Row_firstFalseLean_47, s_Row_firstFalseLean_48, s_Row_firstFalseLean_49, s_Row_firstFalseLean_52, s_Row_firstFalseLean_55, s_Row_firstFalseLean_57, zlt, zle, zeq, zclamp, zinc, zdec, zdi, zdr, zdl, zdn, zpi, zpn, if_true, if_false, ite_not, Bool.false_eq_true, ne_eq, not_true_eq_false, not_false_eq_true, true_and, and_true, Nat.add_assoc, Nat.reduceAdd, zlL_0, zlR_0, zeL_0, zeR_0, zqL_0, zcl_0, zlL_1, zlR_1, zeL_1, zeR_1, zqL_1, zcl_1, zlL_16, zlR_16, zeL_16, zeR_16, zqL_16, zcl_16, hr2, hr3 i hi, Stones_leanOf_in hW, lsum_f, Stones_has_in h7 hn hN, hp.2, zift, ziff]
  rcases first_or (fun i => i < n ∧ lsum K F (i + 1) + 50 = rf i) rn with h | ⟨j, hj, hp, hall⟩
  · rw [jdg, zf_no _ _ (fun i _ hi => fun z => z (h i (by omega)))]
    refine loopE (N := rn) (fun i => Ev zshX 62 4 [some (.ref 24), some (.ref s), some (.int (lsum K F i)), some (.int (nI i))] [] σ Q) (fun i hi => step i hi (h i hi)) ?_ 0 (Nat.zero_le _)
    rw [s_Row_firstFalseLean_4]
    simp (disch := first | assumption | omega | decide | exact zin_d (by assumption) (by omega) (by omega) | (simp only [zb01]; done)) only [s_Row_firstFalseLean_0, s_Row_firstFalseLean_1, s_Row_firstFalseLean_2, s_Row_firstFalseLean_3, s_Row_firstFalseLean_5, s_Row_firstFalseLean_6, s_Row_firstFalseLean_9, s_Row_firstFalseLean_12, s_Row_firstFalseLean_13, s_Row_firstFalseLean_15, s_Row_firstFalseLean_18, s_Row_firstFalseLean_19, s_Row_firstFalseLean_20, s_Row_firstFalseLean_21, s_Row_firstFalseLean_24, s_Row_firstFalseLean_25, s_Row_firstFalseLean_26, s_Row_firstFalseLean_27, s_Row_firstFalseLean_28, s_Row_firstFalseLean_31, s_Row_firstFalseLean_34, s_Row_firstFalseLean_35, s_Row_firstFalseLean_37, s_Row_firstFalseLean_38, s_Row_firstFalseLean_39, s_Row_firstFalseLean_42, s_Row_firstFalseLean_43, s_Row_firstFalseLean_44, s_Row_firstFalseLean_47, s_Row_firstFalseLean_48, s_Row_firstFalseLean_49, s_Row_firstFalseLean_52, s_Row_firstFalseLean_55, s_Row_firstFalseLean_57, zlt, zle, zeq, zclamp, zinc, zdec, zdi, zdr, zdl, zdn, zpi, zpn, if_true, if_false, ite_not, Bool.false_eq_true, ne_eq, not_true_eq_false, not_false_eq_true, true_and, and_true, Nat.add_assoc, Nat.reduceAdd, zlL_0, zlR_0, zeL_0, zeR_0, zqL_0, zcl_0, zlL_1, zlR_1, zeL_1, zeR_1, zqL_1, zcl_1, hr2, zift]
  · rw [jdg, zf_at rn 0 j (Nat.zero_le _) (by omega) hp (fun i _ hi => fun z => z (hall i hi))]
    refine loopE (N := j) (fun i => Ev zshX 62 4 [some (.ref 24), some (.ref s), some (.int (lsum K F i)), some (.int (nI i))] [] σ Q) (fun i hi => step i (by omega) (hall i hi)) ?_ 0 (Nat.zero_le _)
    rw [s_Row_firstFalseLean_4]
    by_cases h1 : j < n
    · have h2 : ¬ lsum K F (j + 1) + 50 = rf j := fun z => hp ⟨h1, z⟩
      simp (disch := first | assumption | omega | decide | exact zin_d (by assumption) (by omega) (by omega) | (simp only [zb01]; done)) only [s_Row_firstFalseLean_0, s_Row_firstFalseLean_1, s_Row_firstFalseLean_2, s_Row_firstFalseLean_3, s_Row_firstFalseLean_5, s_Row_firstFalseLean_6, s_Row_firstFalseLean_9, s_Row_firstFalseLean_12, s_Row_firstFalseLean_13, s_Row_firstFalseLean_15, s_Row_firstFalseLean_18, s_Row_firstFalseLean_19, s_Row_firstFalseLean_20, s_Row_firstFalseLean_21, s_Row_firstFalseLean_24, s_Row_firstFalseLean_25, s_Row_firstFalseLean_26, s_Row_firstFalseLean_27, s_Row_firstFalseLean_28, s_Row_firstFalseLean_31, s_Row_firstFalseLean_34, s_Row_firstFalseLean_35, s_Row_firstFalseLean_37, s_Row_firstFalseLean_38, s_Row_firstFalseLean_39, s_Row_firstFalseLean_42, s_Row_firstFalseLean_43, s_Row_firstFalseLean_44, s_Row_firstFalseLean_47, s_Row_firstFalseLean_48, s_Row_firstFalseLean_49, s_Row_firstFalseLean_52, s_Row_firstFalseLean_55, s_Row_firstFalseLean_57, zlt, zle, zeq, zclamp, zinc, zdec, zdi, zdr, zdl, zdn, zpi, zpn, if_true, if_false, ite_not, Bool.false_eq_true, ne_eq, not_true_eq_false, not_false_eq_true, true_and, and_true, Nat.add_assoc, Nat.reduceAdd, zlL_0, zlR_0, zeL_0, zeR_0, zqL_0, zcl_0, zlL_1, zlR_1, zeL_1, zeR_1, zqL_1, zcl_1, zlL_16, zlR_16, zeL_16, zeR_16, zqL_16, zcl_16, hr2, hr3 j hj, Stones_leanOf_in hW, lsum_f, Stones_has_in h7 hn hN, h2, zift, ziff]
    · simp (disch := first | assumption | omega | decide | exact zin_d (by assumption) (by omega) (by omega) | (simp only [zb01]; done)) only [s_Row_firstFalseLean_0, s_Row_firstFalseLean_1, s_Row_firstFalseLean_2, s_Row_firstFalseLean_3, s_Row_firstFalseLean_5, s_Row_firstFalseLean_6, s_Row_firstFalseLean_9, s_Row_firstFalseLean_12, s_Row_firstFalseLean_13, s_Row_firstFalseLean_15, s_Row_firstFalseLean_18, s_Row_firstFalseLean_19, s_Row_firstFalseLean_20, s_Row_firstFalseLean_21, s_Row_firstFalseLean_24, s_Row_firstFalseLean_25, s_Row_firstFalseLean_26, s_Row_firstFalseLean_27, s_Row_firstFalseLean_28, s_Row_firstFalseLean_31, s_Row_firstFalseLean_34, s_Row_firstFalseLean_35, s_Row_firstFalseLean_37, s_Row_firstFalseLean_38, s_Row_firstFalseLean_39, s_Row_firstFalseLean_42, s_Row_firstFalseLean_43, s_Row_firstFalseLean_44, s_Row_firstFalseLean_47, s_Row_firstFalseLean_48, s_Row_firstFalseLean_49, s_Row_firstFalseLean_52, s_Row_firstFalseLean_55, s_Row_firstFalseLean_57, zlt, zle, zeq, zclamp, zinc, zdec, zdi, zdr, zdl, zdn, zpi, zpn, if_true, if_false, ite_not, Bool.false_eq_true, ne_eq, not_true_eq_false, not_false_eq_true, true_and, and_true, Nat.add_assoc, Nat.reduceAdd, zlL_0, zlR_0, zeL_0, zeR_0, zqL_0, zcl_0, zlL_1, zlR_1, zeL_1, zeR_1, zqL_1, zcl_1, zlL_16, zlR_16, zeL_16, zeR_16, zqL_16, zcl_16, hr2, Stones_leanOf hW, Stones_has_out h7 hn hN h1, zift, ziff]
theorem Row_number : Ev zshX 57 0 [some (.ref 24)] [] σ Q = Q (some (.int (σ 24 1))) σ := by
  simp (disch := first | assumption | omega | decide | exact zin_d (by assumption) (by omega) (by omega) | (simp only [zb01]; done)) only [s_Row_number_0, s_Row_number_1, s_Row_number_4]
theorem Row_isFull (hR : WR σ rn rf) : Ev zshX 58 0 [some (.ref 24)] [] σ Q = Q (some (.int (if rn = 16 then 1 else 0))) σ := by
  obtain ⟨hr1, hr2, hr3⟩ := hR
  by_cases h : rn = 16
  · simp (disch := first | assumption | omega | decide | exact zin_d (by assumption) (by omega) (by omega) | (simp only [zb01]; done)) only [s_Row_isFull_0, s_Row_isFull_1, s_Row_isFull_4, s_Row_isFull_6, s_Row_isFull_9, s_Row_isFull_10, s_Row_isFull_13, s_Row_isFull_14, zlt, zle, zeq, zclamp, zinc, zdec, zdi, zdr, zdl, zdn, zpi, zpn, if_true, if_false, ite_not, Bool.false_eq_true, ne_eq, not_true_eq_false, not_false_eq_true, true_and, and_true, Nat.add_assoc, Nat.reduceAdd, zlL_16, zlR_16, zeL_16, zeR_16, zqL_16, zcl_16, hr2, zift, ziff]
  · simp (disch := first | assumption | omega | decide | exact zin_d (by assumption) (by omega) (by omega) | (simp only [zb01]; done)) only [s_Row_isFull_0, s_Row_isFull_1, s_Row_isFull_4, s_Row_isFull_6, s_Row_isFull_9, s_Row_isFull_10, s_Row_isFull_13, s_Row_isFull_14, zlt, zle, zeq, zclamp, zinc, zdec, zdi, zdr, zdl, zdn, zpi, zpn, if_true, if_false, ite_not, Bool.false_eq_true, ne_eq, not_true_eq_false, not_false_eq_true, true_and, and_true, Nat.add_assoc, Nat.reduceAdd, zlL_16, zlR_16, zeL_16, zeR_16, zqL_16, zcl_16, hr2, zift, ziff]
theorem Row_add (hR : WR σ rn rf) (h : rn < 16) {v : Int32} (hQ : ∀ σ', WR σ' (rn + 1) (upd rf rn v) → (∀ a, a ≠ 24 → a ≠ 25 → σ' a = σ a) → Q none σ') : Ev zshX 59 0 [some (.ref 24), some (.int v)] [] σ Q := by
  obtain ⟨hr1, hr2, hr3⟩ := hR
  have a25 : zshX 25 = 100 + 16 := rfl
  simp (disch := first | assumption | omega | decide | exact zin_d (by assumption) (by omega) (by omega) | (simp only [zb01]; done)) only [s_Row_add_0, s_Row_add_1, s_Row_add_4, s_Row_add_7, s_Row_add_8, s_Row_add_11, s_Row_add_13, s_Row_add_16, s_Row_add_17, s_Row_add_20, s_Row_add_21, s_Row_add_24, s_Row_add_25, s_Row_add_26, s_Row_add_27, s_Row_add_28, s_Row_add_31, s_Row_add_32, s_Row_add_33, s_Row_add_36, zlt, zle, zeq, zclamp, zinc, zdec, zdi, zdr, zdl, zdn, zpi, zpn, if_true, if_false, ite_not, Bool.false_eq_true, ne_eq, not_true_eq_false, not_false_eq_true, true_and, and_true, Nat.add_assoc, Nat.reduceAdd, zup_ne, zup_self, pk_us, pk_un, zlL_0, zlR_0, zeL_0, zeR_0, zqL_0, zcl_0, zlL_16, zlR_16, zeL_16, zeR_16, zqL_16, zcl_16, hr2, zift, ziff]
  refine hQ _ ⟨by omega, ?_, fun i hi => ?_⟩ (fun a h1 h2 => ?_)
  · simp (disch := first | assumption | omega | decide | exact zin_d (by assumption) (by omega) (by omega) | (simp only [zb01]; done)) only [zup_ne, zup_self, pk_us, pk_un]
  · by_cases e : i = rn
    · subst e
      simp (disch := first | assumption | omega | decide | exact zin_d (by assumption) (by omega) (by omega) | (simp only [zb01]; done)) only [zup_ne, zup_self, pk_us, pk_un]
    · simp (disch := first | assumption | omega | decide | exact zin_d (by assumption) (by omega) (by omega) | (simp only [zb01]; done)) only [zup_ne, zup_self, pk_us, pk_un]
      exact hr3 i (by omega)
  · simp (disch := first | assumption | omega | decide | exact zin_d (by assumption) (by omega) (by omega) | (simp only [zb01]; done)) only [zup_ne, zup_self, pk_us, pk_un]
theorem Row_forget (hQ : ∀ σ', WR σ' 0 rf → (∀ a, a ≠ 24 → σ' a = σ a) → Q none σ') : Ev zshX 60 0 [some (.ref 24)] [] σ Q := by
  simp (disch := first | assumption | omega | decide | exact zin_d (by assumption) (by omega) (by omega) | (simp only [zb01]; done)) only [s_Row_forget_0, s_Row_forget_1, s_Row_forget_2, s_Row_forget_5, zlt, zle, zeq, zclamp, zinc, zdec, zdi, zdr, zdl, zdn, zpi, zpn, if_true, if_false, ite_not, Bool.false_eq_true, ne_eq, not_true_eq_false, not_false_eq_true, true_and, and_true, Nat.add_assoc, Nat.reduceAdd]
  refine hQ _ ⟨by omega, ?_, fun i hi => by omega⟩ (fun a h1 => ?_)
  · simp (disch := first | assumption | omega | decide | exact zin_d (by assumption) (by omega) (by omega) | (simp only [zb01]; done)) only [zup_ne, zup_self, pk_us, pk_un]
    rfl
  · simp (disch := first | assumption | omega | decide | exact zin_d (by assumption) (by omega) (by omega) | (simp only [zb01]; done)) only [zup_ne, zup_self, pk_us, pk_un]
end
