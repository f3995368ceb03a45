theorem WX_setT {σ σ' : zG} {a : At} {rn : Nat} {rf : SF} (h : WX σ a) (hT : rn ≤ 16 ∧ σ' 0 25 = nI rn ∧ ∀ i, i < rn → σ' 14 i = rf i) (f : ∀ c, c ≠ 0 → c ≠ 14 → σ' c = σ c) (f0 : ∀ k, k ≠ 25 → σ' 0 k = σ 0 k) : WX σ' (setT a rn rf) := by
  obtain ⟨⟨g1, g2, g3⟩, g4, ⟨⟨h5, h5b, h5c⟩, h6⟩, -, g8⟩ := h
  exact ⟨⟨g1.keep (fun c _ _ => f c (by omega) (by omega)) (fun k _ _ => f0 k (by omega)), g2, g3⟩, g4.keep (f0 18 (by omega)) (fun j _ => by rw [f 12 (by omega) (by omega)]), ⟨⟨h5, by rw [f0 14 (by omega)]; exact h5b, fun i hi => by rw [f 8 (by omega) (by omega)]; exact h5c i hi⟩, h6⟩, hT, fun i hi => by rw [f 1 (by omega) (by omega)]; exact g8 i hi⟩
section
variable {σ : zG} {Q : Option Value → zG → Prop} {a : At} {x y z m w n v o k f : Int32}
theorem M_clear (hR : WX σ a) (hQ : ∀ σ', WX σ' (c_clear a).2 → Q (some (.int (c_clear a).1)) σ') : Ev zshM 254 0 [some (.ref 0), none] [] σ Q := by
  have hT := hR.2.2.2.1
  simp (disch := first | assumption | omega | decide | exact zin_d (by assumption) (by omega) (by omega) | (simp only [zb01]; done)) only [s_M_clear_0, s_M_clear_1, s_M_clear_4, s_M_clear_5, s_M_clear_6, s_M_clear_7, s_M_clear_10, s_M_clear_11, zlt, zle, zeq, zclamp, zinc, zdec, zdi, zdr, zdl, zdn, zpi, zpn, if_true, if_false, ite_not, Bool.false_eq_true, ne_eq, not_true_eq_false, not_false_eq_true, true_and, and_true, Nat.add_assoc, Nat.reduceAdd, hT.2.1]
  exact hQ _ (WX_setT hR ⟨Nat.zero_le _, by rw [zup_self, pk_us]; rfl, fun i hi => absurd hi (Nat.not_lt_zero i)⟩ (fun c q1 _ => zup_ne q1) (fun k q => by rw [zup_self, pk_un q]))
theorem M_days (hR : WX σ a) (hQ : ∀ σ', WX σ' (c_days a n).2 → Q (some (.int (c_days a n).1)) σ') : Ev zshM 214 0 [some (.ref 0), some (.int n), none] [] σ Q := by
  rw [c_days] at hQ
  obtain ⟨d, hd9, ed⟩ := hR.1.2.2
  have hd4 : σ 0 9 = nI d := by rw [← ed]; exact hR.1.1.2.2.2.2
  rw [ed, zclamp (by omega)] at hQ
  by_cases h1 : outs n 1 60 = 0
  · rw [if_pos h1] at hQ
    obtain ⟨i, hi, rfl⟩ := in_le (n := 60) (by omega) (show 0 ≤ n ∧ n ≤ nI 60 from ⟨Int32.le_trans (by decide : (0 : Int32) ≤ 1) (outs_in h1).1, (outs_in h1).2⟩)
    rw [zclamp (by omega)] at hQ
    have ea : nI d + nI i = nI (d + i) := nI_add d i
    by_cases h2 : d + i ≤ 999
    · rw [if_pos h2] at hQ
      simp (disch := first | assumption | omega | decide | exact zin_d (by assumption) (by omega) (by omega) | (simp only [zb01]; done)) only [s_M_days_0, s_M_days_1, s_M_days_2, s_M_days_4, s_M_days_7, s_M_days_8, s_M_days_9, s_M_days_12, s_M_days_13, s_M_days_16, s_M_days_17, s_M_days_18, s_M_days_21, s_M_days_24, s_M_days_26, s_M_days_27, s_M_days_28, s_M_days_31, s_M_days_32, s_M_days_33, s_M_days_36, s_M_days_37, s_M_days_38, s_M_days_39, s_M_days_42, s_M_days_43, s_M_days_46, zlt, zle, zeq, zclamp, zinc, zdec, zdi, zdr, zdl, zdn, zpi, zpn, if_true, if_false, ite_not, Bool.false_eq_true, ne_eq, not_true_eq_false, not_false_eq_true, true_and, and_true, Nat.add_assoc, Nat.reduceAdd, zlL_999, zlR_999, zeL_999, zeR_999, zqL_999, zcl_999, M_bound, h1, hd4, ea, zift, ziff]
      refine M_goes hR.1.1 hR.1.2.1 (by omega) (fun σ1 g1 f1 => ?_)
      simp (disch := first | assumption | omega | decide | exact zin_d (by assumption) (by omega) (by omega) | (simp only [zb01]; done)) only [s_M_days_0, s_M_days_1, s_M_days_2, s_M_days_4, s_M_days_7, s_M_days_8, s_M_days_9, s_M_days_12, s_M_days_13, s_M_days_16, s_M_days_17, s_M_days_18, s_M_days_21, s_M_days_24, s_M_days_26, s_M_days_27, s_M_days_28, s_M_days_31, s_M_days_32, s_M_days_33, s_M_days_36, s_M_days_37, s_M_days_38, s_M_days_39, s_M_days_42, s_M_days_43, s_M_days_46, zlt, zle, zeq, zclamp, zinc, zdec, zdi, zdr, zdl, zdn, zpi, zpn, if_true, if_false, ite_not, Bool.false_eq_true, ne_eq, not_true_eq_false, not_false_eq_true, true_and, and_true, Nat.add_assoc, Nat.reduceAdd, g1.1.2.1]
      exact hQ σ1 (hR.setB g1 (daysS_ok hR.1.2.1 i) (daysS_dok ed h2) f1.T)
    · rw [if_neg h2] at hQ
      simp (disch := first | assumption | omega | decide | exact zin_d (by assumption) (by omega) (by omega) | (simp only [zb01]; done)) only [s_M_days_0, s_M_days_1, s_M_days_2, s_M_days_4, s_M_days_7, s_M_days_8, s_M_days_9, s_M_days_12, s_M_days_13, s_M_days_16, s_M_days_17, s_M_days_18, s_M_days_21, s_M_days_24, s_M_days_26, s_M_days_27, s_M_days_28, s_M_days_31, s_M_days_32, s_M_days_33, s_M_days_36, s_M_days_37, s_M_days_38, s_M_days_39, s_M_days_42, s_M_days_43, s_M_days_46, zlt, zle, zeq, zclamp, zinc, zdec, zdi, zdr, zdl, zdn, zpi, zpn, if_true, if_false, ite_not, Bool.false_eq_true, ne_eq, not_true_eq_false, not_false_eq_true, true_and, and_true, Nat.add_assoc, Nat.reduceAdd, zlL_999, zlR_999, zeL_999, zeR_999, zqL_999, zcl_999, M_bound, h1, hd4, ea, zift, ziff]
      refine M_no hR ref6 (fun σ' h => ?_)
      simp (disch := first | assumption | omega | decide | exact zin_d (by assumption) (by omega) (by omega) | (simp only [zb01]; done)) only [s_M_days_0, s_M_days_1, s_M_days_2, s_M_days_4, s_M_days_7, s_M_days_8, s_M_days_9, s_M_days_12, s_M_days_13, s_M_days_16, s_M_days_17, s_M_days_18, s_M_days_21, s_M_days_24, s_M_days_26, s_M_days_27, s_M_days_28, s_M_days_31, s_M_days_32, s_M_days_33, s_M_days_36, s_M_days_37, s_M_days_38, s_M_days_39, s_M_days_42, s_M_days_43, s_M_days_46, zlt, zle, zeq, zclamp, zinc, zdec, zdi, zdr, zdl, zdn, zpi, zpn, if_true, if_false, ite_not, Bool.false_eq_true, ne_eq, not_true_eq_false, not_false_eq_true, true_and, and_true, Nat.add_assoc, Nat.reduceAdd]
      exact hQ σ' h
  · rw [if_neg h1] at hQ
    simp (disch := first | assumption | omega | decide | exact zin_d (by assumption) (by omega) (by omega) | (simp only [zb01]; done)) only [s_M_days_0, s_M_days_1, s_M_days_2, s_M_days_4, s_M_days_7, s_M_days_8, s_M_days_9, s_M_days_12, s_M_days_13, s_M_days_16, s_M_days_17, s_M_days_18, s_M_days_21, s_M_days_24, s_M_days_26, s_M_days_27, s_M_days_28, s_M_days_31, s_M_days_32, s_M_days_33, s_M_days_36, s_M_days_37, s_M_days_38, s_M_days_39, s_M_days_42, s_M_days_43, s_M_days_46, zlt, zle, zeq, zclamp, zinc, zdec, zdi, zdr, zdl, zdn, zpi, zpn, if_true, if_false, ite_not, Bool.false_eq_true, ne_eq, not_true_eq_false, not_false_eq_true, true_and, and_true, Nat.add_assoc, Nat.reduceAdd, M_bound, zift, ziff]
    refine M_no hR (outs_ref h1) (fun σ' h => ?_)
    simp (disch := first | assumption | omega | decide | exact zin_d (by assumption) (by omega) (by omega) | (simp only [zb01]; done)) only [s_M_days_0, s_M_days_1, s_M_days_2, s_M_days_4, s_M_days_7, s_M_days_8, s_M_days_9, s_M_days_12, s_M_days_13, s_M_days_16, s_M_days_17, s_M_days_18, s_M_days_21, s_M_days_24, s_M_days_26, s_M_days_27, s_M_days_28, s_M_days_31, s_M_days_32, s_M_days_33, s_M_days_36, s_M_days_37, s_M_days_38, s_M_days_39, s_M_days_42, s_M_days_43, s_M_days_46, zlt, zle, zeq, zclamp, zinc, zdec, zdi, zdr, zdl, zdn, zpi, zpn, if_true, if_false, ite_not, Bool.false_eq_true, ne_eq, not_true_eq_false, not_false_eq_true, true_and, and_true, Nat.add_assoc, Nat.reduceAdd]
    exact hQ σ' h
end
