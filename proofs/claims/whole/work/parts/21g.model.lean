section
variable {σ : zG} {Q : Option Value → zG → Prop} {a : At} {x y z m w n v o k f : Int32}
theorem M_hands (hR : WX σ a) (hQ : ∀ σ', WX σ' (c_hands a m v).2 → Q (some (.int (c_hands a m v).1)) σ') : Ev zshM 212 0 [some (.ref 0), some (.int m), some (.int v), none, none] [] σ Q := by
  have zz : zshM 6 = 100 + 2 := rfl
  rw [c_hands] at hQ
  by_cases h1 : rft m v = 0
  · rw [if_pos h1] at hQ
    obtain ⟨hm, hv⟩ := rft_in h1
    have ho : outs v 0 9 = 0 := by rw [rft, if_pos hm] at h1; exact h1
    obtain ⟨i, hi, rfl⟩ := mas_num hm
    have hi2 : i < 2 := by omega
    have e := (WMd_m hR.1.1 hi).2.1
    simp (disch := first | assumption | omega | decide | exact zin_d (by assumption) (by omega) (by omega) | (simp only [zb01]; done)) only [s_M_hands_0, s_M_hands_1, s_M_hands_4, s_M_hands_7, s_M_hands_8, s_M_hands_11, s_M_hands_12, s_M_hands_13, s_M_hands_15, s_M_hands_18, s_M_hands_19, s_M_hands_20, s_M_hands_23, s_M_hands_24, s_M_hands_25, s_M_hands_28, s_M_hands_29, s_M_hands_30, s_M_hands_33, s_M_hands_34, s_M_hands_35, s_M_hands_37, s_M_hands_38, s_M_hands_41, s_M_hands_42, s_M_hands_43, s_M_hands_44, s_M_hands_46, zlt, zle, zeq, zclamp, zinc, zdec, zdi, zdr, zdl, zdn, zpi, zpn, if_true, if_false, ite_not, Bool.false_eq_true, ne_eq, not_true_eq_false, not_false_eq_true, true_and, and_true, Nat.add_assoc, Nat.reduceAdd, M_isMason, M_bound, ho, e, zift, ziff]
    exact hQ _ (hR.setB (WMd_set hR.1.1 hi (k := 1) (by omega) v) (withM_ok hR.1.2.1 (by rw [if_neg (by omega)]; exact hv)) (by rw [withM_day]; exact hR.1.2.2) (frM.z (by omega)).T)
  · rw [if_neg h1] at hQ
    by_cases hm : m = 0 ∨ m = 1
    · have er : rft m v = outs v 0 9 := by rw [rft, if_pos hm]
      rw [er] at h1 hQ
      simp (disch := first | assumption | omega | decide | exact zin_d (by assumption) (by omega) (by omega) | (simp only [zb01]; done)) only [s_M_hands_0, s_M_hands_1, s_M_hands_4, s_M_hands_7, s_M_hands_8, s_M_hands_11, s_M_hands_12, s_M_hands_13, s_M_hands_15, s_M_hands_18, s_M_hands_19, s_M_hands_20, s_M_hands_23, s_M_hands_24, s_M_hands_25, s_M_hands_28, s_M_hands_29, s_M_hands_30, s_M_hands_33, s_M_hands_34, s_M_hands_35, s_M_hands_37, s_M_hands_38, s_M_hands_41, s_M_hands_42, s_M_hands_43, s_M_hands_44, s_M_hands_46, zlt, zle, zeq, zclamp, zinc, zdec, zdi, zdr, zdl, zdn, zpi, zpn, if_true, if_false, ite_not, Bool.false_eq_true, ne_eq, not_true_eq_false, not_false_eq_true, true_and, and_true, Nat.add_assoc, Nat.reduceAdd, M_isMason, M_bound, zift, ziff]
      refine M_no hR (outs_ref h1) (fun σ' h => ?_)
      simp (disch := first | assumption | omega | decide | exact zin_d (by assumption) (by omega) (by omega) | (simp only [zb01]; done)) only [s_M_hands_0, s_M_hands_1, s_M_hands_4, s_M_hands_7, s_M_hands_8, s_M_hands_11, s_M_hands_12, s_M_hands_13, s_M_hands_15, s_M_hands_18, s_M_hands_19, s_M_hands_20, s_M_hands_23, s_M_hands_24, s_M_hands_25, s_M_hands_28, s_M_hands_29, s_M_hands_30, s_M_hands_33, s_M_hands_34, s_M_hands_35, s_M_hands_37, s_M_hands_38, s_M_hands_41, s_M_hands_42, s_M_hands_43, s_M_hands_44, s_M_hands_46, zlt, zle, zeq, zclamp, zinc, zdec, zdi, zdr, zdl, zdn, zpi, zpn, if_true, if_false, ite_not, Bool.false_eq_true, ne_eq, not_true_eq_false, not_false_eq_true, true_and, and_true, Nat.add_assoc, Nat.reduceAdd]
      exact hQ σ' h
    · have er : rft m v = -1 := by rw [rft, if_neg hm]
      rw [er] at hQ
      simp (disch := first | assumption | omega | decide | exact zin_d (by assumption) (by omega) (by omega) | (simp only [zb01]; done)) only [s_M_hands_0, s_M_hands_1, s_M_hands_4, s_M_hands_7, s_M_hands_8, s_M_hands_11, s_M_hands_12, s_M_hands_13, s_M_hands_15, s_M_hands_18, s_M_hands_19, s_M_hands_20, s_M_hands_23, s_M_hands_24, s_M_hands_25, s_M_hands_28, s_M_hands_29, s_M_hands_30, s_M_hands_33, s_M_hands_34, s_M_hands_35, s_M_hands_37, s_M_hands_38, s_M_hands_41, s_M_hands_42, s_M_hands_43, s_M_hands_44, s_M_hands_46, zlt, zle, zeq, zclamp, zinc, zdec, zdi, zdr, zdl, zdn, zpi, zpn, if_true, if_false, ite_not, Bool.false_eq_true, ne_eq, not_true_eq_false, not_false_eq_true, true_and, and_true, Nat.add_assoc, Nat.reduceAdd, M_isMason, zift, ziff]
      refine M_no hR ref1 (fun σ' h => ?_)
      simp (disch := first | assumption | omega | decide | exact zin_d (by assumption) (by omega) (by omega) | (simp only [zb01]; done)) only [s_M_hands_0, s_M_hands_1, s_M_hands_4, s_M_hands_7, s_M_hands_8, s_M_hands_11, s_M_hands_12, s_M_hands_13, s_M_hands_15, s_M_hands_18, s_M_hands_19, s_M_hands_20, s_M_hands_23, s_M_hands_24, s_M_hands_25, s_M_hands_28, s_M_hands_29, s_M_hands_30, s_M_hands_33, s_M_hands_34, s_M_hands_35, s_M_hands_37, s_M_hands_38, s_M_hands_41, s_M_hands_42, s_M_hands_43, s_M_hands_44, s_M_hands_46, zlt, zle, zeq, zclamp, zinc, zdec, zdi, zdr, zdl, zdn, zpi, zpn, if_true, if_false, ite_not, Bool.false_eq_true, ne_eq, not_true_eq_false, not_false_eq_true, true_and, and_true, Nat.add_assoc, Nat.reduceAdd]
      exact hQ σ' h
theorem M_spites (hR : WX σ a) (hQ : ∀ σ', WX σ' (c_spites a m v).2 → Q (some (.int (c_spites a m v).1)) σ') : Ev zshM 213 0 [some (.ref 0), some (.int m), some (.int v), none, none] [] σ Q := by
  have zz : zshM 7 = 100 + 2 := rfl
  rw [c_spites] at hQ
  by_cases h1 : rft m v = 0
  · rw [if_pos h1] at hQ
    obtain ⟨hm, hv⟩ := rft_in h1
    have ho : outs v 0 9 = 0 := by rw [rft, if_pos hm] at h1; exact h1
    obtain ⟨i, hi, rfl⟩ := mas_num hm
    have hi2 : i < 2 := by omega
    have e := (WMd_m hR.1.1 hi).2.2
    simp (disch := first | assumption | omega | decide | exact zin_d (by assumption) (by omega) (by omega) | (simp only [zb01]; done)) only [s_M_spites_0, s_M_spites_1, s_M_spites_4, s_M_spites_7, s_M_spites_8, s_M_spites_11, s_M_spites_12, s_M_spites_13, s_M_spites_15, s_M_spites_18, s_M_spites_19, s_M_spites_20, s_M_spites_23, s_M_spites_24, s_M_spites_25, s_M_spites_28, s_M_spites_29, s_M_spites_30, s_M_spites_33, s_M_spites_34, s_M_spites_35, s_M_spites_37, s_M_spites_38, s_M_spites_41, s_M_spites_42, s_M_spites_43, s_M_spites_44, s_M_spites_46, zlt, zle, zeq, zclamp, zinc, zdec, zdi, zdr, zdl, zdn, zpi, zpn, if_true, if_false, ite_not, Bool.false_eq_true, ne_eq, not_true_eq_false, not_false_eq_true, true_and, and_true, Nat.add_assoc, Nat.reduceAdd, M_isMason, M_bound, ho, e, zift, ziff]
    exact hQ _ (hR.setB (WMd_set hR.1.1 hi (k := 2) (by omega) v) (withM_ok hR.1.2.1 (by rw [if_neg (by omega)]; exact hv)) (by rw [withM_day]; exact hR.1.2.2) (frM.z (by omega)).T)
  · rw [if_neg h1] at hQ
    by_cases hm : m = 0 ∨ m = 1
    · have er : rft m v = outs v 0 9 := by rw [rft, if_pos hm]
      rw [er] at h1 hQ
      simp (disch := first | assumption | omega | decide | exact zin_d (by assumption) (by omega) (by omega) | (simp only [zb01]; done)) only [s_M_spites_0, s_M_spites_1, s_M_spites_4, s_M_spites_7, s_M_spites_8, s_M_spites_11, s_M_spites_12, s_M_spites_13, s_M_spites_15, s_M_spites_18, s_M_spites_19, s_M_spites_20, s_M_spites_23, s_M_spites_24, s_M_spites_25, s_M_spites_28, s_M_spites_29, s_M_spites_30, s_M_spites_33, s_M_spites_34, s_M_spites_35, s_M_spites_37, s_M_spites_38, s_M_spites_41, s_M_spites_42, s_M_spites_43, s_M_spites_44, s_M_spites_46, zlt, zle, zeq, zclamp, zinc, zdec, zdi, zdr, zdl, zdn, zpi, zpn, if_true, if_false, ite_not, Bool.false_eq_true, ne_eq, not_true_eq_false, not_false_eq_true, true_and, and_true, Nat.add_assoc, Nat.reduceAdd, M_isMason, M_bound, zift, ziff]
      refine M_no hR (outs_ref h1) (fun σ' h => ?_)
      simp (disch := first | assumption | omega | decide | exact zin_d (by assumption) (by omega) (by omega) | (simp only [zb01]; done)) only [s_M_spites_0, s_M_spites_1, s_M_spites_4, s_M_spites_7, s_M_spites_8, s_M_spites_11, s_M_spites_12, s_M_spites_13, s_M_spites_15, s_M_spites_18, s_M_spites_19, s_M_spites_20, s_M_spites_23, s_M_spites_24, s_M_spites_25, s_M_spites_28, s_M_spites_29, s_M_spites_30, s_M_spites_33, s_M_spites_34, s_M_spites_35, s_M_spites_37, s_M_spites_38, s_M_spites_41, s_M_spites_42, s_M_spites_43, s_M_spites_44, s_M_spites_46, zlt, zle, zeq, zclamp, zinc, zdec, zdi, zdr, zdl, zdn, zpi, zpn, if_true, if_false, ite_not, Bool.false_eq_true, ne_eq, not_true_eq_false, not_false_eq_true, true_and, and_true, Nat.add_assoc, Nat.reduceAdd]
      exact hQ σ' h
    · have er : rft m v = -1 := by rw [rft, if_neg hm]
      rw [er] at hQ
      simp (disch := first | assumption | omega | decide | exact zin_d (by assumption) (by omega) (by omega) | (simp only [zb01]; done)) only [s_M_spites_0, s_M_spites_1, s_M_spites_4, s_M_spites_7, s_M_spites_8, s_M_spites_11, s_M_spites_12, s_M_spites_13, s_M_spites_15, s_M_spites_18, s_M_spites_19, s_M_spites_20, s_M_spites_23, s_M_spites_24, s_M_spites_25, s_M_spites_28, s_M_spites_29, s_M_spites_30, s_M_spites_33, s_M_spites_34, s_M_spites_35, s_M_spites_37, s_M_spites_38, s_M_spites_41, s_M_spites_42, s_M_spites_43, s_M_spites_44, s_M_spites_46, zlt, zle, zeq, zclamp, zinc, zdec, zdi, zdr, zdl, zdn, zpi, zpn, if_true, if_false, ite_not, Bool.false_eq_true, ne_eq, not_true_eq_false, not_false_eq_true, true_and, and_true, Nat.add_assoc, Nat.reduceAdd, M_isMason, zift, ziff]
      refine M_no hR ref1 (fun σ' h => ?_)
      simp (disch := first | assumption | omega | decide | exact zin_d (by assumption) (by omega) (by omega) | (simp only [zb01]; done)) only [s_M_spites_0, s_M_spites_1, s_M_spites_4, s_M_spites_7, s_M_spites_8, s_M_spites_11, s_M_spites_12, s_M_spites_13, s_M_spites_15, s_M_spites_18, s_M_spites_19, s_M_spites_20, s_M_spites_23, s_M_spites_24, s_M_spites_25, s_M_spites_28, s_M_spites_29, s_M_spites_30, s_M_spites_33, s_M_spites_34, s_M_spites_35, s_M_spites_37, s_M_spites_38, s_M_spites_41, s_M_spites_42, s_M_spites_43, s_M_spites_44, s_M_spites_46, zlt, zle, zeq, zclamp, zinc, zdec, zdi, zdr, zdl, zdn, zpi, zpn, if_true, if_false, ite_not, Bool.false_eq_true, ne_eq, not_true_eq_false, not_false_eq_true, true_and, and_true, Nat.add_assoc, Nat.reduceAdd]
      exact hQ σ' h
end
