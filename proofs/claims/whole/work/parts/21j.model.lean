/-- how many stones of the first k were laid by m -/
def cntL (L : SF) (m : Int32) : Nat → Int32
  | 0 => 0
  | k + 1 => cntL L m k + (if L k = m then 1 else 0)
theorem bitc_st : ∀ k, k < 12 → ∀ b, b < 2 ^ k → bitc (nI b ||| 1 <<< (nI k &&& 31)) = bitc (nI b) + 1 ∧ (nI b ||| 1 <<< (nI k &&& 31)) = nI (b + 2 ^ k) := by decide +kernel
theorem laid_cnt {L : SF} {m : Int32} : ∀ k, k ≤ 12 → ∃ b, b < 2 ^ k ∧ laidB L m k = nI b ∧ bitc (nI b) = cntL L m k := by
  intro k
  induction k with
  | zero => intro _; exact ⟨0, by decide, rfl, rfl⟩
  | succ k ih =>
    intro hk
    obtain ⟨b, hb, e1, e2⟩ := ih (by omega)
    rw [laidB, cntL, e1]
    by_cases h : L k = m
    · rw [if_pos h, if_pos h]
      obtain ⟨g1, g2⟩ := bitc_st k (by omega) b hb
      exact ⟨b + 2 ^ k, by rw [Nat.pow_succ]; omega, g2, by rw [← g2, g1, e2]⟩
    · rw [if_neg h, if_neg h, zor0, zadd0]
      exact ⟨b, by rw [Nat.pow_succ]; omega, rfl, e2⟩
theorem laid_bitc {L : SF} {m : Int32} {k : Nat} (hk : k ≤ 12) : bitc (laidB L m k) = cntL L m k := by
  obtain ⟨b, -, e1, e2⟩ := laid_cnt (L := L) (m := m) k hk
  rw [e1, e2]
section
variable {σ : zG} {Q : Option Value → zG → Prop} {a : At} {x y z m w v o k f : Int32} {n : Nat} {K F L : SF}
theorem M_laidBy (hW : WK σ n K F L) (h12 : n ≤ 12) : Ev zshM 204 0 [some (.ref 0), some (.int m), none, none] [] σ Q = Q (some (.int (bitc (laidB L m n)))) σ := by
  obtain ⟨hN, hn, hA⟩ := hW
  have z4 : zshM 4 = 100 + 13 := rfl
  rw [laid_bitc h12]
  simp (disch := first | assumption | omega | decide | exact zin_d (by assumption) (by omega) (by omega) | (simp only [zb01]; done)) only [s_M_laidBy_0, s_M_laidBy_1, s_M_laidBy_2, s_M_laidBy_3, s_M_laidBy_5, s_M_laidBy_6, s_M_laidBy_9, s_M_laidBy_12, s_M_laidBy_13, s_M_laidBy_14, s_M_laidBy_17, s_M_laidBy_18, s_M_laidBy_19, s_M_laidBy_20, s_M_laidBy_23, s_M_laidBy_24, s_M_laidBy_27, s_M_laidBy_28, s_M_laidBy_29, s_M_laidBy_30, s_M_laidBy_33, s_M_laidBy_36, s_M_laidBy_37, zlt, zle, zeq, zclamp, zinc, zdec, zdi, zdr, zdl, zdn, zpi, zpn, if_true, if_false, ite_not, Bool.false_eq_true, ne_eq, not_true_eq_false, not_false_eq_true, true_and, and_true, Nat.add_assoc, Nat.reduceAdd]
  refine loopE (N := n) (fun j => Ev zshM 204 4 [some (.ref 0), some (.int m), some (.int (cntL L m j)), some (.int (nI j))] [] σ Q) (fun j hj => ?_) ?_ 0 (by omega)
  · have hj13 : j < 13 := by omega
    rw [s_M_laidBy_4, cntL]
    by_cases h : L j = m
    · rw [if_pos h]
      simp (disch := first | assumption | omega | decide | exact zin_d (by assumption) (by omega) (by omega) | (simp only [zb01]; done)) only [s_M_laidBy_0, s_M_laidBy_1, s_M_laidBy_2, s_M_laidBy_3, s_M_laidBy_5, s_M_laidBy_6, s_M_laidBy_9, s_M_laidBy_12, s_M_laidBy_13, s_M_laidBy_14, s_M_laidBy_17, s_M_laidBy_18, s_M_laidBy_19, s_M_laidBy_20, s_M_laidBy_23, s_M_laidBy_24, s_M_laidBy_27, s_M_laidBy_28, s_M_laidBy_29, s_M_laidBy_30, s_M_laidBy_33, s_M_laidBy_36, s_M_laidBy_37, zlt, zle, zeq, zclamp, zinc, zdec, zdi, zdr, zdl, zdn, zpi, zpn, if_true, if_false, ite_not, Bool.false_eq_true, ne_eq, not_true_eq_false, not_false_eq_true, true_and, and_true, Nat.add_assoc, Nat.reduceAdd, hn, (hA j hj).2.2, zift, ziff]
    · rw [if_neg h]
      simp (disch := first | assumption | omega | decide | exact zin_d (by assumption) (by omega) (by omega) | (simp only [zb01]; done)) only [s_M_laidBy_0, s_M_laidBy_1, s_M_laidBy_2, s_M_laidBy_3, s_M_laidBy_5, s_M_laidBy_6, s_M_laidBy_9, s_M_laidBy_12, s_M_laidBy_13, s_M_laidBy_14, s_M_laidBy_17, s_M_laidBy_18, s_M_laidBy_19, s_M_laidBy_20, s_M_laidBy_23, s_M_laidBy_24, s_M_laidBy_27, s_M_laidBy_28, s_M_laidBy_29, s_M_laidBy_30, s_M_laidBy_33, s_M_laidBy_36, s_M_laidBy_37, zlt, zle, zeq, zclamp, zinc, zdec, zdi, zdr, zdl, zdn, zpi, zpn, if_true, if_false, ite_not, Bool.false_eq_true, ne_eq, not_true_eq_false, not_false_eq_true, true_and, and_true, Nat.add_assoc, Nat.reduceAdd, hn, (hA j hj).2.2, zift, ziff]
  · rw [s_M_laidBy_4]
    simp (disch := first | assumption | omega | decide | exact zin_d (by assumption) (by omega) (by omega) | (simp only [zb01]; done)) only [s_M_laidBy_0, s_M_laidBy_1, s_M_laidBy_2, s_M_laidBy_3, s_M_laidBy_5, s_M_laidBy_6, s_M_laidBy_9, s_M_laidBy_12, s_M_laidBy_13, s_M_laidBy_14, s_M_laidBy_17, s_M_laidBy_18, s_M_laidBy_19, s_M_laidBy_20, s_M_laidBy_23, s_M_laidBy_24, s_M_laidBy_27, s_M_laidBy_28, s_M_laidBy_29, s_M_laidBy_30, s_M_laidBy_33, s_M_laidBy_36, s_M_laidBy_37, zlt, zle, zeq, zclamp, zinc, zdec, zdi, zdr, zdl, zdn, zpi, zpn, if_true, if_false, ite_not, Bool.false_eq_true, ne_eq, not_true_eq_false, not_false_eq_true, true_and, and_true, Nat.add_assoc, Nat.reduceAdd, hn, zift, ziff]
theorem M_mason (hR : WX σ a) (hQ : ∀ σ', WX σ' (c_mason a m w).2 → Q (some (.int (c_mason a m w).1)) σ') : Ev zshM 207 0 [some (.ref 0), some (.int m), some (.int w)] [] σ Q := by
  have hK := hR.1.1.1
  have h12 := hR.1.2.1.1.1
  have z5 : zshM 5 = 100 + 2 := rfl
  have z6 : zshM 6 = 100 + 2 := rfl
  have z7 : zshM 7 = 100 + 2 := rfl
  rw [c_mason] at hQ
  by_cases hm : m = 0 ∨ m = 1
  · rw [if_pos hm] at hQ
    have hm' := hm
    obtain ⟨i, hi, rfl⟩ := mas_num hm
    have hi2 : i < 2 := by omega
    obtain ⟨e5, e6, e7⟩ := WMd_m hR.1.1 hi
    by_cases w0 : w = 0
    · subst w0
      rw [if_pos rfl] at hQ
      simp (disch := first | assumption | omega | decide | exact zin_d (by assumption) (by omega) (by omega) | (simp only [zb01]; done)) only [s_M_mason_0, s_M_mason_1, s_M_mason_4, s_M_mason_7, s_M_mason_8, s_M_mason_9, s_M_mason_12, s_M_mason_13, s_M_mason_14, s_M_mason_44, s_M_mason_45, s_M_mason_48, s_M_mason_49, s_M_mason_50, s_M_mason_51, s_M_mason_52, s_M_mason_55, s_M_mason_56, s_M_mason_57, s_M_mason_58, s_M_mason_59, s_M_mason_62, s_M_mason_63, s_M_mason_64, s_M_mason_65, s_M_mason_66, s_M_mason_67, s_M_mason_70, s_M_mason_71, s_M_mason_72, s_M_mason_74, s_M_mason_77, zlt, zle, zeq, zclamp, zinc, zdec, zdi, zdr, zdl, zdn, zpi, zpn, if_true, if_false, ite_not, Bool.false_eq_true, ne_eq, not_true_eq_false, not_false_eq_true, true_and, and_true, Nat.add_assoc, Nat.reduceAdd, M_isMason, e5, zift, ziff]
      exact hQ σ hR
    rw [if_neg w0] at hQ
    by_cases w1 : w = 1
    · subst w1
      rw [if_pos rfl] at hQ
      simp (disch := first | assumption | omega | decide | exact zin_d (by assumption) (by omega) (by omega) | (simp only [zb01]; done)) only [s_M_mason_0, s_M_mason_1, s_M_mason_4, s_M_mason_7, s_M_mason_8, s_M_mason_9, s_M_mason_12, s_M_mason_13, s_M_mason_14, s_M_mason_44, s_M_mason_45, s_M_mason_48, s_M_mason_49, s_M_mason_50, s_M_mason_51, s_M_mason_52, s_M_mason_55, s_M_mason_56, s_M_mason_57, s_M_mason_58, s_M_mason_59, s_M_mason_62, s_M_mason_63, s_M_mason_64, s_M_mason_65, s_M_mason_66, s_M_mason_67, s_M_mason_70, s_M_mason_71, s_M_mason_72, s_M_mason_74, s_M_mason_77, zlt, zle, zeq, zclamp, zinc, zdec, zdi, zdr, zdl, zdn, zpi, zpn, if_true, if_false, ite_not, Bool.false_eq_true, ne_eq, not_true_eq_false, not_false_eq_true, true_and, and_true, Nat.add_assoc, Nat.reduceAdd, M_isMason, e6, zift, ziff]
      exact hQ σ hR
    rw [if_neg w1] at hQ
    by_cases w2 : w = 2
    · subst w2
      rw [if_pos rfl] at hQ
      simp (disch := first | assumption | omega | decide | exact zin_d (by assumption) (by omega) (by omega) | (simp only [zb01]; done)) only [s_M_mason_0, s_M_mason_1, s_M_mason_4, s_M_mason_7, s_M_mason_8, s_M_mason_9, s_M_mason_12, s_M_mason_13, s_M_mason_14, s_M_mason_44, s_M_mason_45, s_M_mason_48, s_M_mason_49, s_M_mason_50, s_M_mason_51, s_M_mason_52, s_M_mason_55, s_M_mason_56, s_M_mason_57, s_M_mason_58, s_M_mason_59, s_M_mason_62, s_M_mason_63, s_M_mason_64, s_M_mason_65, s_M_mason_66, s_M_mason_67, s_M_mason_70, s_M_mason_71, s_M_mason_72, s_M_mason_74, s_M_mason_77, zlt, zle, zeq, zclamp, zinc, zdec, zdi, zdr, zdl, zdn, zpi, zpn, if_true, if_false, ite_not, Bool.false_eq_true, ne_eq, not_true_eq_false, not_false_eq_true, true_and, and_true, Nat.add_assoc, Nat.reduceAdd, M_isMason, e7, zift, ziff]
      exact hQ σ hR
    rw [if_neg w2] at hQ
    by_cases w3 : w = 3
    · subst w3
      rw [if_pos rfl] at hQ
      simp (disch := first | assumption | omega | decide | exact zin_d (by assumption) (by omega) (by omega) | (simp only [zb01]; done)) only [s_M_mason_0, s_M_mason_1, s_M_mason_4, s_M_mason_7, s_M_mason_8, s_M_mason_9, s_M_mason_12, s_M_mason_13, s_M_mason_14, s_M_mason_44, s_M_mason_45, s_M_mason_48, s_M_mason_49, s_M_mason_50, s_M_mason_51, s_M_mason_52, s_M_mason_55, s_M_mason_56, s_M_mason_57, s_M_mason_58, s_M_mason_59, s_M_mason_62, s_M_mason_63, s_M_mason_64, s_M_mason_65, s_M_mason_66, s_M_mason_67, s_M_mason_70, s_M_mason_71, s_M_mason_72, s_M_mason_74, s_M_mason_77, zlt, zle, zeq, zclamp, zinc, zdec, zdi, zdr, zdl, zdn, zpi, zpn, if_true, if_false, ite_not, Bool.false_eq_true, ne_eq, not_true_eq_false, not_false_eq_true, true_and, and_true, Nat.add_assoc, Nat.reduceAdd, M_isMason, M_laidBy hK h12, zift, ziff]
      exact hQ σ hR
    rw [if_neg w3] at hQ
    simp (disch := first | assumption | omega | decide | exact zin_d (by assumption) (by omega) (by omega) | (simp only [zb01]; done)) only [s_M_mason_0, s_M_mason_1, s_M_mason_4, s_M_mason_7, s_M_mason_8, s_M_mason_9, s_M_mason_12, s_M_mason_13, s_M_mason_14, s_M_mason_44, s_M_mason_45, s_M_mason_48, s_M_mason_49, s_M_mason_50, s_M_mason_51, s_M_mason_52, s_M_mason_55, s_M_mason_56, s_M_mason_57, s_M_mason_58, s_M_mason_59, s_M_mason_62, s_M_mason_63, s_M_mason_64, s_M_mason_65, s_M_mason_66, s_M_mason_67, s_M_mason_70, s_M_mason_71, s_M_mason_72, s_M_mason_74, s_M_mason_77, zlt, zle, zeq, zclamp, zinc, zdec, zdi, zdr, zdl, zdn, zpi, zpn, if_true, if_false, ite_not, Bool.false_eq_true, ne_eq, not_true_eq_false, not_false_eq_true, true_and, and_true, Nat.add_assoc, Nat.reduceAdd, M_isMason, zift, ziff]
    refine M_no hR ref2 (fun σ' h => ?_)
    simp (disch := first | assumption | omega | decide | exact zin_d (by assumption) (by omega) (by omega) | (simp only [zb01]; done)) only [s_M_mason_0, s_M_mason_1, s_M_mason_4, s_M_mason_7, s_M_mason_8, s_M_mason_9, s_M_mason_12, s_M_mason_13, s_M_mason_14, s_M_mason_44, s_M_mason_45, s_M_mason_48, s_M_mason_49, s_M_mason_50, s_M_mason_51, s_M_mason_52, s_M_mason_55, s_M_mason_56, s_M_mason_57, s_M_mason_58, s_M_mason_59, s_M_mason_62, s_M_mason_63, s_M_mason_64, s_M_mason_65, s_M_mason_66, s_M_mason_67, s_M_mason_70, s_M_mason_71, s_M_mason_72, s_M_mason_74, s_M_mason_77, zlt, zle, zeq, zclamp, zinc, zdec, zdi, zdr, zdl, zdn, zpi, zpn, if_true, if_false, ite_not, Bool.false_eq_true, ne_eq, not_true_eq_false, not_false_eq_true, true_and, and_true, Nat.add_assoc, Nat.reduceAdd]
    exact hQ σ' h
  · rw [if_neg hm] at hQ
    simp (disch := first | assumption | omega | decide | exact zin_d (by assumption) (by omega) (by omega) | (simp only [zb01]; done)) only [s_M_mason_0, s_M_mason_1, s_M_mason_4, s_M_mason_7, s_M_mason_8, s_M_mason_9, s_M_mason_12, s_M_mason_13, s_M_mason_14, s_M_mason_44, s_M_mason_45, s_M_mason_48, s_M_mason_49, s_M_mason_50, s_M_mason_51, s_M_mason_52, s_M_mason_55, s_M_mason_56, s_M_mason_57, s_M_mason_58, s_M_mason_59, s_M_mason_62, s_M_mason_63, s_M_mason_64, s_M_mason_65, s_M_mason_66, s_M_mason_67, s_M_mason_70, s_M_mason_71, s_M_mason_72, s_M_mason_74, s_M_mason_77, zlt, zle, zeq, zclamp, zinc, zdec, zdi, zdr, zdl, zdn, zpi, zpn, if_true, if_false, ite_not, Bool.false_eq_true, ne_eq, not_true_eq_false, not_false_eq_true, true_and, and_true, Nat.add_assoc, Nat.reduceAdd, M_isMason, zift, ziff]
    refine M_no hR ref1 (fun σ' h => ?_)
    simp (disch := first | assumption | omega | decide | exact zin_d (by assumption) (by omega) (by omega) | (simp only [zb01]; done)) only [s_M_mason_0, s_M_mason_1, s_M_mason_4, s_M_mason_7, s_M_mason_8, s_M_mason_9, s_M_mason_12, s_M_mason_13, s_M_mason_14, s_M_mason_44, s_M_mason_45, s_M_mason_48, s_M_mason_49, s_M_mason_50, s_M_mason_51, s_M_mason_52, s_M_mason_55, s_M_mason_56, s_M_mason_57, s_M_mason_58, s_M_mason_59, s_M_mason_62, s_M_mason_63, s_M_mason_64, s_M_mason_65, s_M_mason_66, s_M_mason_67, s_M_mason_70, s_M_mason_71, s_M_mason_72, s_M_mason_74, s_M_mason_77, zlt, zle, zeq, zclamp, zinc, zdec, zdi, zdr, zdl, zdn, zpi, zpn, if_true, if_false, ite_not, Bool.false_eq_true, ne_eq, not_true_eq_false, not_false_eq_true, true_and, and_true, Nat.add_assoc, Nat.reduceAdd]
    exact hQ σ' h
theorem M_row (hR : WX σ a) (hQ : ∀ σ', WX σ' (c_row a v).2 → Q (some (.int (c_row a v).1)) σ') : Ev zshM 252 0 [some (.ref 0), some (.int v), none] [] σ Q := by
  obtain ⟨h16, hn, hA⟩ := hR.2.2.2.1
  have z14 : zshM 14 = 100 + 16 := rfl
  rw [c_row] at hQ
  by_cases h1 : outs v 0 99 = 0
  · rw [if_pos h1] at hQ
    by_cases h2 : a.2.2.2.1.1 = 16
    · rw [if_pos h2] at hQ
      simp (disch := first | assumption | omega | decide | exact zin_d (by assumption) (by omega) (by omega) | (simp only [zb01]; done)) only [s_M_row_0, s_M_row_1, s_M_row_2, s_M_row_4, s_M_row_7, s_M_row_8, s_M_row_9, s_M_row_12, s_M_row_13, s_M_row_16, s_M_row_18, s_M_row_21, s_M_row_23, s_M_row_24, s_M_row_25, s_M_row_28, s_M_row_29, s_M_row_30, s_M_row_33, s_M_row_34, s_M_row_35, s_M_row_38, s_M_row_39, s_M_row_42, s_M_row_43, s_M_row_44, s_M_row_45, s_M_row_46, s_M_row_49, s_M_row_50, s_M_row_51, s_M_row_54, s_M_row_55, s_M_row_58, zlt, zle, zeq, zclamp, zinc, zdec, zdi, zdr, zdl, zdn, zpi, zpn, if_true, if_false, ite_not, Bool.false_eq_true, ne_eq, not_true_eq_false, not_false_eq_true, true_and, and_true, Nat.add_assoc, Nat.reduceAdd, zlL_16, zlR_16, zeL_16, zeR_16, zqL_16, zcl_16, M_bound, h1, hn, zift, ziff]
      refine M_no hR ref6 (fun σ' h => ?_)
      simp (disch := first | assumption | omega | decide | exact zin_d (by assumption) (by omega) (by omega) | (simp only [zb01]; done)) only [s_M_row_0, s_M_row_1, s_M_row_2, s_M_row_4, s_M_row_7, s_M_row_8, s_M_row_9, s_M_row_12, s_M_row_13, s_M_row_16, s_M_row_18, s_M_row_21, s_M_row_23, s_M_row_24, s_M_row_25, s_M_row_28, s_M_row_29, s_M_row_30, s_M_row_33, s_M_row_34, s_M_row_35, s_M_row_38, s_M_row_39, s_M_row_42, s_M_row_43, s_M_row_44, s_M_row_45, s_M_row_46, s_M_row_49, s_M_row_50, s_M_row_51, s_M_row_54, s_M_row_55, s_M_row_58, zlt, zle, zeq, zclamp, zinc, zdec, zdi, zdr, zdl, zdn, zpi, zpn, if_true, if_false, ite_not, Bool.false_eq_true, ne_eq, not_true_eq_false, not_false_eq_true, true_and, and_true, Nat.add_assoc, Nat.reduceAdd]
      exact hQ σ' h
    · rw [if_neg h2] at hQ
      have h3 : a.2.2.2.1.1 < 16 := by omega
      simp (disch := first | assumption | omega | decide | exact zin_d (by assumption) (by omega) (by omega) | (simp only [zb01]; done)) only [s_M_row_0, s_M_row_1, s_M_row_2, s_M_row_4, s_M_row_7, s_M_row_8, s_M_row_9, s_M_row_12, s_M_row_13, s_M_row_16, s_M_row_18, s_M_row_21, s_M_row_23, s_M_row_24, s_M_row_25, s_M_row_28, s_M_row_29, s_M_row_30, s_M_row_33, s_M_row_34, s_M_row_35, s_M_row_38, s_M_row_39, s_M_row_42, s_M_row_43, s_M_row_44, s_M_row_45, s_M_row_46, s_M_row_49, s_M_row_50, s_M_row_51, s_M_row_54, s_M_row_55, s_M_row_58, zlt, zle, zeq, zclamp, zinc, zdec, zdi, zdr, zdl, zdn, zpi, zpn, if_true, if_false, ite_not, Bool.false_eq_true, ne_eq, not_true_eq_false, not_false_eq_true, true_and, and_true, Nat.add_assoc, Nat.reduceAdd, zlL_16, zlR_16, zeL_16, zeR_16, zqL_16, zcl_16, zup_ne, zup_self, pk_us, pk_un, M_bound, h1, hn, zift, ziff]
      refine hQ _ (WX_setT hR ⟨by omega, ?_, fun i hi => ?_⟩ (fun c q1 q2 => ?_) (fun k q => ?_))
      · simp (disch := first | assumption | omega | decide | exact zin_d (by assumption) (by omega) (by omega) | (simp only [zb01]; done)) only [zup_ne, zup_self, pk_us, pk_un]
      · simp (disch := first | assumption | omega | decide | exact zin_d (by assumption) (by omega) (by omega) | (simp only [zb01]; done)) only [zup_ne, zup_self, pk_us, pk_un]
        by_cases e : i = a.2.2.2.1.1
        · subst e; rw [pk_us, pk_us]
        · rw [pk_un e, pk_un e]; exact hA i (by omega)
      · simp (disch := first | assumption | omega | decide | exact zin_d (by assumption) (by omega) (by omega) | (simp only [zb01]; done)) only [zup_ne, zup_self, pk_us, pk_un]
      · simp (disch := first | assumption | omega | decide | exact zin_d (by assumption) (by omega) (by omega) | (simp only [zb01]; done)) only [zup_ne, zup_self, pk_us, pk_un]
  · rw [if_neg h1] at hQ
    simp (disch := first | assumption | omega | decide | exact zin_d (by assumption) (by omega) (by omega) | (simp only [zb01]; done)) only [s_M_row_0, s_M_row_1, s_M_row_2, s_M_row_4, s_M_row_7, s_M_row_8, s_M_row_9, s_M_row_12, s_M_row_13, s_M_row_16, s_M_row_18, s_M_row_21, s_M_row_23, s_M_row_24, s_M_row_25, s_M_row_28, s_M_row_29, s_M_row_30, s_M_row_33, s_M_row_34, s_M_row_35, s_M_row_38, s_M_row_39, s_M_row_42, s_M_row_43, s_M_row_44, s_M_row_45, s_M_row_46, s_M_row_49, s_M_row_50, s_M_row_51, s_M_row_54, s_M_row_55, s_M_row_58, zlt, zle, zeq, zclamp, zinc, zdec, zdi, zdr, zdl, zdn, zpi, zpn, if_true, if_false, ite_not, Bool.false_eq_true, ne_eq, not_true_eq_false, not_false_eq_true, true_and, and_true, Nat.add_assoc, Nat.reduceAdd, M_bound, zift, ziff]
    refine M_no hR (outs_ref h1) (fun σ' h => ?_)
    simp (disch := first | assumption | omega | decide | exact zin_d (by assumption) (by omega) (by omega) | (simp only [zb01]; done)) only [s_M_row_0, s_M_row_1, s_M_row_2, s_M_row_4, s_M_row_7, s_M_row_8, s_M_row_9, s_M_row_12, s_M_row_13, s_M_row_16, s_M_row_18, s_M_row_21, s_M_row_23, s_M_row_24, s_M_row_25, s_M_row_28, s_M_row_29, s_M_row_30, s_M_row_33, s_M_row_34, s_M_row_35, s_M_row_38, s_M_row_39, s_M_row_42, s_M_row_43, s_M_row_44, s_M_row_45, s_M_row_46, s_M_row_49, s_M_row_50, s_M_row_51, s_M_row_54, s_M_row_55, s_M_row_58, zlt, zle, zeq, zclamp, zinc, zdec, zdi, zdr, zdl, zdn, zpi, zpn, if_true, if_false, ite_not, Bool.false_eq_true, ne_eq, not_true_eq_false, not_false_eq_true, true_and, and_true, Nat.add_assoc, Nat.reduceAdd]
    exact hQ σ' h
theorem M_judge (hR : WX σ a) (hQ : ∀ σ', WX σ' (c_judge a).2 → Q (some (.int (c_judge a).1)) σ') : Ev zshM 253 0 [some (.ref 0), none, none] [] σ Q := by
  obtain ⟨h16, hn, hA⟩ := hR.2.2.2.1
  have h12 := hR.1.2.1.1.1
  have z14 : zshM 14 = 100 + 16 := rfl
  have hK : WK (zup σ 0 25 0) _ _ _ _ := hR.1.1.1.keep (by simp (disch := first | assumption | omega | decide | exact zin_d (by assumption) (by omega) (by omega) | (simp only [zb01]; done)) only [zup_ne, zup_self, pk_us, pk_un]) (fun c _ _ => zup_ne (by omega))
  have hs : zup σ 0 25 0 0 7 = nI a.1.1.1 := hK.2.1
  have hW : WX (zup σ 0 25 0) (setT a 0 a.2.2.2.1.2) := WX_setT hR ⟨Nat.zero_le _, by rw [zup_self, pk_us]; rfl, fun i hi => absurd hi (Nat.not_lt_zero i)⟩ (fun c q1 _ => zup_ne q1) (fun k q => by rw [zup_self, pk_un q])
  have hq := hQ _ hW
  rw [c_judge, jdg] at hq
  simp (disch := first | assumption | omega | decide | exact zin_d (by assumption) (by omega) (by omega) | (simp only [zb01]; done)) only [s_M_judge_0, s_M_judge_1, s_M_judge_4, s_M_judge_5, s_M_judge_6, s_M_judge_7, s_M_judge_10, s_M_judge_11, s_M_judge_13, s_M_judge_14, s_M_judge_17, s_M_judge_18, s_M_judge_19, s_M_judge_22, s_M_judge_25, s_M_judge_26, s_M_judge_27, s_M_judge_30, s_M_judge_32, s_M_judge_33, s_M_judge_34, s_M_judge_37, s_M_judge_38, s_M_judge_39, s_M_judge_42, s_M_judge_43, s_M_judge_44, s_M_judge_47, s_M_judge_50, s_M_judge_52, zlt, zle, zeq, zclamp, zinc, zdec, zdi, zdr, zdl, zdn, zpi, zpn, if_true, if_false, ite_not, Bool.false_eq_true, ne_eq, not_true_eq_false, not_false_eq_true, true_and, and_true, Nat.add_assoc, Nat.reduceAdd, hn]
  have h14 : zup σ 0 25 0 14 = σ 14 := zup_ne (by omega)
  generalize hg : zup σ 0 25 0 = σ1 at *
  have key := loopV (N := a.2.2.2.1.1) (p := fun i => ¬ (i < a.1.1.1 ∧ lsum a.1.1.2.1 a.1.1.2.2.1 (i + 1) + 50 = a.2.2.2.1.2 i)) (G := fun v => Q (some (.int v)) σ1) (fun j => Ev zshM 253 12 [some (.ref 0), some (.int (nI a.2.2.2.1.1)), some (.int (nI j))] [] σ1 Q) (fun j hj => ?_) ?_ 0 (by omega)
  · exact Eq.mpr key hq
  · have hj16 : j < 16 := by omega
    have ej : σ1 14 j = a.2.2.2.1.2 j := by rw [h14]; exact hA j hj
    rw [s_M_judge_12]
    by_cases h1 : j < a.1.1.1
    · have h1' : ¬ a.1.1.1 ≤ j := by omega
      by_cases h2 : lsum a.1.1.2.1 a.1.1.2.2.1 (j + 1) + 50 = a.2.2.2.1.2 j
      · have h3 : ¬ ¬ (j < a.1.1.1 ∧ lsum a.1.1.2.1 a.1.1.2.2.1 (j + 1) + 50 = a.2.2.2.1.2 j) := fun h => h ⟨h1, h2⟩
        rw [if_neg h3]
        simp (disch := first | assumption | omega | decide | exact zin_d (by assumption) (by omega) (by omega) | (simp only [zb01]; done)) only [s_M_judge_0, s_M_judge_1, s_M_judge_4, s_M_judge_5, s_M_judge_6, s_M_judge_7, s_M_judge_10, s_M_judge_11, s_M_judge_13, s_M_judge_14, s_M_judge_17, s_M_judge_18, s_M_judge_19, s_M_judge_22, s_M_judge_25, s_M_judge_26, s_M_judge_27, s_M_judge_30, s_M_judge_32, s_M_judge_33, s_M_judge_34, s_M_judge_37, s_M_judge_38, s_M_judge_39, s_M_judge_42, s_M_judge_43, s_M_judge_44, s_M_judge_47, s_M_judge_50, s_M_judge_52, zlt, zle, zeq, zclamp, zinc, zdec, zdi, zdr, zdl, zdn, zpi, zpn, if_true, if_false, ite_not, Bool.false_eq_true, ne_eq, not_true_eq_false, not_false_eq_true, true_and, and_true, Nat.add_assoc, Nat.reduceAdd, hs, ej, M_leanAt hK, zift, ziff]
      · have h3 : ¬ (j < a.1.1.1 ∧ lsum a.1.1.2.1 a.1.1.2.2.1 (j + 1) + 50 = a.2.2.2.1.2 j) := fun h => h2 h.2
        rw [if_pos h3]
        simp (disch := first | assumption | omega | decide | exact zin_d (by assumption) (by omega) (by omega) | (simp only [zb01]; done)) only [s_M_judge_0, s_M_judge_1, s_M_judge_4, s_M_judge_5, s_M_judge_6, s_M_judge_7, s_M_judge_10, s_M_judge_11, s_M_judge_13, s_M_judge_14, s_M_judge_17, s_M_judge_18, s_M_judge_19, s_M_judge_22, s_M_judge_25, s_M_judge_26, s_M_judge_27, s_M_judge_30, s_M_judge_32, s_M_judge_33, s_M_judge_34, s_M_judge_37, s_M_judge_38, s_M_judge_39, s_M_judge_42, s_M_judge_43, s_M_judge_44, s_M_judge_47, s_M_judge_50, s_M_judge_52, zlt, zle, zeq, zclamp, zinc, zdec, zdi, zdr, zdl, zdn, zpi, zpn, if_true, if_false, ite_not, Bool.false_eq_true, ne_eq, not_true_eq_false, not_false_eq_true, true_and, and_true, Nat.add_assoc, Nat.reduceAdd, hs, ej, M_leanAt hK, zift, ziff]
    · have h1' : a.1.1.1 ≤ j := by omega
      have h3 : ¬ (j < a.1.1.1 ∧ lsum a.1.1.2.1 a.1.1.2.2.1 (j + 1) + 50 = a.2.2.2.1.2 j) := fun h => h1 h.1
      rw [if_pos h3]
      simp (disch := first | assumption | omega | decide | exact zin_d (by assumption) (by omega) (by omega) | (simp only [zb01]; done)) only [s_M_judge_0, s_M_judge_1, s_M_judge_4, s_M_judge_5, s_M_judge_6, s_M_judge_7, s_M_judge_10, s_M_judge_11, s_M_judge_13, s_M_judge_14, s_M_judge_17, s_M_judge_18, s_M_judge_19, s_M_judge_22, s_M_judge_25, s_M_judge_26, s_M_judge_27, s_M_judge_30, s_M_judge_32, s_M_judge_33, s_M_judge_34, s_M_judge_37, s_M_judge_38, s_M_judge_39, s_M_judge_42, s_M_judge_43, s_M_judge_44, s_M_judge_47, s_M_judge_50, s_M_judge_52, zlt, zle, zeq, zclamp, zinc, zdec, zdi, zdr, zdl, zdn, zpi, zpn, if_true, if_false, ite_not, Bool.false_eq_true, ne_eq, not_true_eq_false, not_false_eq_true, true_and, and_true, Nat.add_assoc, Nat.reduceAdd, hs, zift, ziff]
  · rw [s_M_judge_12]
    simp (disch := first | assumption | omega | decide | exact zin_d (by assumption) (by omega) (by omega) | (simp only [zb01]; done)) only [s_M_judge_0, s_M_judge_1, s_M_judge_4, s_M_judge_5, s_M_judge_6, s_M_judge_7, s_M_judge_10, s_M_judge_11, s_M_judge_13, s_M_judge_14, s_M_judge_17, s_M_judge_18, s_M_judge_19, s_M_judge_22, s_M_judge_25, s_M_judge_26, s_M_judge_27, s_M_judge_30, s_M_judge_32, s_M_judge_33, s_M_judge_34, s_M_judge_37, s_M_judge_38, s_M_judge_39, s_M_judge_42, s_M_judge_43, s_M_judge_44, s_M_judge_47, s_M_judge_50, s_M_judge_52, zlt, zle, zeq, zclamp, zinc, zdec, zdi, zdr, zdl, zdn, zpi, zpn, if_true, if_false, ite_not, Bool.false_eq_true, ne_eq, not_true_eq_false, not_false_eq_true, true_and, and_true, Nat.add_assoc, Nat.reduceAdd, zift, ziff]
theorem M_letter (hR : WX σ a) (hQ : ∀ σ', WX σ' (c_letter a x).2 → Q (some (.int (c_letter a x).1)) σ') : Ev zshM 170 0 [some (.ref 0), some (.int x), none] [] σ Q := by
  obtain ⟨⟨g1, g2, g3⟩, g4, ⟨⟨h96, hn, hA⟩, h6⟩, ⟨h7, h7b, h7c⟩, g8⟩ := id hR
  have z8 : zshM 8 = 100 + 96 := rfl
  rw [c_letter] at hQ
  by_cases h1 : outs x 0 255 = 0
  · rw [if_pos h1] at hQ
    by_cases h2 : 96 ≤ a.2.2.1.1
    · rw [if_pos h2] at hQ
      have h3 : a.2.2.1.1 = 96 := by omega
      simp (disch := first | assumption | omega | decide | exact zin_d (by assumption) (by omega) (by omega) | (simp only [zb01]; done)) only [s_M_letter_0, s_M_letter_1, s_M_letter_2, s_M_letter_5, s_M_letter_8, s_M_letter_9, s_M_letter_10, s_M_letter_13, s_M_letter_14, s_M_letter_17, s_M_letter_19, s_M_letter_22, s_M_letter_24, s_M_letter_25, s_M_letter_26, s_M_letter_29, s_M_letter_30, s_M_letter_31, s_M_letter_34, s_M_letter_35, s_M_letter_36, s_M_letter_39, s_M_letter_40, s_M_letter_43, s_M_letter_44, s_M_letter_45, s_M_letter_46, s_M_letter_47, s_M_letter_50, s_M_letter_51, s_M_letter_52, s_M_letter_55, s_M_letter_56, s_M_letter_59, zlt, zle, zeq, zclamp, zinc, zdec, zdi, zdr, zdl, zdn, zpi, zpn, if_true, if_false, ite_not, Bool.false_eq_true, ne_eq, not_true_eq_false, not_false_eq_true, true_and, and_true, Nat.add_assoc, Nat.reduceAdd, zlL_96, zlR_96, zeL_96, zeR_96, zqL_96, zcl_96, M_bound, h1, hn, zift, ziff]
      refine M_no hR ref6 (fun σ' h => ?_)
      simp (disch := first | assumption | omega | decide | exact zin_d (by assumption) (by omega) (by omega) | (simp only [zb01]; done)) only [s_M_letter_0, s_M_letter_1, s_M_letter_2, s_M_letter_5, s_M_letter_8, s_M_letter_9, s_M_letter_10, s_M_letter_13, s_M_letter_14, s_M_letter_17, s_M_letter_19, s_M_letter_22, s_M_letter_24, s_M_letter_25, s_M_letter_26, s_M_letter_29, s_M_letter_30, s_M_letter_31, s_M_letter_34, s_M_letter_35, s_M_letter_36, s_M_letter_39, s_M_letter_40, s_M_letter_43, s_M_letter_44, s_M_letter_45, s_M_letter_46, s_M_letter_47, s_M_letter_50, s_M_letter_51, s_M_letter_52, s_M_letter_55, s_M_letter_56, s_M_letter_59, zlt, zle, zeq, zclamp, zinc, zdec, zdi, zdr, zdl, zdn, zpi, zpn, if_true, if_false, ite_not, Bool.false_eq_true, ne_eq, not_true_eq_false, not_false_eq_true, true_and, and_true, Nat.add_assoc, Nat.reduceAdd]
      exact hQ σ' h
    · rw [if_neg h2] at hQ
      have h3 : a.2.2.1.1 < 96 := by omega
      have h4 : ¬ a.2.2.1.1 = 96 := by omega
      simp (disch := first | assumption | omega | decide | exact zin_d (by assumption) (by omega) (by omega) | (simp only [zb01]; done)) only [s_M_letter_0, s_M_letter_1, s_M_letter_2, s_M_letter_5, s_M_letter_8, s_M_letter_9, s_M_letter_10, s_M_letter_13, s_M_letter_14, s_M_letter_17, s_M_letter_19, s_M_letter_22, s_M_letter_24, s_M_letter_25, s_M_letter_26, s_M_letter_29, s_M_letter_30, s_M_letter_31, s_M_letter_34, s_M_letter_35, s_M_letter_36, s_M_letter_39, s_M_letter_40, s_M_letter_43, s_M_letter_44, s_M_letter_45, s_M_letter_46, s_M_letter_47, s_M_letter_50, s_M_letter_51, s_M_letter_52, s_M_letter_55, s_M_letter_56, s_M_letter_59, zlt, zle, zeq, zclamp, zinc, zdec, zdi, zdr, zdl, zdn, zpi, zpn, if_true, if_false, ite_not, Bool.false_eq_true, ne_eq, not_true_eq_false, not_false_eq_true, true_and, and_true, Nat.add_assoc, Nat.reduceAdd, zlL_96, zlR_96, zeL_96, zeR_96, zqL_96, zcl_96, zup_ne, zup_self, pk_us, pk_un, M_bound, h1, hn, zift, ziff]
      have hin := in_le (n := 255) (by omega) (outs_in h1)
      refine hQ _ ?_
      refine ⟨⟨g1.keep (fun c _ _ => ?_) (fun k _ _ => ?_), g2, g3⟩, g4.keep ?_ (fun j _ => ?_), ⟨⟨by show a.2.2.1.1 + 1 ≤ 96; omega, ?_, fun i hi => ?_⟩, fun i hi => ?_⟩, ⟨h7, ?_, fun i hi => ?_⟩, fun i hi => ?_⟩
      · simp (disch := first | assumption | omega | decide | exact zin_d (by assumption) (by omega) (by omega) | (simp only [zb01]; done)) only [zup_ne, zup_self, pk_us, pk_un]
      · simp (disch := first | assumption | omega | decide | exact zin_d (by assumption) (by omega) (by omega) | (simp only [zb01]; done)) only [zup_ne, zup_self, pk_us, pk_un]
      · simp (disch := first | assumption | omega | decide | exact zin_d (by assumption) (by omega) (by omega) | (simp only [zb01]; done)) only [zup_ne, zup_self, pk_us, pk_un]
      · simp (disch := first | assumption | omega | decide | exact zin_d (by assumption) (by omega) (by omega) | (simp only [zb01]; done)) only [zup_ne, zup_self, pk_us, pk_un]
      · simp (disch := first | assumption | omega | decide | exact zin_d (by assumption) (by omega) (by omega) | (simp only [zb01]; done)) only [zup_ne, zup_self, pk_us, pk_un]; rfl
      · simp (disch := first | assumption | omega | decide | exact zin_d (by assumption) (by omega) (by omega) | (simp only [zb01]; done)) only [zup_ne, zup_self, pk_us, pk_un]
        show upd (σ 8) a.2.2.1.1 x i = upd a.2.2.1.2 a.2.2.1.1 x i
        have hi' : i < a.2.2.1.1 + 1 := hi
        by_cases e : i = a.2.2.1.1
        · subst e; rw [pk_us, pk_us]
        · rw [pk_un e, pk_un e]; exact hA i (by omega)
      · show num 255 (upd a.2.2.1.2 a.2.2.1.1 x i)
        have hi' : i < a.2.2.1.1 + 1 := hi
        by_cases e : i = a.2.2.1.1
        · subst e; rw [pk_us]; exact hin
        · rw [pk_un e]; exact h6 i (by omega)
      · simp (disch := first | assumption | omega | decide | exact zin_d (by assumption) (by omega) (by omega) | (simp only [zb01]; done)) only [zup_ne, zup_self, pk_us, pk_un]; exact h7b
      · simp (disch := first | assumption | omega | decide | exact zin_d (by assumption) (by omega) (by omega) | (simp only [zb01]; done)) only [zup_ne, zup_self, pk_us, pk_un]; exact h7c i hi
      · simp (disch := first | assumption | omega | decide | exact zin_d (by assumption) (by omega) (by omega) | (simp only [zb01]; done)) only [zup_ne, zup_self, pk_us, pk_un]; exact g8 i hi
  · rw [if_neg h1] at hQ
    simp (disch := first | assumption | omega | decide | exact zin_d (by assumption) (by omega) (by omega) | (simp only [zb01]; done)) only [s_M_letter_0, s_M_letter_1, s_M_letter_2, s_M_letter_5, s_M_letter_8, s_M_letter_9, s_M_letter_10, s_M_letter_13, s_M_letter_14, s_M_letter_17, s_M_letter_19, s_M_letter_22, s_M_letter_24, s_M_letter_25, s_M_letter_26, s_M_letter_29, s_M_letter_30, s_M_letter_31, s_M_letter_34, s_M_letter_35, s_M_letter_36, s_M_letter_39, s_M_letter_40, s_M_letter_43, s_M_letter_44, s_M_letter_45, s_M_letter_46, s_M_letter_47, s_M_letter_50, s_M_letter_51, s_M_letter_52, s_M_letter_55, s_M_letter_56, s_M_letter_59, zlt, zle, zeq, zclamp, zinc, zdec, zdi, zdr, zdl, zdn, zpi, zpn, if_true, if_false, ite_not, Bool.false_eq_true, ne_eq, not_true_eq_false, not_false_eq_true, true_and, and_true, Nat.add_assoc, Nat.reduceAdd, M_bound, zift, ziff]
    refine M_no hR (outs_ref h1) (fun σ' h => ?_)
    simp (disch := first | assumption | omega | decide | exact zin_d (by assumption) (by omega) (by omega) | (simp only [zb01]; done)) only [s_M_letter_0, s_M_letter_1, s_M_letter_2, s_M_letter_5, s_M_letter_8, s_M_letter_9, s_M_letter_10, s_M_letter_13, s_M_letter_14, s_M_letter_17, s_M_letter_19, s_M_letter_22, s_M_letter_24, s_M_letter_25, s_M_letter_26, s_M_letter_29, s_M_letter_30, s_M_letter_31, s_M_letter_34, s_M_letter_35, s_M_letter_36, s_M_letter_39, s_M_letter_40, s_M_letter_43, s_M_letter_44, s_M_letter_45, s_M_letter_46, s_M_letter_47, s_M_letter_50, s_M_letter_51, s_M_letter_52, s_M_letter_55, s_M_letter_56, s_M_letter_59, zlt, zle, zeq, zclamp, zinc, zdec, zdi, zdr, zdl, zdn, zpi, zpn, if_true, if_false, ite_not, Bool.false_eq_true, ne_eq, not_true_eq_false, not_false_eq_true, true_and, and_true, Nat.add_assoc, Nat.reduceAdd]
    exact hQ σ' h
end
