section
variable {σ : zG} {Q : Option Value → zG → Prop} {a : At} {x y z m w n v o k f : Int32}
theorem M_count (hR : WX σ a) (hQ : ∀ σ', WX σ' (c_count a w).2 → Q (some (.int (c_count a w).1)) σ') : Ev zshM 259 0 [some (.ref 0), some (.int w)] [] σ Q := by
  have hK := hR.1.1.1
  have hok := hR.1.2.1
  have hF : Fok _ _ := hok.1.F
  have h12 := hok.1.1
  have hL : ∀ i, i < a.1.1.1 → num 1 (a.1.1.2.2.2 i) := fun i hi => (hok.1.2 i hi).2.2
  rw [c_count] at hQ
  by_cases w0 : w = 0
  · subst w0
    rw [if_pos rfl] at hQ
    have hb : ¬ btw 0 11 16 = true := by decide
    simp (disch := first | assumption | omega | decide | exact zin_d (by assumption) (by omega) (by omega) | (simp only [zb01]; done)) only [s_M_count_0, s_M_count_1, s_M_count_3, s_M_count_5, s_M_count_8, s_M_count_11, s_M_count_12, s_M_count_15, s_M_count_16, s_M_count_18, s_M_count_19, s_M_count_20, s_M_count_21, s_M_count_22, s_M_count_68, s_M_count_69, s_M_count_72, s_M_count_73, s_M_count_74, s_M_count_77, s_M_count_78, s_M_count_79, s_M_count_82, s_M_count_83, s_M_count_84, s_M_count_87, s_M_count_88, s_M_count_89, s_M_count_92, s_M_count_93, s_M_count_94, s_M_count_97, s_M_count_98, s_M_count_99, s_M_count_102, s_M_count_103, s_M_count_104, s_M_count_107, s_M_count_108, s_M_count_110, zlt, zle, zeq, zclamp, zinc, zdec, zdi, zdr, zdl, zdn, zpi, zpn, if_true, if_false, ite_not, Bool.false_eq_true, ne_eq, not_true_eq_false, not_false_eq_true, true_and, and_true, Nat.add_assoc, Nat.reduceAdd, M_isIn, hK.2.1, zift, ziff]
    exact hQ σ hR
  rw [if_neg w0] at hQ
  by_cases w1 : w = 1
  · subst w1
    rw [if_pos rfl] at hQ
    have hb : ¬ btw 1 11 16 = true := by decide
    simp (disch := first | assumption | omega | decide | exact zin_d (by assumption) (by omega) (by omega) | (simp only [zb01]; done)) only [s_M_count_0, s_M_count_1, s_M_count_3, s_M_count_5, s_M_count_8, s_M_count_11, s_M_count_12, s_M_count_15, s_M_count_16, s_M_count_18, s_M_count_19, s_M_count_20, s_M_count_21, s_M_count_22, s_M_count_68, s_M_count_69, s_M_count_72, s_M_count_73, s_M_count_74, s_M_count_77, s_M_count_78, s_M_count_79, s_M_count_82, s_M_count_83, s_M_count_84, s_M_count_87, s_M_count_88, s_M_count_89, s_M_count_92, s_M_count_93, s_M_count_94, s_M_count_97, s_M_count_98, s_M_count_99, s_M_count_102, s_M_count_103, s_M_count_104, s_M_count_107, s_M_count_108, s_M_count_110, zlt, zle, zeq, zclamp, zinc, zdec, zdi, zdr, zdl, zdn, zpi, zpn, if_true, if_false, ite_not, Bool.false_eq_true, ne_eq, not_true_eq_false, not_false_eq_true, true_and, and_true, Nat.add_assoc, Nat.reduceAdd, M_isIn, hR.1.1.2.2.2.1, zift, ziff]
    exact hQ σ hR
  rw [if_neg w1] at hQ
  by_cases w2 : w = 2
  · subst w2
    rw [if_pos rfl] at hQ
    have hb : ¬ btw 2 11 16 = true := by decide
    simp (disch := first | assumption | omega | decide | exact zin_d (by assumption) (by omega) (by omega) | (simp only [zb01]; done)) only [s_M_count_0, s_M_count_1, s_M_count_3, s_M_count_5, s_M_count_8, s_M_count_11, s_M_count_12, s_M_count_15, s_M_count_16, s_M_count_18, s_M_count_19, s_M_count_20, s_M_count_21, s_M_count_22, s_M_count_68, s_M_count_69, s_M_count_72, s_M_count_73, s_M_count_74, s_M_count_77, s_M_count_78, s_M_count_79, s_M_count_82, s_M_count_83, s_M_count_84, s_M_count_87, s_M_count_88, s_M_count_89, s_M_count_92, s_M_count_93, s_M_count_94, s_M_count_97, s_M_count_98, s_M_count_99, s_M_count_102, s_M_count_103, s_M_count_104, s_M_count_107, s_M_count_108, s_M_count_110, zlt, zle, zeq, zclamp, zinc, zdec, zdi, zdr, zdl, zdn, zpi, zpn, if_true, if_false, ite_not, Bool.false_eq_true, ne_eq, not_true_eq_false, not_false_eq_true, true_and, and_true, Nat.add_assoc, Nat.reduceAdd, M_isIn, hR.1.1.2.2.2.2, zift, ziff]
    exact hQ σ hR
  rw [if_neg w2] at hQ
  by_cases w3 : w = 3
  · subst w3
    rw [if_pos rfl] at hQ
    have hb : ¬ btw 3 11 16 = true := by decide
    simp (disch := first | assumption | omega | decide | exact zin_d (by assumption) (by omega) (by omega) | (simp only [zb01]; done)) only [s_M_count_0, s_M_count_1, s_M_count_3, s_M_count_5, s_M_count_8, s_M_count_11, s_M_count_12, s_M_count_15, s_M_count_16, s_M_count_18, s_M_count_19, s_M_count_20, s_M_count_21, s_M_count_22, s_M_count_68, s_M_count_69, s_M_count_72, s_M_count_73, s_M_count_74, s_M_count_77, s_M_count_78, s_M_count_79, s_M_count_82, s_M_count_83, s_M_count_84, s_M_count_87, s_M_count_88, s_M_count_89, s_M_count_92, s_M_count_93, s_M_count_94, s_M_count_97, s_M_count_98, s_M_count_99, s_M_count_102, s_M_count_103, s_M_count_104, s_M_count_107, s_M_count_108, s_M_count_110, zlt, zle, zeq, zclamp, zinc, zdec, zdi, zdr, zdl, zdn, zpi, zpn, if_true, if_false, ite_not, Bool.false_eq_true, ne_eq, not_true_eq_false, not_false_eq_true, true_and, and_true, Nat.add_assoc, Nat.reduceAdd, M_isIn, M_allFigures hK, zift, ziff]
    exact hQ σ hR
  rw [if_neg w3] at hQ
  by_cases w4 : w = 4
  · subst w4
    rw [if_pos rfl] at hQ
    have hb : ¬ btw 4 11 16 = true := by decide
    simp (disch := first | assumption | omega | decide | exact zin_d (by assumption) (by omega) (by omega) | (simp only [zb01]; done)) only [s_M_count_0, s_M_count_1, s_M_count_3, s_M_count_5, s_M_count_8, s_M_count_11, s_M_count_12, s_M_count_15, s_M_count_16, s_M_count_18, s_M_count_19, s_M_count_20, s_M_count_21, s_M_count_22, s_M_count_68, s_M_count_69, s_M_count_72, s_M_count_73, s_M_count_74, s_M_count_77, s_M_count_78, s_M_count_79, s_M_count_82, s_M_count_83, s_M_count_84, s_M_count_87, s_M_count_88, s_M_count_89, s_M_count_92, s_M_count_93, s_M_count_94, s_M_count_97, s_M_count_98, s_M_count_99, s_M_count_102, s_M_count_103, s_M_count_104, s_M_count_107, s_M_count_108, s_M_count_110, zlt, zle, zeq, zclamp, zinc, zdec, zdi, zdr, zdl, zdn, zpi, zpn, if_true, if_false, ite_not, Bool.false_eq_true, ne_eq, not_true_eq_false, not_false_eq_true, true_and, and_true, Nat.add_assoc, Nat.reduceAdd, M_isIn, M_laidByNight hK hL, zift, ziff]
    exact hQ σ hR
  rw [if_neg w4] at hQ
  by_cases w5 : w = 5
  · subst w5
    rw [if_pos rfl] at hQ
    have hb : ¬ btw 5 11 16 = true := by decide
    simp (disch := first | assumption | omega | decide | exact zin_d (by assumption) (by omega) (by omega) | (simp only [zb01]; done)) only [s_M_count_0, s_M_count_1, s_M_count_3, s_M_count_5, s_M_count_8, s_M_count_11, s_M_count_12, s_M_count_15, s_M_count_16, s_M_count_18, s_M_count_19, s_M_count_20, s_M_count_21, s_M_count_22, s_M_count_68, s_M_count_69, s_M_count_72, s_M_count_73, s_M_count_74, s_M_count_77, s_M_count_78, s_M_count_79, s_M_count_82, s_M_count_83, s_M_count_84, s_M_count_87, s_M_count_88, s_M_count_89, s_M_count_92, s_M_count_93, s_M_count_94, s_M_count_97, s_M_count_98, s_M_count_99, s_M_count_102, s_M_count_103, s_M_count_104, s_M_count_107, s_M_count_108, s_M_count_110, zlt, zle, zeq, zclamp, zinc, zdec, zdi, zdr, zdl, zdn, zpi, zpn, if_true, if_false, ite_not, Bool.false_eq_true, ne_eq, not_true_eq_false, not_false_eq_true, true_and, and_true, Nat.add_assoc, Nat.reduceAdd, M_isIn, M_lacking hK hF, zift, ziff]
    exact hQ σ hR
  rw [if_neg w5] at hQ
  by_cases w6 : w = 6
  · subst w6
    rw [if_pos rfl] at hQ
    have hb : ¬ btw 6 11 16 = true := by decide
    simp (disch := first | assumption | omega | decide | exact zin_d (by assumption) (by omega) (by omega) | (simp only [zb01]; done)) only [s_M_count_0, s_M_count_1, s_M_count_3, s_M_count_5, s_M_count_8, s_M_count_11, s_M_count_12, s_M_count_15, s_M_count_16, s_M_count_18, s_M_count_19, s_M_count_20, s_M_count_21, s_M_count_22, s_M_count_68, s_M_count_69, s_M_count_72, s_M_count_73, s_M_count_74, s_M_count_77, s_M_count_78, s_M_count_79, s_M_count_82, s_M_count_83, s_M_count_84, s_M_count_87, s_M_count_88, s_M_count_89, s_M_count_92, s_M_count_93, s_M_count_94, s_M_count_97, s_M_count_98, s_M_count_99, s_M_count_102, s_M_count_103, s_M_count_104, s_M_count_107, s_M_count_108, s_M_count_110, zlt, zle, zeq, zclamp, zinc, zdec, zdi, zdr, zdl, zdn, zpi, zpn, if_true, if_false, ite_not, Bool.false_eq_true, ne_eq, not_true_eq_false, not_false_eq_true, true_and, and_true, Nat.add_assoc, Nat.reduceAdd, M_isIn, hR.2.2.2.1.2.1, zift, ziff]
    exact hQ σ hR
  rw [if_neg w6] at hQ
  by_cases w7 : w = 7
  · subst w7
    rw [if_pos rfl] at hQ
    have hb : ¬ btw 7 11 16 = true := by decide
    simp (disch := first | assumption | omega | decide | exact zin_d (by assumption) (by omega) (by omega) | (simp only [zb01]; done)) only [s_M_count_0, s_M_count_1, s_M_count_3, s_M_count_5, s_M_count_8, s_M_count_11, s_M_count_12, s_M_count_15, s_M_count_16, s_M_count_18, s_M_count_19, s_M_count_20, s_M_count_21, s_M_count_22, s_M_count_68, s_M_count_69, s_M_count_72, s_M_count_73, s_M_count_74, s_M_count_77, s_M_count_78, s_M_count_79, s_M_count_82, s_M_count_83, s_M_count_84, s_M_count_87, s_M_count_88, s_M_count_89, s_M_count_92, s_M_count_93, s_M_count_94, s_M_count_97, s_M_count_98, s_M_count_99, s_M_count_102, s_M_count_103, s_M_count_104, s_M_count_107, s_M_count_108, s_M_count_110, zlt, zle, zeq, zclamp, zinc, zdec, zdi, zdr, zdl, zdn, zpi, zpn, if_true, if_false, ite_not, Bool.false_eq_true, ne_eq, not_true_eq_false, not_false_eq_true, true_and, and_true, Nat.add_assoc, Nat.reduceAdd, M_isIn, hR.2.2.1.1.2.1, zift, ziff]
    exact hQ σ hR
  rw [if_neg w7] at hQ
  by_cases h : btw w 11 16 = true
  · rw [if_pos h] at hQ
    have hb := btw_eq.mp h
    obtain ⟨i, hi, rfl⟩ := in_le (n := 16) (by omega) (show 0 ≤ w ∧ w ≤ nI 16 from ⟨Int32.le_trans (by decide : (0 : Int32) ≤ 11) hb.1, hb.2⟩)
    have hi11 : 11 ≤ i := by
      have h11 := hb.1
      rw [show (11 : Int32) = nI 11 from rfl, zle (by omega) (by omega)] at h11
      exact h11
    have e10 : nI i - 10 = nI (i - 10) := pk_sub (b := 10) (by omega)
    have hz : zshM 1 = 100 + 7 := rfl
    have hk : i - 10 < 7 := by omega
    rw [e10, zclamp (by omega)] at hQ
    simp (disch := first | assumption | omega | decide | exact zin_d (by assumption) (by omega) (by omega) | (simp only [zb01]; done)) only [s_M_count_0, s_M_count_1, s_M_count_3, s_M_count_5, s_M_count_8, s_M_count_11, s_M_count_12, s_M_count_15, s_M_count_16, s_M_count_18, s_M_count_19, s_M_count_20, s_M_count_21, s_M_count_22, s_M_count_68, s_M_count_69, s_M_count_72, s_M_count_73, s_M_count_74, s_M_count_77, s_M_count_78, s_M_count_79, s_M_count_82, s_M_count_83, s_M_count_84, s_M_count_87, s_M_count_88, s_M_count_89, s_M_count_92, s_M_count_93, s_M_count_94, s_M_count_97, s_M_count_98, s_M_count_99, s_M_count_102, s_M_count_103, s_M_count_104, s_M_count_107, s_M_count_108, s_M_count_110, zlt, zle, zeq, zclamp, zinc, zdec, zdi, zdr, zdl, zdn, zpi, zpn, if_true, if_false, ite_not, Bool.false_eq_true, ne_eq, not_true_eq_false, not_false_eq_true, true_and, and_true, Nat.add_assoc, Nat.reduceAdd, M_isIn, e10, hR.2.2.2.2 (i - 10) hk, zift, ziff]
    exact hQ σ hR
  · rw [if_neg h] at hQ
    simp (disch := first | assumption | omega | decide | exact zin_d (by assumption) (by omega) (by omega) | (simp only [zb01]; done)) only [s_M_count_0, s_M_count_1, s_M_count_3, s_M_count_5, s_M_count_8, s_M_count_11, s_M_count_12, s_M_count_15, s_M_count_16, s_M_count_18, s_M_count_19, s_M_count_20, s_M_count_21, s_M_count_22, s_M_count_68, s_M_count_69, s_M_count_72, s_M_count_73, s_M_count_74, s_M_count_77, s_M_count_78, s_M_count_79, s_M_count_82, s_M_count_83, s_M_count_84, s_M_count_87, s_M_count_88, s_M_count_89, s_M_count_92, s_M_count_93, s_M_count_94, s_M_count_97, s_M_count_98, s_M_count_99, s_M_count_102, s_M_count_103, s_M_count_104, s_M_count_107, s_M_count_108, s_M_count_110, zlt, zle, zeq, zclamp, zinc, zdec, zdi, zdr, zdl, zdn, zpi, zpn, if_true, if_false, ite_not, Bool.false_eq_true, ne_eq, not_true_eq_false, not_false_eq_true, true_and, and_true, Nat.add_assoc, Nat.reduceAdd, M_isIn, zift, ziff]
    exact hQ σ hR
end
