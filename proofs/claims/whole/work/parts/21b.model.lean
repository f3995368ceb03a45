section
variable {σ : zG} {Q : Option Value → zG → Prop} {a : At} {x y z m w n v o k f : Int32}
theorem if_flip {c : Prop} [Decidable c] : (if (if c then (1 : Int32) else 0) = 0 then (0 : Int32) else 1) = if c then 1 else 0 := by
  by_cases h : c <;> simp [h]
theorem M_isStone_in {n i : Nat} {K F L : SF} (hW : WK σ n K F L) (hi : i < n) : Ev zshM 168 0 [some (.ref 0), some (.int (nI i))] [] σ Q = Q (some (.int 1)) σ := by
  have hN := hW.1
  rw [M_isStone hW, if_pos ⟨Int32.not_lt.mp (nI_pos (by omega)), by rw [zlt (by omega) (by omega)]; exact hi⟩]
theorem M_stone (hR : WX σ a) (hQ : ∀ σ', WX σ' (c_stone a x w).2 → Q (some (.int (c_stone a x w).1)) σ') : Ev zshM 205 0 [some (.ref 0), some (.int x), some (.int w)] [] σ Q := by
  have hK := hR.1.1.1
  have hok := hR.1.2.1
  have h12 := hok.1.1
  have hF : Fok _ _ := hok.1.F
  have hn := hK.2.1
  have hA := hK.2.2
  have z2 : zshM 2 = 100 + 13 := rfl
  have z3 : zshM 3 = 100 + 13 := rfl
  have z4 : zshM 4 = 100 + 13 := rfl
  rw [c_stone] at hQ
  by_cases h : 0 ≤ x ∧ x < nI a.1.1.1
  · have hx := h
    rw [if_pos h] at hQ
    obtain ⟨i, hi, rfl⟩ := in_nI (by omega) h
    rw [zclamp (by omega)] at hQ
    have hi13 : i < 13 := by omega
    obtain ⟨eK, eF, eL⟩ := hA i hi
    by_cases w0 : w = 0
    · subst w0
      rw [if_pos rfl] at hQ
      simp (disch := first | assumption | omega | decide | exact zin_d (by assumption) (by omega) (by omega) | (simp only [zb01]; done)) only [s_M_stone_0, s_M_stone_1, s_M_stone_2, s_M_stone_5, s_M_stone_8, s_M_stone_9, s_M_stone_10, s_M_stone_13, s_M_stone_14, s_M_stone_15, s_M_stone_52, s_M_stone_53, s_M_stone_56, s_M_stone_57, s_M_stone_58, s_M_stone_59, s_M_stone_60, s_M_stone_63, s_M_stone_64, s_M_stone_65, s_M_stone_66, s_M_stone_67, s_M_stone_70, s_M_stone_71, s_M_stone_72, s_M_stone_73, s_M_stone_74, s_M_stone_75, s_M_stone_78, s_M_stone_79, s_M_stone_80, s_M_stone_81, s_M_stone_84, s_M_stone_85, s_M_stone_86, s_M_stone_87, s_M_stone_90, s_M_stone_91, s_M_stone_92, s_M_stone_94, s_M_stone_97, zlt, zle, zeq, zclamp, zinc, zdec, zdi, zdr, zdl, zdn, zpi, zpn, if_true, if_false, ite_not, Bool.false_eq_true, ne_eq, not_true_eq_false, not_false_eq_true, true_and, and_true, Nat.add_assoc, Nat.reduceAdd, M_isStone_in hK hi, eK, zift, ziff]
      exact hQ σ hR
    rw [if_neg w0] at hQ
    by_cases w1 : w = 1
    · subst w1
      rw [if_pos rfl] at hQ
      simp (disch := first | assumption | omega | decide | exact zin_d (by assumption) (by omega) (by omega) | (simp only [zb01]; done)) only [s_M_stone_0, s_M_stone_1, s_M_stone_2, s_M_stone_5, s_M_stone_8, s_M_stone_9, s_M_stone_10, s_M_stone_13, s_M_stone_14, s_M_stone_15, s_M_stone_52, s_M_stone_53, s_M_stone_56, s_M_stone_57, s_M_stone_58, s_M_stone_59, s_M_stone_60, s_M_stone_63, s_M_stone_64, s_M_stone_65, s_M_stone_66, s_M_stone_67, s_M_stone_70, s_M_stone_71, s_M_stone_72, s_M_stone_73, s_M_stone_74, s_M_stone_75, s_M_stone_78, s_M_stone_79, s_M_stone_80, s_M_stone_81, s_M_stone_84, s_M_stone_85, s_M_stone_86, s_M_stone_87, s_M_stone_90, s_M_stone_91, s_M_stone_92, s_M_stone_94, s_M_stone_97, zlt, zle, zeq, zclamp, zinc, zdec, zdi, zdr, zdl, zdn, zpi, zpn, if_true, if_false, ite_not, Bool.false_eq_true, ne_eq, not_true_eq_false, not_false_eq_true, true_and, and_true, Nat.add_assoc, Nat.reduceAdd, M_isStone_in hK hi, eF, zift, ziff]
      exact hQ σ hR
    rw [if_neg w1] at hQ
    by_cases w2 : w = 2
    · subst w2
      rw [if_pos rfl] at hQ
      simp (disch := first | assumption | omega | decide | exact zin_d (by assumption) (by omega) (by omega) | (simp only [zb01]; done)) only [s_M_stone_0, s_M_stone_1, s_M_stone_2, s_M_stone_5, s_M_stone_8, s_M_stone_9, s_M_stone_10, s_M_stone_13, s_M_stone_14, s_M_stone_15, s_M_stone_52, s_M_stone_53, s_M_stone_56, s_M_stone_57, s_M_stone_58, s_M_stone_59, s_M_stone_60, s_M_stone_63, s_M_stone_64, s_M_stone_65, s_M_stone_66, s_M_stone_67, s_M_stone_70, s_M_stone_71, s_M_stone_72, s_M_stone_73, s_M_stone_74, s_M_stone_75, s_M_stone_78, s_M_stone_79, s_M_stone_80, s_M_stone_81, s_M_stone_84, s_M_stone_85, s_M_stone_86, s_M_stone_87, s_M_stone_90, s_M_stone_91, s_M_stone_92, s_M_stone_94, s_M_stone_97, zlt, zle, zeq, zclamp, zinc, zdec, zdi, zdr, zdl, zdn, zpi, zpn, if_true, if_false, ite_not, Bool.false_eq_true, ne_eq, not_true_eq_false, not_false_eq_true, true_and, and_true, Nat.add_assoc, Nat.reduceAdd, M_isStone_in hK hi, eL, zift, ziff]
      exact hQ σ hR
    rw [if_neg w2] at hQ
    by_cases w3 : w = 3
    · subst w3
      rw [if_pos rfl] at hQ
      simp (disch := first | assumption | omega | decide | exact zin_d (by assumption) (by omega) (by omega) | (simp only [zb01]; done)) only [s_M_stone_0, s_M_stone_1, s_M_stone_2, s_M_stone_5, s_M_stone_8, s_M_stone_9, s_M_stone_10, s_M_stone_13, s_M_stone_14, s_M_stone_15, s_M_stone_52, s_M_stone_53, s_M_stone_56, s_M_stone_57, s_M_stone_58, s_M_stone_59, s_M_stone_60, s_M_stone_63, s_M_stone_64, s_M_stone_65, s_M_stone_66, s_M_stone_67, s_M_stone_70, s_M_stone_71, s_M_stone_72, s_M_stone_73, s_M_stone_74, s_M_stone_75, s_M_stone_78, s_M_stone_79, s_M_stone_80, s_M_stone_81, s_M_stone_84, s_M_stone_85, s_M_stone_86, s_M_stone_87, s_M_stone_90, s_M_stone_91, s_M_stone_92, s_M_stone_94, s_M_stone_97, zlt, zle, zeq, zclamp, zinc, zdec, zdi, zdr, zdl, zdn, zpi, zpn, if_true, if_false, ite_not, Bool.false_eq_true, ne_eq, not_true_eq_false, not_false_eq_true, true_and, and_true, Nat.add_assoc, Nat.reduceAdd, M_isStone_in hK hi, M_holdsOf hK hi, zift, ziff]
      exact hQ σ hR
    rw [if_neg w3] at hQ
    by_cases w4 : w = 4
    · subst w4
      rw [if_pos rfl] at hQ
      simp (disch := first | assumption | omega | decide | exact zin_d (by assumption) (by omega) (by omega) | (simp only [zb01]; done)) only [s_M_stone_0, s_M_stone_1, s_M_stone_2, s_M_stone_5, s_M_stone_8, s_M_stone_9, s_M_stone_10, s_M_stone_13, s_M_stone_14, s_M_stone_15, s_M_stone_52, s_M_stone_53, s_M_stone_56, s_M_stone_57, s_M_stone_58, s_M_stone_59, s_M_stone_60, s_M_stone_63, s_M_stone_64, s_M_stone_65, s_M_stone_66, s_M_stone_67, s_M_stone_70, s_M_stone_71, s_M_stone_72, s_M_stone_73, s_M_stone_74, s_M_stone_75, s_M_stone_78, s_M_stone_79, s_M_stone_80, s_M_stone_81, s_M_stone_84, s_M_stone_85, s_M_stone_86, s_M_stone_87, s_M_stone_90, s_M_stone_91, s_M_stone_92, s_M_stone_94, s_M_stone_97, zlt, zle, zeq, zclamp, zinc, zdec, zdi, zdr, zdl, zdn, zpi, zpn, if_true, if_false, ite_not, Bool.false_eq_true, ne_eq, not_true_eq_false, not_false_eq_true, true_and, and_true, Nat.add_assoc, Nat.reduceAdd, M_isStone_in hK hi, M_leansOf hK hi, zift, ziff]
      exact hQ σ hR
    rw [if_neg w4] at hQ
    by_cases w5 : w = 5
    · subst w5
      rw [if_pos rfl] at hQ
      simp (disch := first | assumption | omega | decide | exact zin_d (by assumption) (by omega) (by omega) | (simp only [zb01]; done)) only [s_M_stone_0, s_M_stone_1, s_M_stone_2, s_M_stone_5, s_M_stone_8, s_M_stone_9, s_M_stone_10, s_M_stone_13, s_M_stone_14, s_M_stone_15, s_M_stone_52, s_M_stone_53, s_M_stone_56, s_M_stone_57, s_M_stone_58, s_M_stone_59, s_M_stone_60, s_M_stone_63, s_M_stone_64, s_M_stone_65, s_M_stone_66, s_M_stone_67, s_M_stone_70, s_M_stone_71, s_M_stone_72, s_M_stone_73, s_M_stone_74, s_M_stone_75, s_M_stone_78, s_M_stone_79, s_M_stone_80, s_M_stone_81, s_M_stone_84, s_M_stone_85, s_M_stone_86, s_M_stone_87, s_M_stone_90, s_M_stone_91, s_M_stone_92, s_M_stone_94, s_M_stone_97, zlt, zle, zeq, zclamp, zinc, zdec, zdi, zdr, zdl, zdn, zpi, zpn, if_true, if_false, ite_not, Bool.false_eq_true, ne_eq, not_true_eq_false, not_false_eq_true, true_and, and_true, Nat.add_assoc, Nat.reduceAdd, M_isStone_in hK hi, M_leanAt hK hi, zift, ziff]
      exact hQ σ hR
    rw [if_neg w5] at hQ
    simp (disch := first | assumption | omega | decide | exact zin_d (by assumption) (by omega) (by omega) | (simp only [zb01]; done)) only [s_M_stone_0, s_M_stone_1, s_M_stone_2, s_M_stone_5, s_M_stone_8, s_M_stone_9, s_M_stone_10, s_M_stone_13, s_M_stone_14, s_M_stone_15, s_M_stone_52, s_M_stone_53, s_M_stone_56, s_M_stone_57, s_M_stone_58, s_M_stone_59, s_M_stone_60, s_M_stone_63, s_M_stone_64, s_M_stone_65, s_M_stone_66, s_M_stone_67, s_M_stone_70, s_M_stone_71, s_M_stone_72, s_M_stone_73, s_M_stone_74, s_M_stone_75, s_M_stone_78, s_M_stone_79, s_M_stone_80, s_M_stone_81, s_M_stone_84, s_M_stone_85, s_M_stone_86, s_M_stone_87, s_M_stone_90, s_M_stone_91, s_M_stone_92, s_M_stone_94, s_M_stone_97, zlt, zle, zeq, zclamp, zinc, zdec, zdi, zdr, zdl, zdn, zpi, zpn, if_true, if_false, ite_not, Bool.false_eq_true, ne_eq, not_true_eq_false, not_false_eq_true, true_and, and_true, Nat.add_assoc, Nat.reduceAdd, M_isStone_in hK hi, zift, ziff]
    refine M_lower hR ref2 (fun σ' h => ?_)
    simp (disch := first | assumption | omega | decide | exact zin_d (by assumption) (by omega) (by omega) | (simp only [zb01]; done)) only [s_M_stone_0, s_M_stone_1, s_M_stone_2, s_M_stone_5, s_M_stone_8, s_M_stone_9, s_M_stone_10, s_M_stone_13, s_M_stone_14, s_M_stone_15, s_M_stone_52, s_M_stone_53, s_M_stone_56, s_M_stone_57, s_M_stone_58, s_M_stone_59, s_M_stone_60, s_M_stone_63, s_M_stone_64, s_M_stone_65, s_M_stone_66, s_M_stone_67, s_M_stone_70, s_M_stone_71, s_M_stone_72, s_M_stone_73, s_M_stone_74, s_M_stone_75, s_M_stone_78, s_M_stone_79, s_M_stone_80, s_M_stone_81, s_M_stone_84, s_M_stone_85, s_M_stone_86, s_M_stone_87, s_M_stone_90, s_M_stone_91, s_M_stone_92, s_M_stone_94, s_M_stone_97, zlt, zle, zeq, zclamp, zinc, zdec, zdi, zdr, zdl, zdn, zpi, zpn, if_true, if_false, ite_not, Bool.false_eq_true, ne_eq, not_true_eq_false, not_false_eq_true, true_and, and_true, Nat.add_assoc, Nat.reduceAdd]
    exact hQ σ' h
  · rw [if_neg h] at hQ
    simp (disch := first | assumption | omega | decide | exact zin_d (by assumption) (by omega) (by omega) | (simp only [zb01]; done)) only [s_M_stone_0, s_M_stone_1, s_M_stone_2, s_M_stone_5, s_M_stone_8, s_M_stone_9, s_M_stone_10, s_M_stone_13, s_M_stone_14, s_M_stone_15, s_M_stone_52, s_M_stone_53, s_M_stone_56, s_M_stone_57, s_M_stone_58, s_M_stone_59, s_M_stone_60, s_M_stone_63, s_M_stone_64, s_M_stone_65, s_M_stone_66, s_M_stone_67, s_M_stone_70, s_M_stone_71, s_M_stone_72, s_M_stone_73, s_M_stone_74, s_M_stone_75, s_M_stone_78, s_M_stone_79, s_M_stone_80, s_M_stone_81, s_M_stone_84, s_M_stone_85, s_M_stone_86, s_M_stone_87, s_M_stone_90, s_M_stone_91, s_M_stone_92, s_M_stone_94, s_M_stone_97, zlt, zle, zeq, zclamp, zinc, zdec, zdi, zdr, zdl, zdn, zpi, zpn, if_true, if_false, ite_not, Bool.false_eq_true, ne_eq, not_true_eq_false, not_false_eq_true, true_and, and_true, Nat.add_assoc, Nat.reduceAdd, M_isStone hK, zift, ziff]
    refine M_lower hR ref1 (fun σ' h => ?_)
    simp (disch := first | assumption | omega | decide | exact zin_d (by assumption) (by omega) (by omega) | (simp only [zb01]; done)) only [s_M_stone_0, s_M_stone_1, s_M_stone_2, s_M_stone_5, s_M_stone_8, s_M_stone_9, s_M_stone_10, s_M_stone_13, s_M_stone_14, s_M_stone_15, s_M_stone_52, s_M_stone_53, s_M_stone_56, s_M_stone_57, s_M_stone_58, s_M_stone_59, s_M_stone_60, s_M_stone_63, s_M_stone_64, s_M_stone_65, s_M_stone_66, s_M_stone_67, s_M_stone_70, s_M_stone_71, s_M_stone_72, s_M_stone_73, s_M_stone_74, s_M_stone_75, s_M_stone_78, s_M_stone_79, s_M_stone_80, s_M_stone_81, s_M_stone_84, s_M_stone_85, s_M_stone_86, s_M_stone_87, s_M_stone_90, s_M_stone_91, s_M_stone_92, s_M_stone_94, s_M_stone_97, zlt, zle, zeq, zclamp, zinc, zdec, zdi, zdr, zdl, zdn, zpi, zpn, if_true, if_false, ite_not, Bool.false_eq_true, ne_eq, not_true_eq_false, not_false_eq_true, true_and, and_true, Nat.add_assoc, Nat.reduceAdd]
    exact hQ σ' h
theorem M_stands (hR : WX σ a) (hQ : ∀ σ', WX σ' (c_stands a w).2 → Q (some (.int (c_stands a w).1)) σ') : Ev zshM 215 0 [some (.ref 0), some (.int w)] [] σ Q := by
  have hK := hR.1.1.1
  have hok := hR.1.2.1
  have h12 := hok.1.1
  have hF : Fok _ _ := hok.1.F
  have hn := hK.2.1
  have hA := hK.2.2
  have z2 : zshM 2 = 100 + 13 := rfl
  have z3 : zshM 3 = 100 + 13 := rfl
  have z4 : zshM 4 = 100 + 13 := rfl
  rw [c_stands] at hQ
  by_cases w0 : w = 0
  · subst w0
    rw [if_pos rfl] at hQ
    simp (disch := first | assumption | omega | decide | exact zin_d (by assumption) (by omega) (by omega) | (simp only [zb01]; done)) only [s_M_stands_0, s_M_stands_1, s_M_stands_28, s_M_stands_29, s_M_stands_32, s_M_stands_35, s_M_stands_36, s_M_stands_39, s_M_stands_40, s_M_stands_41, s_M_stands_42, s_M_stands_45, s_M_stands_46, s_M_stands_47, s_M_stands_50, s_M_stands_51, s_M_stands_52, s_M_stands_54, s_M_stands_57, zlt, zle, zeq, zclamp, zinc, zdec, zdi, zdr, zdl, zdn, zpi, zpn, if_true, if_false, ite_not, Bool.false_eq_true, ne_eq, not_true_eq_false, not_false_eq_true, true_and, and_true, Nat.add_assoc, Nat.reduceAdd, zlt, M_isUpright hK hF, zQi (Q := Q), if_flip, zift, ziff]
    exact hQ σ hR
  rw [if_neg w0] at hQ
  by_cases w1 : w = 1
  · subst w1
    rw [if_pos rfl] at hQ
    simp (disch := first | assumption | omega | decide | exact zin_d (by assumption) (by omega) (by omega) | (simp only [zb01]; done)) only [s_M_stands_0, s_M_stands_1, s_M_stands_28, s_M_stands_29, s_M_stands_32, s_M_stands_35, s_M_stands_36, s_M_stands_39, s_M_stands_40, s_M_stands_41, s_M_stands_42, s_M_stands_45, s_M_stands_46, s_M_stands_47, s_M_stands_50, s_M_stands_51, s_M_stands_52, s_M_stands_54, s_M_stands_57, zlt, zle, zeq, zclamp, zinc, zdec, zdi, zdr, zdl, zdn, zpi, zpn, if_true, if_false, ite_not, Bool.false_eq_true, ne_eq, not_true_eq_false, not_false_eq_true, true_and, and_true, Nat.add_assoc, Nat.reduceAdd, zlt, M_breaksAt hK hF, zift, ziff]
    exact hQ σ hR
  rw [if_neg w1] at hQ
  by_cases w2 : w = 2
  · subst w2
    rw [if_pos rfl] at hQ
    simp (disch := first | assumption | omega | decide | exact zin_d (by assumption) (by omega) (by omega) | (simp only [zb01]; done)) only [s_M_stands_0, s_M_stands_1, s_M_stands_28, s_M_stands_29, s_M_stands_32, s_M_stands_35, s_M_stands_36, s_M_stands_39, s_M_stands_40, s_M_stands_41, s_M_stands_42, s_M_stands_45, s_M_stands_46, s_M_stands_47, s_M_stands_50, s_M_stands_51, s_M_stands_52, s_M_stands_54, s_M_stands_57, zlt, zle, zeq, zclamp, zinc, zdec, zdi, zdr, zdl, zdn, zpi, zpn, if_true, if_false, ite_not, Bool.false_eq_true, ne_eq, not_true_eq_false, not_false_eq_true, true_and, and_true, Nat.add_assoc, Nat.reduceAdd, zlt, M_leansAt hK, zift, ziff]
    exact hQ σ hR
  rw [if_neg w2] at hQ
  simp (disch := first | assumption | omega | decide | exact zin_d (by assumption) (by omega) (by omega) | (simp only [zb01]; done)) only [s_M_stands_0, s_M_stands_1, s_M_stands_28, s_M_stands_29, s_M_stands_32, s_M_stands_35, s_M_stands_36, s_M_stands_39, s_M_stands_40, s_M_stands_41, s_M_stands_42, s_M_stands_45, s_M_stands_46, s_M_stands_47, s_M_stands_50, s_M_stands_51, s_M_stands_52, s_M_stands_54, s_M_stands_57, zlt, zle, zeq, zclamp, zinc, zdec, zdi, zdr, zdl, zdn, zpi, zpn, if_true, if_false, ite_not, Bool.false_eq_true, ne_eq, not_true_eq_false, not_false_eq_true, true_and, and_true, Nat.add_assoc, Nat.reduceAdd, zlt, zift, ziff]
  refine M_no hR ref2 (fun σ' h => ?_)
  simp (disch := first | assumption | omega | decide | exact zin_d (by assumption) (by omega) (by omega) | (simp only [zb01]; done)) only [s_M_stands_0, s_M_stands_1, s_M_stands_28, s_M_stands_29, s_M_stands_32, s_M_stands_35, s_M_stands_36, s_M_stands_39, s_M_stands_40, s_M_stands_41, s_M_stands_42, s_M_stands_45, s_M_stands_46, s_M_stands_47, s_M_stands_50, s_M_stands_51, s_M_stands_52, s_M_stands_54, s_M_stands_57, zlt, zle, zeq, zclamp, zinc, zdec, zdi, zdr, zdl, zdn, zpi, zpn, if_true, if_false, ite_not, Bool.false_eq_true, ne_eq, not_true_eq_false, not_false_eq_true, true_and, and_true, Nat.add_assoc, Nat.reduceAdd]
  exact hQ σ' h
theorem M_keystoneC (hR : WX σ a) (hQ : ∀ σ', WX σ' (c_keystone a).2 → Q (some (.int (c_keystone a).1)) σ') : Ev zshM 230 0 [some (.ref 0), none, none] [] σ Q := by
  rw [M_keystone hR.1.1.1]
  exact hQ σ hR
theorem M_mortarC (hR : WX σ a) (hQ : ∀ σ', WX σ' (c_mortar a).2 → Q (some (.int (c_mortar a).1)) σ') : Ev zshM 231 0 [some (.ref 0), none, none] [] σ Q := by
  rw [M_mortar hR.1.1.1 hR.1.2.1.1.F]
  exact hQ σ hR
end
