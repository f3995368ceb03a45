section
variable {σ : zG} {Q : Option Value → zG → Prop} {a : At} {x y z m w v k f : Int32} {β : Bt} {i j n o many rn : Nat} {K F L rf : SF}
theorem M_longestRun (hW : WK σ n K F L) : Ev zshM 227 0 [some (.ref 0), none, none, none] [] σ Q = Q (some (.int (if n = 0 then 0 else (runL L (n - 1)).2))) σ := by
  obtain ⟨hN, hn, hA⟩ := hW
  have z4 : zshM 4 = 100 + 13 := rfl
  simp (disch := first | assumption | omega | decide | exact zin_d (by assumption) (by omega) (by omega) | (simp only [zb01]; done)) only [s_M_longestRun_0, s_M_longestRun_1, s_M_longestRun_2, s_M_longestRun_3, s_M_longestRun_4, s_M_longestRun_5, s_M_longestRun_7, s_M_longestRun_8, s_M_longestRun_11, s_M_longestRun_14, s_M_longestRun_15, s_M_longestRun_18, s_M_longestRun_19, s_M_longestRun_22, s_M_longestRun_23, s_M_longestRun_24, s_M_longestRun_25, s_M_longestRun_28, s_M_longestRun_29, s_M_longestRun_30, s_M_longestRun_31, s_M_longestRun_32, s_M_longestRun_35, s_M_longestRun_36, s_M_longestRun_37, s_M_longestRun_38, s_M_longestRun_41, s_M_longestRun_42, s_M_longestRun_43, s_M_longestRun_44, s_M_longestRun_45, s_M_longestRun_48, s_M_longestRun_49, s_M_longestRun_52, s_M_longestRun_53, s_M_longestRun_54, s_M_longestRun_57, s_M_longestRun_60, s_M_longestRun_61, zlt, zle, zeq, zclamp, zinc, zdec, zdi, zdr, zdl, zdn, zpi, zpn, if_true, if_false, ite_not, Bool.false_eq_true, ne_eq, not_true_eq_false, not_false_eq_true, true_and, and_true, Nat.add_assoc, Nat.reduceAdd]
  by_cases h0 : n = 0
  · subst h0
    rw [if_pos rfl]
    show Ev zshM 227 6 [some (.ref 0), some (.int 0), some (.int 0), some (.int (nI 0))] [] σ Q = _
    rw [s_M_longestRun_6]
    simp (disch := first | assumption | omega | decide | exact zin_d (by assumption) (by omega) (by omega) | (simp only [zb01]; done)) only [s_M_longestRun_0, s_M_longestRun_1, s_M_longestRun_2, s_M_longestRun_3, s_M_longestRun_4, s_M_longestRun_5, s_M_longestRun_7, s_M_longestRun_8, s_M_longestRun_11, s_M_longestRun_14, s_M_longestRun_15, s_M_longestRun_18, s_M_longestRun_19, s_M_longestRun_22, s_M_longestRun_23, s_M_longestRun_24, s_M_longestRun_25, s_M_longestRun_28, s_M_longestRun_29, s_M_longestRun_30, s_M_longestRun_31, s_M_longestRun_32, s_M_longestRun_35, s_M_longestRun_36, s_M_longestRun_37, s_M_longestRun_38, s_M_longestRun_41, s_M_longestRun_42, s_M_longestRun_43, s_M_longestRun_44, s_M_longestRun_45, s_M_longestRun_48, s_M_longestRun_49, s_M_longestRun_52, s_M_longestRun_53, s_M_longestRun_54, s_M_longestRun_57, s_M_longestRun_60, s_M_longestRun_61, zlt, zle, zeq, zclamp, zinc, zdec, zdi, zdr, zdl, zdn, zpi, zpn, if_true, if_false, ite_not, Bool.false_eq_true, ne_eq, not_true_eq_false, not_false_eq_true, true_and, and_true, Nat.add_assoc, Nat.reduceAdd, hn, zift]
  · rw [if_neg h0]
    have hn1 : ¬ n ≤ 0 := by omega
    have l1 : ¬ (1 : Int32) ≤ 0 := by decide
    have first : Ev zshM 227 6 [some (.ref 0), some (.int 0), some (.int 0), some (.int (nI 0))] [] σ Q = Ev zshM 227 6 [some (.ref 0), some (.int (runL L 0).2), some (.int (runL L 0).1), some (.int (nI (0 + 1)))] [] σ Q := by
      have g0 : nI 0 ≤ 0 := by decide
      rw [s_M_longestRun_6]
      simp (disch := first | assumption | omega | decide | exact zin_d (by assumption) (by omega) (by omega) | (simp only [zb01]; done)) only [s_M_longestRun_0, s_M_longestRun_1, s_M_longestRun_2, s_M_longestRun_3, s_M_longestRun_4, s_M_longestRun_5, s_M_longestRun_7, s_M_longestRun_8, s_M_longestRun_11, s_M_longestRun_14, s_M_longestRun_15, s_M_longestRun_18, s_M_longestRun_19, s_M_longestRun_22, s_M_longestRun_23, s_M_longestRun_24, s_M_longestRun_25, s_M_longestRun_28, s_M_longestRun_29, s_M_longestRun_30, s_M_longestRun_31, s_M_longestRun_32, s_M_longestRun_35, s_M_longestRun_36, s_M_longestRun_37, s_M_longestRun_38, s_M_longestRun_41, s_M_longestRun_42, s_M_longestRun_43, s_M_longestRun_44, s_M_longestRun_45, s_M_longestRun_48, s_M_longestRun_49, s_M_longestRun_52, s_M_longestRun_53, s_M_longestRun_54, s_M_longestRun_57, s_M_longestRun_60, s_M_longestRun_61, zlt, zle, zeq, zclamp, zinc, zdec, zdi, zdr, zdl, zdn, zpi, zpn, if_true, if_false, ite_not, Bool.false_eq_true, ne_eq, not_true_eq_false, not_false_eq_true, true_and, and_true, Nat.add_assoc, Nat.reduceAdd, hn, zift, ziff]
      rfl
    refine first.trans ?_
    refine loopE (N := n - 1) (fun j => Ev zshM 227 6 [some (.ref 0), some (.int (runL L j).2), some (.int (runL L j).1), some (.int (nI (j + 1)))] [] σ Q) (fun j hj => ?_) ?_ 0 (by omega)
    · have hj13 : j < 13 := by omega
      have hj113 : j + 1 < 13 := by omega
      have eL := (hA j (by omega)).2.2
      have eL1 := (hA (j + 1) (by omega)).2.2
      have p0 : ¬ nI (j + 1) ≤ 0 := by rw [Int32.not_le]; exact (zlt (a := 0) (by omega) (by omega)).mpr (by omega)
      have hjn : ¬ n ≤ j + 1 := by omega
      rw [s_M_longestRun_6, runL]
      by_cases h : L j = L (j + 1)
      · have h' := h.symm
        rw [if_pos h]
        by_cases h2 : (runL L j).2 < (runL L j).1 + 1
        · have h2' := Int32.not_le.mpr h2
          rw [if_pos h2]
          simp (disch := first | assumption | omega | decide | exact zin_d (by assumption) (by omega) (by omega) | (simp only [zb01]; done)) only [s_M_longestRun_0, s_M_longestRun_1, s_M_longestRun_2, s_M_longestRun_3, s_M_longestRun_4, s_M_longestRun_5, s_M_longestRun_7, s_M_longestRun_8, s_M_longestRun_11, s_M_longestRun_14, s_M_longestRun_15, s_M_longestRun_18, s_M_longestRun_19, s_M_longestRun_22, s_M_longestRun_23, s_M_longestRun_24, s_M_longestRun_25, s_M_longestRun_28, s_M_longestRun_29, s_M_longestRun_30, s_M_longestRun_31, s_M_longestRun_32, s_M_longestRun_35, s_M_longestRun_36, s_M_longestRun_37, s_M_longestRun_38, s_M_longestRun_41, s_M_longestRun_42, s_M_longestRun_43, s_M_longestRun_44, s_M_longestRun_45, s_M_longestRun_48, s_M_longestRun_49, s_M_longestRun_52, s_M_longestRun_53, s_M_longestRun_54, s_M_longestRun_57, s_M_longestRun_60, s_M_longestRun_61, zlt, zle, zeq, zclamp, zinc, zdec, zdi, zdr, zdl, zdn, zpi, zpn, if_true, if_false, ite_not, Bool.false_eq_true, ne_eq, not_true_eq_false, not_false_eq_true, true_and, and_true, Nat.add_assoc, Nat.reduceAdd, hn, nI_pred, Nat.add_sub_cancel, eL, eL1, zift, ziff]
        · have h2' := Int32.not_lt.mp h2
          rw [if_neg h2]
          simp (disch := first | assumption | omega | decide | exact zin_d (by assumption) (by omega) (by omega) | (simp only [zb01]; done)) only [s_M_longestRun_0, s_M_longestRun_1, s_M_longestRun_2, s_M_longestRun_3, s_M_longestRun_4, s_M_longestRun_5, s_M_longestRun_7, s_M_longestRun_8, s_M_longestRun_11, s_M_longestRun_14, s_M_longestRun_15, s_M_longestRun_18, s_M_longestRun_19, s_M_longestRun_22, s_M_longestRun_23, s_M_longestRun_24, s_M_longestRun_25, s_M_longestRun_28, s_M_longestRun_29, s_M_longestRun_30, s_M_longestRun_31, s_M_longestRun_32, s_M_longestRun_35, s_M_longestRun_36, s_M_longestRun_37, s_M_longestRun_38, s_M_longestRun_41, s_M_longestRun_42, s_M_longestRun_43, s_M_longestRun_44, s_M_longestRun_45, s_M_longestRun_48, s_M_longestRun_49, s_M_longestRun_52, s_M_longestRun_53, s_M_longestRun_54, s_M_longestRun_57, s_M_longestRun_60, s_M_longestRun_61, zlt, zle, zeq, zclamp, zinc, zdec, zdi, zdr, zdl, zdn, zpi, zpn, if_true, if_false, ite_not, Bool.false_eq_true, ne_eq, not_true_eq_false, not_false_eq_true, true_and, and_true, Nat.add_assoc, Nat.reduceAdd, hn, nI_pred, Nat.add_sub_cancel, eL, eL1, zift, ziff]
      · have h' : ¬ L (j + 1) = L j := fun e => h e.symm
        rw [if_neg h]
        by_cases h2 : (runL L j).2 < 1
        · have h2' := Int32.not_le.mpr h2
          rw [if_pos h2]
          simp (disch := first | assumption | omega | decide | exact zin_d (by assumption) (by omega) (by omega) | (simp only [zb01]; done)) only [s_M_longestRun_0, s_M_longestRun_1, s_M_longestRun_2, s_M_longestRun_3, s_M_longestRun_4, s_M_longestRun_5, s_M_longestRun_7, s_M_longestRun_8, s_M_longestRun_11, s_M_longestRun_14, s_M_longestRun_15, s_M_longestRun_18, s_M_longestRun_19, s_M_longestRun_22, s_M_longestRun_23, s_M_longestRun_24, s_M_longestRun_25, s_M_longestRun_28, s_M_longestRun_29, s_M_longestRun_30, s_M_longestRun_31, s_M_longestRun_32, s_M_longestRun_35, s_M_longestRun_36, s_M_longestRun_37, s_M_longestRun_38, s_M_longestRun_41, s_M_longestRun_42, s_M_longestRun_43, s_M_longestRun_44, s_M_longestRun_45, s_M_longestRun_48, s_M_longestRun_49, s_M_longestRun_52, s_M_longestRun_53, s_M_longestRun_54, s_M_longestRun_57, s_M_longestRun_60, s_M_longestRun_61, zlt, zle, zeq, zclamp, zinc, zdec, zdi, zdr, zdl, zdn, zpi, zpn, if_true, if_false, ite_not, Bool.false_eq_true, ne_eq, not_true_eq_false, not_false_eq_true, true_and, and_true, Nat.add_assoc, Nat.reduceAdd, hn, nI_pred, Nat.add_sub_cancel, eL, eL1, zift, ziff]
        · have h2' := Int32.not_lt.mp h2
          rw [if_neg h2]
          simp (disch := first | assumption | omega | decide | exact zin_d (by assumption) (by omega) (by omega) | (simp only [zb01]; done)) only [s_M_longestRun_0, s_M_longestRun_1, s_M_longestRun_2, s_M_longestRun_3, s_M_longestRun_4, s_M_longestRun_5, s_M_longestRun_7, s_M_longestRun_8, s_M_longestRun_11, s_M_longestRun_14, s_M_longestRun_15, s_M_longestRun_18, s_M_longestRun_19, s_M_longestRun_22, s_M_longestRun_23, s_M_longestRun_24, s_M_longestRun_25, s_M_longestRun_28, s_M_longestRun_29, s_M_longestRun_30, s_M_longestRun_31, s_M_longestRun_32, s_M_longestRun_35, s_M_longestRun_36, s_M_longestRun_37, s_M_longestRun_38, s_M_longestRun_41, s_M_longestRun_42, s_M_longestRun_43, s_M_longestRun_44, s_M_longestRun_45, s_M_longestRun_48, s_M_longestRun_49, s_M_longestRun_52, s_M_longestRun_53, s_M_longestRun_54, s_M_longestRun_57, s_M_longestRun_60, s_M_longestRun_61, zlt, zle, zeq, zclamp, zinc, zdec, zdi, zdr, zdl, zdn, zpi, zpn, if_true, if_false, ite_not, Bool.false_eq_true, ne_eq, not_true_eq_false, not_false_eq_true, true_and, and_true, Nat.add_assoc, Nat.reduceAdd, hn, nI_pred, Nat.add_sub_cancel, eL, eL1, zift, ziff]
    · rw [s_M_longestRun_6]
      simp (disch := first | assumption | omega | decide | exact zin_d (by assumption) (by omega) (by omega) | (simp only [zb01]; done)) only [s_M_longestRun_0, s_M_longestRun_1, s_M_longestRun_2, s_M_longestRun_3, s_M_longestRun_4, s_M_longestRun_5, s_M_longestRun_7, s_M_longestRun_8, s_M_longestRun_11, s_M_longestRun_14, s_M_longestRun_15, s_M_longestRun_18, s_M_longestRun_19, s_M_longestRun_22, s_M_longestRun_23, s_M_longestRun_24, s_M_longestRun_25, s_M_longestRun_28, s_M_longestRun_29, s_M_longestRun_30, s_M_longestRun_31, s_M_longestRun_32, s_M_longestRun_35, s_M_longestRun_36, s_M_longestRun_37, s_M_longestRun_38, s_M_longestRun_41, s_M_longestRun_42, s_M_longestRun_43, s_M_longestRun_44, s_M_longestRun_45, s_M_longestRun_48, s_M_longestRun_49, s_M_longestRun_52, s_M_longestRun_53, s_M_longestRun_54, s_M_longestRun_57, s_M_longestRun_60, s_M_longestRun_61, zlt, zle, zeq, zclamp, zinc, zdec, zdi, zdr, zdl, zdn, zpi, zpn, if_true, if_false, ite_not, Bool.false_eq_true, ne_eq, not_true_eq_false, not_false_eq_true, true_and, and_true, Nat.add_assoc, Nat.reduceAdd, hn, zift, ziff]
theorem M_runs (hR : WX σ a) (hQ : ∀ σ', WX σ' (c_runs a w).2 → Q (some (.int (c_runs a w).1)) σ') : Ev zshM 228 0 [some (.ref 0), some (.int w), none, none, none] [] σ Q := by
  have hK := hR.1.1.1
  have h12 := hR.1.2.1.1.1
  have hn := hK.2.1
  have hA := hK.2.2
  have z2 : zshM 2 = 100 + 13 := rfl
  have z4 : zshM 4 = 100 + 13 := rfl
  rw [c_runs] at hQ
  by_cases w0 : w = 0
  · subst w0
    rw [if_pos rfl] at hQ
    have hb : btw 0 0 2 = true := rfl
    have body : ∀ c, Ev zshM 228 45 [some (.ref 0), some (.int 0), some (.int c), some (.int 1), none] [] σ Q = Q (some (.int (c + twos a.1.1.2.2.2 (a.1.1.1 - 1)))) σ := by
      intro c
      have key := loopA (α := Option Value) (N := a.1.1.1 - 1) (fun o4 j => Ev zshM 228 45 [some (.ref 0), some (.int 0), some (.int (c + twos a.1.1.2.2.2 j)), some (.int (nI (j + 1))), o4] [] σ Q) (R := Q (some (.int (c + twos a.1.1.2.2.2 (a.1.1.1 - 1)))) σ) (fun o4 j hj => ?_) (fun o4 => ?_) 0 none (by omega)
      · rw [show c + twos a.1.1.2.2.2 0 = c from zadd0 c] at key
        exact key
      · have hj13 : j < 13 := by omega
        have hj113 : j + 1 < 13 := by omega
        have eL := (hA j (by omega)).2.2
        have eL1 := (hA (j + 1) (by omega)).2.2
        have hjn : ¬ a.1.1.1 ≤ j + 1 := by omega
        by_cases h : a.1.1.2.2.2 j = a.1.1.2.2.2 (j + 1)
        · have h' := h.symm
          refine ⟨some (.int 0), ?_⟩
          rw [s_M_runs_45, twos, if_pos h]
          simp (disch := first | assumption | omega | decide | exact zin_d (by assumption) (by omega) (by omega) | (simp only [zb01]; done)) only [s_M_runs_0, s_M_runs_1, s_M_runs_2, s_M_runs_3, s_M_runs_6, s_M_runs_9, s_M_runs_10, s_M_runs_12, s_M_runs_15, s_M_runs_16, s_M_runs_17, s_M_runs_18, s_M_runs_21, s_M_runs_22, s_M_runs_25, s_M_runs_26, s_M_runs_27, s_M_runs_30, s_M_runs_31, s_M_runs_34, s_M_runs_37, s_M_runs_38, s_M_runs_41, s_M_runs_42, s_M_runs_43, s_M_runs_44, s_M_runs_46, s_M_runs_47, s_M_runs_50, s_M_runs_53, s_M_runs_54, s_M_runs_57, s_M_runs_58, s_M_runs_59, s_M_runs_60, s_M_runs_63, s_M_runs_64, s_M_runs_65, s_M_runs_66, s_M_runs_67, s_M_runs_70, s_M_runs_71, s_M_runs_74, s_M_runs_75, s_M_runs_77, s_M_runs_78, s_M_runs_80, s_M_runs_83, s_M_runs_84, s_M_runs_87, s_M_runs_88, s_M_runs_91, s_M_runs_92, s_M_runs_93, s_M_runs_94, s_M_runs_97, s_M_runs_98, s_M_runs_99, s_M_runs_100, s_M_runs_101, s_M_runs_104, s_M_runs_105, s_M_runs_108, s_M_runs_109, s_M_runs_110, s_M_runs_111, s_M_runs_114, s_M_runs_117, s_M_runs_118, zlt, zle, zeq, zclamp, zinc, zdec, zdi, zdr, zdl, zdn, zpi, zpn, if_true, if_false, ite_not, Bool.false_eq_true, ne_eq, not_true_eq_false, not_false_eq_true, true_and, and_true, Nat.add_assoc, Nat.reduceAdd, hn, nI_pred, Nat.add_sub_cancel, eL, eL1, Int32.add_assoc, zift, ziff]
        · have h' : ¬ a.1.1.2.2.2 (j + 1) = a.1.1.2.2.2 j := fun e => h e.symm
          refine ⟨some (.int 1), ?_⟩
          rw [s_M_runs_45, twos, if_neg h]
          simp (disch := first | assumption | omega | decide | exact zin_d (by assumption) (by omega) (by omega) | (simp only [zb01]; done)) only [s_M_runs_0, s_M_runs_1, s_M_runs_2, s_M_runs_3, s_M_runs_6, s_M_runs_9, s_M_runs_10, s_M_runs_12, s_M_runs_15, s_M_runs_16, s_M_runs_17, s_M_runs_18, s_M_runs_21, s_M_runs_22, s_M_runs_25, s_M_runs_26, s_M_runs_27, s_M_runs_30, s_M_runs_31, s_M_runs_34, s_M_runs_37, s_M_runs_38, s_M_runs_41, s_M_runs_42, s_M_runs_43, s_M_runs_44, s_M_runs_46, s_M_runs_47, s_M_runs_50, s_M_runs_53, s_M_runs_54, s_M_runs_57, s_M_runs_58, s_M_runs_59, s_M_runs_60, s_M_runs_63, s_M_runs_64, s_M_runs_65, s_M_runs_66, s_M_runs_67, s_M_runs_70, s_M_runs_71, s_M_runs_74, s_M_runs_75, s_M_runs_77, s_M_runs_78, s_M_runs_80, s_M_runs_83, s_M_runs_84, s_M_runs_87, s_M_runs_88, s_M_runs_91, s_M_runs_92, s_M_runs_93, s_M_runs_94, s_M_runs_97, s_M_runs_98, s_M_runs_99, s_M_runs_100, s_M_runs_101, s_M_runs_104, s_M_runs_105, s_M_runs_108, s_M_runs_109, s_M_runs_110, s_M_runs_111, s_M_runs_114, s_M_runs_117, s_M_runs_118, zlt, zle, zeq, zclamp, zinc, zdec, zdi, zdr, zdl, zdn, zpi, zpn, if_true, if_false, ite_not, Bool.false_eq_true, ne_eq, not_true_eq_false, not_false_eq_true, true_and, and_true, Nat.add_assoc, Nat.reduceAdd, hn, nI_pred, Nat.add_sub_cancel, eL, eL1, Int32.add_assoc, zift, ziff]
      · have hjn : a.1.1.1 ≤ a.1.1.1 - 1 + 1 := by omega
        rw [s_M_runs_45]
        simp (disch := first | assumption | omega | decide | exact zin_d (by assumption) (by omega) (by omega) | (simp only [zb01]; done)) only [s_M_runs_0, s_M_runs_1, s_M_runs_2, s_M_runs_3, s_M_runs_6, s_M_runs_9, s_M_runs_10, s_M_runs_12, s_M_runs_15, s_M_runs_16, s_M_runs_17, s_M_runs_18, s_M_runs_21, s_M_runs_22, s_M_runs_25, s_M_runs_26, s_M_runs_27, s_M_runs_30, s_M_runs_31, s_M_runs_34, s_M_runs_37, s_M_runs_38, s_M_runs_41, s_M_runs_42, s_M_runs_43, s_M_runs_44, s_M_runs_46, s_M_runs_47, s_M_runs_50, s_M_runs_53, s_M_runs_54, s_M_runs_57, s_M_runs_58, s_M_runs_59, s_M_runs_60, s_M_runs_63, s_M_runs_64, s_M_runs_65, s_M_runs_66, s_M_runs_67, s_M_runs_70, s_M_runs_71, s_M_runs_74, s_M_runs_75, s_M_runs_77, s_M_runs_78, s_M_runs_80, s_M_runs_83, s_M_runs_84, s_M_runs_87, s_M_runs_88, s_M_runs_91, s_M_runs_92, s_M_runs_93, s_M_runs_94, s_M_runs_97, s_M_runs_98, s_M_runs_99, s_M_runs_100, s_M_runs_101, s_M_runs_104, s_M_runs_105, s_M_runs_108, s_M_runs_109, s_M_runs_110, s_M_runs_111, s_M_runs_114, s_M_runs_117, s_M_runs_118, zlt, zle, zeq, zclamp, zinc, zdec, zdi, zdr, zdl, zdn, zpi, zpn, if_true, if_false, ite_not, Bool.false_eq_true, ne_eq, not_true_eq_false, not_false_eq_true, true_and, and_true, Nat.add_assoc, Nat.reduceAdd, hn, zift, ziff]
    have hq := hQ σ hR
    by_cases h0 : a.1.1.1 = 0
    · rw [if_pos h0] at hq
      have g0 : a.1.1.1 ≤ 0 := by omega
      simp (disch := first | assumption | omega | decide | exact zin_d (by assumption) (by omega) (by omega) | (simp only [zb01]; done)) only [s_M_runs_0, s_M_runs_1, s_M_runs_2, s_M_runs_3, s_M_runs_6, s_M_runs_9, s_M_runs_10, s_M_runs_12, s_M_runs_15, s_M_runs_16, s_M_runs_17, s_M_runs_18, s_M_runs_21, s_M_runs_22, s_M_runs_25, s_M_runs_26, s_M_runs_27, s_M_runs_30, s_M_runs_31, s_M_runs_34, s_M_runs_37, s_M_runs_38, s_M_runs_41, s_M_runs_42, s_M_runs_43, s_M_runs_44, zlt, zle, zeq, zclamp, zinc, zdec, zdi, zdr, zdl, zdn, zpi, zpn, if_true, if_false, ite_not, Bool.false_eq_true, ne_eq, not_true_eq_false, not_false_eq_true, true_and, and_true, Nat.add_assoc, Nat.reduceAdd, zlL_0, zlR_0, zeL_0, zeR_0, zqL_0, zcl_0, M_isIn, hn, zift, ziff]
      rw [body]; exact hq
    · rw [if_neg h0] at hq
      have g0 : ¬ a.1.1.1 ≤ 0 := by omega
      simp (disch := first | assumption | omega | decide | exact zin_d (by assumption) (by omega) (by omega) | (simp only [zb01]; done)) only [s_M_runs_0, s_M_runs_1, s_M_runs_2, s_M_runs_3, s_M_runs_6, s_M_runs_9, s_M_runs_10, s_M_runs_12, s_M_runs_15, s_M_runs_16, s_M_runs_17, s_M_runs_18, s_M_runs_21, s_M_runs_22, s_M_runs_25, s_M_runs_26, s_M_runs_27, s_M_runs_30, s_M_runs_31, s_M_runs_34, s_M_runs_37, s_M_runs_38, s_M_runs_41, s_M_runs_42, s_M_runs_43, s_M_runs_44, zlt, zle, zeq, zclamp, zinc, zdec, zdi, zdr, zdl, zdn, zpi, zpn, if_true, if_false, ite_not, Bool.false_eq_true, ne_eq, not_true_eq_false, not_false_eq_true, true_and, and_true, Nat.add_assoc, Nat.reduceAdd, zlL_0, zlR_0, zeL_0, zeR_0, zqL_0, zcl_0, M_isIn, hn, zift, ziff]
      rw [body]; exact hq
  rw [if_neg w0] at hQ
  by_cases w1 : w = 1
  · subst w1
    rw [if_pos rfl] at hQ
    have hb : btw 1 0 2 = true := rfl
    simp (disch := first | assumption | omega | decide | exact zin_d (by assumption) (by omega) (by omega) | (simp only [zb01]; done)) only [s_M_runs_0, s_M_runs_1, s_M_runs_2, s_M_runs_3, s_M_runs_6, s_M_runs_9, s_M_runs_10, s_M_runs_12, s_M_runs_15, s_M_runs_16, s_M_runs_17, s_M_runs_18, s_M_runs_21, s_M_runs_22, s_M_runs_25, s_M_runs_26, s_M_runs_27, s_M_runs_30, s_M_runs_31, s_M_runs_34, s_M_runs_37, s_M_runs_38, s_M_runs_41, s_M_runs_42, s_M_runs_43, s_M_runs_44, zlt, zle, zeq, zclamp, zinc, zdec, zdi, zdr, zdl, zdn, zpi, zpn, if_true, if_false, ite_not, Bool.false_eq_true, ne_eq, not_true_eq_false, not_false_eq_true, true_and, and_true, Nat.add_assoc, Nat.reduceAdd, M_isIn, M_longestRun hK, zift, ziff]
    exact hQ σ hR
  rw [if_neg w1] at hQ
  by_cases w2 : w = 2
  · subst w2
    rw [if_pos rfl] at hQ
    have hb : btw 2 0 2 = true := rfl
    have body : Ev zshM 228 45 [some (.ref 0), some (.int 2), some (.int 0), some (.int 1), none] [] σ Q = Q (some (.int (agr a.1.1.2.1 a.1.1.2.2.2 (a.1.1.1 - 1)))) σ := by
      have key := loopA (α := Option Value) (N := a.1.1.1 - 1) (fun o4 j => Ev zshM 228 45 [some (.ref 0), some (.int 2), some (.int (agr a.1.1.2.1 a.1.1.2.2.2 j)), some (.int (nI (j + 1))), o4] [] σ Q) (R := Q (some (.int (agr a.1.1.2.1 a.1.1.2.2.2 (a.1.1.1 - 1)))) σ) (fun o4 j hj => ?_) (fun o4 => ?_) 0 none (by omega)
      · exact key
      · have hj13 : j < 13 := by omega
        have hj113 : j + 1 < 13 := by omega
        have eL := (hA j (by omega)).2.2
        have eL1 := (hA (j + 1) (by omega)).2.2
        have eK := (hA j (by omega)).1
        have eK1 := (hA (j + 1) (by omega)).1
        have hjn : ¬ a.1.1.1 ≤ j + 1 := by omega
        by_cases h : a.1.1.2.2.2 j = a.1.1.2.2.2 (j + 1)
        · have h' := h.symm
          have ea : agr a.1.1.2.1 a.1.1.2.2.2 (j + 1) = agr a.1.1.2.1 a.1.1.2.2.2 j + 0 := by
            rw [agr, if_pos h]; split <;> rfl
          refine ⟨some (.int 0), ?_⟩
          rw [s_M_runs_45, ea]
          simp (disch := first | assumption | omega | decide | exact zin_d (by assumption) (by omega) (by omega) | (simp only [zb01]; done)) only [s_M_runs_0, s_M_runs_1, s_M_runs_2, s_M_runs_3, s_M_runs_6, s_M_runs_9, s_M_runs_10, s_M_runs_12, s_M_runs_15, s_M_runs_16, s_M_runs_17, s_M_runs_18, s_M_runs_21, s_M_runs_22, s_M_runs_25, s_M_runs_26, s_M_runs_27, s_M_runs_30, s_M_runs_31, s_M_runs_34, s_M_runs_37, s_M_runs_38, s_M_runs_41, s_M_runs_42, s_M_runs_43, s_M_runs_44, s_M_runs_46, s_M_runs_47, s_M_runs_50, s_M_runs_53, s_M_runs_54, s_M_runs_57, s_M_runs_58, s_M_runs_59, s_M_runs_60, s_M_runs_63, s_M_runs_64, s_M_runs_65, s_M_runs_66, s_M_runs_67, s_M_runs_70, s_M_runs_71, s_M_runs_74, s_M_runs_75, s_M_runs_77, s_M_runs_78, s_M_runs_80, s_M_runs_83, s_M_runs_84, s_M_runs_87, s_M_runs_88, s_M_runs_91, s_M_runs_92, s_M_runs_93, s_M_runs_94, s_M_runs_97, s_M_runs_98, s_M_runs_99, s_M_runs_100, s_M_runs_101, s_M_runs_104, s_M_runs_105, s_M_runs_108, s_M_runs_109, s_M_runs_110, s_M_runs_111, s_M_runs_114, s_M_runs_117, s_M_runs_118, zlt, zle, zeq, zclamp, zinc, zdec, zdi, zdr, zdl, zdn, zpi, zpn, if_true, if_false, ite_not, Bool.false_eq_true, ne_eq, not_true_eq_false, not_false_eq_true, true_and, and_true, Nat.add_assoc, Nat.reduceAdd, hn, nI_pred, Nat.add_sub_cancel, eL, eL1, eK, eK1, zift, ziff]
        · have h' : ¬ a.1.1.2.2.2 (j + 1) = a.1.1.2.2.2 j := fun e => h e.symm
          refine ⟨some (.int 1), ?_⟩
          by_cases hk : a.1.1.2.1 j = a.1.1.2.1 (j + 1)
          · have hk' := hk.symm
            rw [s_M_runs_45, agr, if_pos hk, if_neg h]
            simp (disch := first | assumption | omega | decide | exact zin_d (by assumption) (by omega) (by omega) | (simp only [zb01]; done)) only [s_M_runs_0, s_M_runs_1, s_M_runs_2, s_M_runs_3, s_M_runs_6, s_M_runs_9, s_M_runs_10, s_M_runs_12, s_M_runs_15, s_M_runs_16, s_M_runs_17, s_M_runs_18, s_M_runs_21, s_M_runs_22, s_M_runs_25, s_M_runs_26, s_M_runs_27, s_M_runs_30, s_M_runs_31, s_M_runs_34, s_M_runs_37, s_M_runs_38, s_M_runs_41, s_M_runs_42, s_M_runs_43, s_M_runs_44, s_M_runs_46, s_M_runs_47, s_M_runs_50, s_M_runs_53, s_M_runs_54, s_M_runs_57, s_M_runs_58, s_M_runs_59, s_M_runs_60, s_M_runs_63, s_M_runs_64, s_M_runs_65, s_M_runs_66, s_M_runs_67, s_M_runs_70, s_M_runs_71, s_M_runs_74, s_M_runs_75, s_M_runs_77, s_M_runs_78, s_M_runs_80, s_M_runs_83, s_M_runs_84, s_M_runs_87, s_M_runs_88, s_M_runs_91, s_M_runs_92, s_M_runs_93, s_M_runs_94, s_M_runs_97, s_M_runs_98, s_M_runs_99, s_M_runs_100, s_M_runs_101, s_M_runs_104, s_M_runs_105, s_M_runs_108, s_M_runs_109, s_M_runs_110, s_M_runs_111, s_M_runs_114, s_M_runs_117, s_M_runs_118, zlt, zle, zeq, zclamp, zinc, zdec, zdi, zdr, zdl, zdn, zpi, zpn, if_true, if_false, ite_not, Bool.false_eq_true, ne_eq, not_true_eq_false, not_false_eq_true, true_and, and_true, Nat.add_assoc, Nat.reduceAdd, hn, nI_pred, Nat.add_sub_cancel, eL, eL1, eK, eK1, zift, ziff]
          · have hk' : ¬ a.1.1.2.1 (j + 1) = a.1.1.2.1 j := fun e => hk e.symm
            rw [s_M_runs_45, agr, if_neg hk]
            simp (disch := first | assumption | omega | decide | exact zin_d (by assumption) (by omega) (by omega) | (simp only [zb01]; done)) only [s_M_runs_0, s_M_runs_1, s_M_runs_2, s_M_runs_3, s_M_runs_6, s_M_runs_9, s_M_runs_10, s_M_runs_12, s_M_runs_15, s_M_runs_16, s_M_runs_17, s_M_runs_18, s_M_runs_21, s_M_runs_22, s_M_runs_25, s_M_runs_26, s_M_runs_27, s_M_runs_30, s_M_runs_31, s_M_runs_34, s_M_runs_37, s_M_runs_38, s_M_runs_41, s_M_runs_42, s_M_runs_43, s_M_runs_44, s_M_runs_46, s_M_runs_47, s_M_runs_50, s_M_runs_53, s_M_runs_54, s_M_runs_57, s_M_runs_58, s_M_runs_59, s_M_runs_60, s_M_runs_63, s_M_runs_64, s_M_runs_65, s_M_runs_66, s_M_runs_67, s_M_runs_70, s_M_runs_71, s_M_runs_74, s_M_runs_75, s_M_runs_77, s_M_runs_78, s_M_runs_80, s_M_runs_83, s_M_runs_84, s_M_runs_87, s_M_runs_88, s_M_runs_91, s_M_runs_92, s_M_runs_93, s_M_runs_94, s_M_runs_97, s_M_runs_98, s_M_runs_99, s_M_runs_100, s_M_runs_101, s_M_runs_104, s_M_runs_105, s_M_runs_108, s_M_runs_109, s_M_runs_110, s_M_runs_111, s_M_runs_114, s_M_runs_117, s_M_runs_118, zlt, zle, zeq, zclamp, zinc, zdec, zdi, zdr, zdl, zdn, zpi, zpn, if_true, if_false, ite_not, Bool.false_eq_true, ne_eq, not_true_eq_false, not_false_eq_true, true_and, and_true, Nat.add_assoc, Nat.reduceAdd, hn, nI_pred, Nat.add_sub_cancel, eL, eL1, eK, eK1, zift, ziff]
      · have hjn : a.1.1.1 ≤ a.1.1.1 - 1 + 1 := by omega
        rw [s_M_runs_45]
        simp (disch := first | assumption | omega | decide | exact zin_d (by assumption) (by omega) (by omega) | (simp only [zb01]; done)) only [s_M_runs_0, s_M_runs_1, s_M_runs_2, s_M_runs_3, s_M_runs_6, s_M_runs_9, s_M_runs_10, s_M_runs_12, s_M_runs_15, s_M_runs_16, s_M_runs_17, s_M_runs_18, s_M_runs_21, s_M_runs_22, s_M_runs_25, s_M_runs_26, s_M_runs_27, s_M_runs_30, s_M_runs_31, s_M_runs_34, s_M_runs_37, s_M_runs_38, s_M_runs_41, s_M_runs_42, s_M_runs_43, s_M_runs_44, s_M_runs_46, s_M_runs_47, s_M_runs_50, s_M_runs_53, s_M_runs_54, s_M_runs_57, s_M_runs_58, s_M_runs_59, s_M_runs_60, s_M_runs_63, s_M_runs_64, s_M_runs_65, s_M_runs_66, s_M_runs_67, s_M_runs_70, s_M_runs_71, s_M_runs_74, s_M_runs_75, s_M_runs_77, s_M_runs_78, s_M_runs_80, s_M_runs_83, s_M_runs_84, s_M_runs_87, s_M_runs_88, s_M_runs_91, s_M_runs_92, s_M_runs_93, s_M_runs_94, s_M_runs_97, s_M_runs_98, s_M_runs_99, s_M_runs_100, s_M_runs_101, s_M_runs_104, s_M_runs_105, s_M_runs_108, s_M_runs_109, s_M_runs_110, s_M_runs_111, s_M_runs_114, s_M_runs_117, s_M_runs_118, zlt, zle, zeq, zclamp, zinc, zdec, zdi, zdr, zdl, zdn, zpi, zpn, if_true, if_false, ite_not, Bool.false_eq_true, ne_eq, not_true_eq_false, not_false_eq_true, true_and, and_true, Nat.add_assoc, Nat.reduceAdd, hn, zift, ziff]
    simp (disch := first | assumption | omega | decide | exact zin_d (by assumption) (by omega) (by omega) | (simp only [zb01]; done)) only [s_M_runs_0, s_M_runs_1, s_M_runs_2, s_M_runs_3, s_M_runs_6, s_M_runs_9, s_M_runs_10, s_M_runs_12, s_M_runs_15, s_M_runs_16, s_M_runs_17, s_M_runs_18, s_M_runs_21, s_M_runs_22, s_M_runs_25, s_M_runs_26, s_M_runs_27, s_M_runs_30, s_M_runs_31, s_M_runs_34, s_M_runs_37, s_M_runs_38, s_M_runs_41, s_M_runs_42, s_M_runs_43, s_M_runs_44, zlt, zle, zeq, zclamp, zinc, zdec, zdi, zdr, zdl, zdn, zpi, zpn, if_true, if_false, ite_not, Bool.false_eq_true, ne_eq, not_true_eq_false, not_false_eq_true, true_and, and_true, Nat.add_assoc, Nat.reduceAdd, M_isIn, zift, ziff]
    rw [body]
    exact hQ σ hR
  rw [if_neg w2] at hQ
  have hb := btw02 w0 w1 w2
  simp (disch := first | assumption | omega | decide | exact zin_d (by assumption) (by omega) (by omega) | (simp only [zb01]; done)) only [s_M_runs_0, s_M_runs_1, s_M_runs_2, s_M_runs_3, s_M_runs_6, s_M_runs_9, s_M_runs_10, s_M_runs_12, s_M_runs_15, s_M_runs_16, s_M_runs_17, s_M_runs_18, s_M_runs_21, s_M_runs_22, s_M_runs_25, s_M_runs_26, s_M_runs_27, s_M_runs_30, s_M_runs_31, s_M_runs_34, s_M_runs_37, s_M_runs_38, s_M_runs_41, s_M_runs_42, s_M_runs_43, s_M_runs_44, zlt, zle, zeq, zclamp, zinc, zdec, zdi, zdr, zdl, zdn, zpi, zpn, if_true, if_false, ite_not, Bool.false_eq_true, ne_eq, not_true_eq_false, not_false_eq_true, true_and, and_true, Nat.add_assoc, Nat.reduceAdd, M_isIn, zift, ziff]
  refine M_no hR ref2 (fun σ' h => ?_)
  simp (disch := first | assumption | omega | decide | exact zin_d (by assumption) (by omega) (by omega) | (simp only [zb01]; done)) only [s_M_runs_0, s_M_runs_1, s_M_runs_2, s_M_runs_3, s_M_runs_6, s_M_runs_9, s_M_runs_10, s_M_runs_12, s_M_runs_15, s_M_runs_16, s_M_runs_17, s_M_runs_18, s_M_runs_21, s_M_runs_22, s_M_runs_25, s_M_runs_26, s_M_runs_27, s_M_runs_30, s_M_runs_31, s_M_runs_34, s_M_runs_37, s_M_runs_38, s_M_runs_41, s_M_runs_42, s_M_runs_43, s_M_runs_44, zlt, zle, zeq, zclamp, zinc, zdec, zdi, zdr, zdl, zdn, zpi, zpn, if_true, if_false, ite_not, Bool.false_eq_true, ne_eq, not_true_eq_false, not_false_eq_true, true_and, and_true, Nat.add_assoc, Nat.reduceAdd]
  exact hQ σ' h
def WTm (σ : zG) (rn : Nat) (rf : SF) : Prop := rn ≤ 16 ∧ σ 0 25 = nI rn ∧ ∀ i, i < rn → σ 14 i = rf i
theorem tell_zf : (zf (fun i => ¬ (i + 1 < n ∧ held K F L i = rf i)) 0 rn = -9) = (tellB n K F L rn rf = true) ∨ 1000 ≤ rn := by
  by_cases hr : rn < 1000
  · left
    rw [tellB_eq]
    refine propext ⟨fun h i hi => ?_, fun h => zf_no rn 0 (fun i _ hi z => z (h i (by omega)))⟩
    exact Classical.byContradiction (zf_all rn 0 (by omega) h i (by omega) (by omega))
  · right; omega
theorem M_isSo (hW : WK σ n K F L) (hF : Fok n F) (h1 : 1 ≤ n) (hT : WTm σ rn rf) : Ev zshM 248 0 [some (.ref 0), none] [] σ Q = Q (some (.int (if tellB n K F L rn rf = true then 1 else 0))) σ := by
  obtain ⟨h16, hr, hA⟩ := hT
  have hN := hW.1
  have hn := hW.2.1
  have z14 : zshM 14 = 100 + 16 := rfl
  have es : nI n - 1 = nI (n - 1) := zdec h1
  have et : (if tellB n K F L rn rf = true then (1 : Int32) else 0) = if zf (fun i => ¬ (i + 1 < n ∧ held K F L i = rf i)) 0 rn = -9 then 1 else 0 := by
    rcases tell_zf (n := n) (rn := rn) (K := K) (F := F) (L := L) (rf := rf) with h | h
    · simp only [h]
    · omega
  rw [et]
  simp (disch := first | assumption | omega | decide | exact zin_d (by assumption) (by omega) (by omega) | (simp only [zb01]; done)) only [s_M_isSo_0, s_M_isSo_1, s_M_isSo_3, s_M_isSo_4, s_M_isSo_7, s_M_isSo_10, s_M_isSo_11, s_M_isSo_12, s_M_isSo_15, s_M_isSo_16, s_M_isSo_17, s_M_isSo_20, s_M_isSo_21, s_M_isSo_22, s_M_isSo_25, s_M_isSo_26, s_M_isSo_29, s_M_isSo_30, s_M_isSo_31, s_M_isSo_34, s_M_isSo_35, s_M_isSo_36, s_M_isSo_39, s_M_isSo_42, s_M_isSo_43, zlt, zle, zeq, zclamp, zinc, zdec, zdi, zdr, zdl, zdn, zpi, zpn, if_true, if_false, ite_not, Bool.false_eq_true, ne_eq, not_true_eq_false, not_false_eq_true, true_and, and_true, Nat.add_assoc, Nat.reduceAdd]
  refine loopV (N := rn) (p := fun i => ¬ (i + 1 < n ∧ held K F L i = rf i)) (G := fun v => Q (some (.int (if v = -9 then 1 else 0))) σ) (fun j => Ev zshM 248 2 [some (.ref 0), some (.int (nI j))] [] σ Q) (fun j hj => ?_) ?_ 0 (by omega)
  · have hj16 : j < 16 := by omega
    have er := hA j hj
    have n9 : nI j ≠ -9 := nI_ne9 (by omega)
    rw [s_M_isSo_2]
    by_cases g1 : j + 1 < n
    · have g1' : ¬ n - 1 ≤ j := by omega
      by_cases g2 : held K F L j = rf j
      · have g3 : ¬ ¬ (j + 1 < n ∧ held K F L j = rf j) := fun z => z ⟨g1, g2⟩
        rw [if_neg g3]
        simp (disch := first | assumption | omega | decide | exact zin_d (by assumption) (by omega) (by omega) | (simp only [zb01]; done)) only [s_M_isSo_0, s_M_isSo_1, s_M_isSo_3, s_M_isSo_4, s_M_isSo_7, s_M_isSo_10, s_M_isSo_11, s_M_isSo_12, s_M_isSo_15, s_M_isSo_16, s_M_isSo_17, s_M_isSo_20, s_M_isSo_21, s_M_isSo_22, s_M_isSo_25, s_M_isSo_26, s_M_isSo_29, s_M_isSo_30, s_M_isSo_31, s_M_isSo_34, s_M_isSo_35, s_M_isSo_36, s_M_isSo_39, s_M_isSo_42, s_M_isSo_43, zlt, zle, zeq, zclamp, zinc, zdec, zdi, zdr, zdl, zdn, zpi, zpn, if_true, if_false, ite_not, Bool.false_eq_true, ne_eq, not_true_eq_false, not_false_eq_true, true_and, and_true, Nat.add_assoc, Nat.reduceAdd, hn, es, hr, er, M_jointHolds hW hF, zift, ziff]
      · have g3 : ¬ (j + 1 < n ∧ held K F L j = rf j) := fun z => g2 z.2
        rw [if_pos g3, if_neg n9]
        simp (disch := first | assumption | omega | decide | exact zin_d (by assumption) (by omega) (by omega) | (simp only [zb01]; done)) only [s_M_isSo_0, s_M_isSo_1, s_M_isSo_3, s_M_isSo_4, s_M_isSo_7, s_M_isSo_10, s_M_isSo_11, s_M_isSo_12, s_M_isSo_15, s_M_isSo_16, s_M_isSo_17, s_M_isSo_20, s_M_isSo_21, s_M_isSo_22, s_M_isSo_25, s_M_isSo_26, s_M_isSo_29, s_M_isSo_30, s_M_isSo_31, s_M_isSo_34, s_M_isSo_35, s_M_isSo_36, s_M_isSo_39, s_M_isSo_42, s_M_isSo_43, zlt, zle, zeq, zclamp, zinc, zdec, zdi, zdr, zdl, zdn, zpi, zpn, if_true, if_false, ite_not, Bool.false_eq_true, ne_eq, not_true_eq_false, not_false_eq_true, true_and, and_true, Nat.add_assoc, Nat.reduceAdd, hn, es, hr, er, M_jointHolds hW hF, zift, ziff]
    · have g1' : n - 1 ≤ j := by omega
      have g3 : ¬ (j + 1 < n ∧ held K F L j = rf j) := fun z => g1 z.1
      rw [if_pos g3, if_neg n9]
      simp (disch := first | assumption | omega | decide | exact zin_d (by assumption) (by omega) (by omega) | (simp only [zb01]; done)) only [s_M_isSo_0, s_M_isSo_1, s_M_isSo_3, s_M_isSo_4, s_M_isSo_7, s_M_isSo_10, s_M_isSo_11, s_M_isSo_12, s_M_isSo_15, s_M_isSo_16, s_M_isSo_17, s_M_isSo_20, s_M_isSo_21, s_M_isSo_22, s_M_isSo_25, s_M_isSo_26, s_M_isSo_29, s_M_isSo_30, s_M_isSo_31, s_M_isSo_34, s_M_isSo_35, s_M_isSo_36, s_M_isSo_39, s_M_isSo_42, s_M_isSo_43, zlt, zle, zeq, zclamp, zinc, zdec, zdi, zdr, zdl, zdn, zpi, zpn, if_true, if_false, ite_not, Bool.false_eq_true, ne_eq, not_true_eq_false, not_false_eq_true, true_and, and_true, Nat.add_assoc, Nat.reduceAdd, hn, es, hr, zift, ziff]
  · rw [s_M_isSo_2, if_pos rfl]
    simp (disch := first | assumption | omega | decide | exact zin_d (by assumption) (by omega) (by omega) | (simp only [zb01]; done)) only [s_M_isSo_0, s_M_isSo_1, s_M_isSo_3, s_M_isSo_4, s_M_isSo_7, s_M_isSo_10, s_M_isSo_11, s_M_isSo_12, s_M_isSo_15, s_M_isSo_16, s_M_isSo_17, s_M_isSo_20, s_M_isSo_21, s_M_isSo_22, s_M_isSo_25, s_M_isSo_26, s_M_isSo_29, s_M_isSo_30, s_M_isSo_31, s_M_isSo_34, s_M_isSo_35, s_M_isSo_36, s_M_isSo_39, s_M_isSo_42, s_M_isSo_43, zlt, zle, zeq, zclamp, zinc, zdec, zdi, zdr, zdl, zdn, zpi, zpn, if_true, if_false, ite_not, Bool.false_eq_true, ne_eq, not_true_eq_false, not_false_eq_true, true_and, and_true, Nat.add_assoc, Nat.reduceAdd, hr, zift, ziff]
theorem M_bitsFor {p : Nat → Bool} (ho : 2 ≤ o ∧ o ≤ 4) (hi : i < 13) (hm : many ≤ 10) (hs : ∀ σ1 v (Q' : Option Value → zG → Prop), v < many → (∀ k, k ≠ i → σ1 o k = σ o k) → σ1 o i = nI v → (∀ c, c ≠ o → σ1 c = σ c) → Ev zshM 248 0 [some (.ref 0), none] [] σ1 Q' = Q' (some (.int (if p v = true then 1 else 0))) σ1) (hQ : Q (some (.int (fitS p many))) σ) : Ev zshM 249 0 [some (.ref 0), some (.ref o), some (.int (nI i)), some (.int (nI many)), none, none, none] [] σ Q := by
  have zo : zshM o = 100 + 13 := by
    rcases (show o = 2 ∨ o = 3 ∨ o = 4 by omega) with rfl | rfl | rfl <;> rfl
  simp (disch := first | assumption | omega | decide | exact zin_d (by assumption) (by omega) (by omega) | (simp only [zb01]; done)) only [s_M_bitsFor_0, s_M_bitsFor_1, s_M_bitsFor_2, s_M_bitsFor_3, s_M_bitsFor_5, s_M_bitsFor_6, s_M_bitsFor_8, s_M_bitsFor_9, zlt, zle, zeq, zclamp, zinc, zdec, zdi, zdr, zdl, zdn, zpi, zpn, if_true, if_false, ite_not, Bool.false_eq_true, ne_eq, not_true_eq_false, not_false_eq_true, true_and, and_true, Nat.add_assoc, Nat.reduceAdd]
  refine loopI (α := Unit) (N := many) (fun _ σ1 j => Ev zshM 249 11 [some (.ref 0), some (.ref o), some (.int (nI i)), some (.int (nI many)), some (.int (σ o i)), some (.int (fitS p j)), some (.int (nI j))] [] σ1 Q) (fun _ σ1 => (∀ k, k ≠ i → σ1 o k = σ o k) ∧ ∀ c, c ≠ o → σ1 c = σ c) (fun _ j σ1 hj hp kk => ?_) (fun _ σ1 hp => ?_) 0 () σ (Nat.zero_le _) ⟨fun _ _ => rfl, fun _ _ => rfl⟩
  · obtain ⟨g1, g2⟩ := hp
    have q1 : ∀ k, k ≠ i → zup σ1 o i (nI j) o k = σ o k := fun k hk => by rw [zup_self, pk_un hk]; exact g1 k hk
    have q2 : zup σ1 o i (nI j) o i = nI j := by rw [zup_self, pk_us]
    have q3 : ∀ c, c ≠ o → zup σ1 o i (nI j) c = σ c := fun c hc => by rw [zup_ne hc]; exact g2 c hc
    have kk2 := kk () _ ⟨q1, q3⟩
    rw [s_M_bitsFor_11]
    simp (disch := first | assumption | omega | decide | exact zin_d (by assumption) (by omega) (by omega) | (simp only [zb01]; done)) only [s_M_bitsFor_13, s_M_bitsFor_14, s_M_bitsFor_17, s_M_bitsFor_18, s_M_bitsFor_19, s_M_bitsFor_21, s_M_bitsFor_22, s_M_bitsFor_24, s_M_bitsFor_25, zlt, zle, zeq, zclamp, zinc, zdec, zdi, zdr, zdl, zdn, zpi, zpn, if_true, if_false, ite_not, Bool.false_eq_true, ne_eq, not_true_eq_false, not_false_eq_true, true_and, and_true, Nat.add_assoc, Nat.reduceAdd, ziff]
    rw [hs _ j _ hj q1 q2 q3]
    rw [fitS] at kk2
    by_cases h : p j = true
    · rw [if_pos h] at kk2
      simp (disch := first | assumption | omega | decide | exact zin_d (by assumption) (by omega) (by omega) | (simp only [zb01]; done)) only [s_M_bitsFor_28, s_M_bitsFor_31, s_M_bitsFor_32, s_M_bitsFor_34, s_M_bitsFor_35, s_M_bitsFor_38, s_M_bitsFor_39, s_M_bitsFor_40, s_M_bitsFor_42, s_M_bitsFor_45, zlt, zle, zeq, zclamp, zinc, zdec, zdi, zdr, zdl, zdn, zpi, zpn, if_true, if_false, ite_not, Bool.false_eq_true, ne_eq, not_true_eq_false, not_false_eq_true, true_and, and_true, Nat.add_assoc, Nat.reduceAdd, zift, ziff]
      exact kk2
    · rw [if_neg h] at kk2
      simp (disch := first | assumption | omega | decide | exact zin_d (by assumption) (by omega) (by omega) | (simp only [zb01]; done)) only [s_M_bitsFor_28, s_M_bitsFor_31, s_M_bitsFor_32, s_M_bitsFor_34, s_M_bitsFor_35, s_M_bitsFor_38, s_M_bitsFor_39, s_M_bitsFor_40, s_M_bitsFor_42, s_M_bitsFor_45, zlt, zle, zeq, zclamp, zinc, zdec, zdi, zdr, zdl, zdn, zpi, zpn, if_true, if_false, ite_not, Bool.false_eq_true, ne_eq, not_true_eq_false, not_false_eq_true, true_and, and_true, Nat.add_assoc, Nat.reduceAdd, zift, ziff]
      exact kk2
  · obtain ⟨g1, g2⟩ := hp
    have e : zup σ1 o i (σ o i) = σ := by
      funext c
      by_cases hc : c = o
      · subst hc
        funext k
        rw [zup_self]
        by_cases hk : k = i
        · subst hk; rw [pk_us]
        · rw [pk_un hk]; exact g1 k hk
      · rw [zup_ne hc]; exact g2 c hc
    rw [s_M_bitsFor_11]
    simp (disch := first | assumption | omega | decide | exact zin_d (by assumption) (by omega) (by omega) | (simp only [zb01]; done)) only [s_M_bitsFor_0, s_M_bitsFor_1, s_M_bitsFor_2, s_M_bitsFor_3, s_M_bitsFor_5, s_M_bitsFor_6, s_M_bitsFor_8, s_M_bitsFor_9, s_M_bitsFor_13, s_M_bitsFor_14, s_M_bitsFor_17, s_M_bitsFor_18, s_M_bitsFor_19, s_M_bitsFor_21, s_M_bitsFor_22, s_M_bitsFor_24, s_M_bitsFor_25, s_M_bitsFor_28, s_M_bitsFor_31, s_M_bitsFor_32, s_M_bitsFor_34, s_M_bitsFor_35, s_M_bitsFor_38, s_M_bitsFor_39, s_M_bitsFor_40, s_M_bitsFor_42, s_M_bitsFor_45, s_M_bitsFor_48, s_M_bitsFor_49, s_M_bitsFor_50, s_M_bitsFor_52, s_M_bitsFor_53, s_M_bitsFor_55, zlt, zle, zeq, zclamp, zinc, zdec, zdi, zdr, zdl, zdn, zpi, zpn, if_true, if_false, ite_not, Bool.false_eq_true, ne_eq, not_true_eq_false, not_false_eq_true, true_and, and_true, Nat.add_assoc, Nat.reduceAdd, zift, e]
    exact hQ
/-- a heap in which one place of one row of stones is another -/
theorem WK_upd {σ1 : zG} (h : WK σ n K F L) (ho : o = 2 ∨ o = 3 ∨ o = 4) (hv : σ1 o i = x) (h1 : ∀ k, k ≠ i → σ1 o k = σ o k) (h2 : ∀ c, c ≠ o → σ1 c = σ c) : WK σ1 n (if o = 2 then upd K i x else K) (if o = 3 then upd F i x else F) (if o = 4 then upd L i x else L) := by
  have e0 : σ1 0 = σ 0 := h2 0 (by omega)
  have e : ∀ k, σ1 o k = upd (σ o) i x k := by
    intro k
    by_cases hk : k = i
    · subst hk; rw [pk_us, hv]
    · rw [pk_un hk, h1 k hk]
  refine ⟨h.1, by rw [e0]; exact h.2.1, fun j hj => ?_⟩
  obtain ⟨a1, a2, a3⟩ := h.2.2 j hj
  have ud : ∀ (A B : SF), A j = B j → upd A i x j = upd B i x j := by
    intro A B hab
    by_cases hk : j = i
    · subst hk; rw [pk_us, pk_us]
    · rw [pk_un hk, pk_un hk, hab]
  rcases ho with rfl | rfl | rfl
  · exact ⟨(e j).trans (ud _ _ a1), (congrFun (h2 3 (by omega)) j).trans a2, (congrFun (h2 4 (by omega)) j).trans a3⟩
  · exact ⟨(congrFun (h2 2 (by omega)) j).trans a1, (e j).trans (ud _ _ a2), (congrFun (h2 4 (by omega)) j).trans a3⟩
  · exact ⟨(congrFun (h2 2 (by omega)) j).trans a1, (congrFun (h2 3 (by omega)) j).trans a2, (e j).trans (ud _ _ a3)⟩
theorem M_whoLaid (hR : WX σ a) (hQ : ∀ σ', WX σ' (c_whoLaid a x).2 → Q (some (.int (c_whoLaid a x).1)) σ') : Ev zshM 250 0 [some (.ref 0), some (.int x)] [] σ Q := by
  have hK := hR.1.1.1
  have hF : Fok _ _ := hR.1.2.1.1.F
  have h12 := hR.1.2.1.1.1
  have hT : WTm σ a.2.2.2.1.1 a.2.2.2.1.2 := hR.2.2.2.1
  rw [c_whoLaid] at hQ
  by_cases h : 0 ≤ x ∧ x < nI a.1.1.1
  · rw [if_pos h] at hQ
    obtain ⟨i, hi, rfl⟩ := in_nI (by omega) h
    rw [zclamp (by omega)] at hQ
    simp (disch := first | assumption | omega | decide | exact zin_d (by assumption) (by omega) (by omega) | (simp only [zb01]; done)) only [s_M_whoLaid_0, s_M_whoLaid_1, s_M_whoLaid_2, s_M_whoLaid_5, s_M_whoLaid_8, s_M_whoLaid_9, s_M_whoLaid_10, s_M_whoLaid_13, s_M_whoLaid_14, s_M_whoLaid_15, s_M_whoLaid_18, s_M_whoLaid_21, s_M_whoLaid_22, s_M_whoLaid_23, s_M_whoLaid_26, zlt, zle, zeq, zclamp, zinc, zdec, zdi, zdr, zdl, zdn, zpi, zpn, if_true, if_false, ite_not, Bool.false_eq_true, ne_eq, not_true_eq_false, not_false_eq_true, true_and, and_true, Nat.add_assoc, Nat.reduceAdd, M_isStone_in hK hi, zift, ziff]
    refine M_bitsFor (o := 4) (i := i) (many := 2) (p := fun v => tellB a.1.1.1 a.1.1.2.1 a.1.1.2.2.1 (upd a.1.1.2.2.2 i (nI v)) a.2.2.2.1.1 a.2.2.2.1.2) (by omega) (by omega) (by omega) (fun σ1 v Q' hv g1 g2 g3 => ?_) ?_
    · have hK1 := WK_upd hK (o := 4) (i := i) (Or.inr (Or.inr rfl)) g2 g1 g3
      exact M_isSo hK1 hF (by omega) ⟨hT.1, by rw [g3 0 (by omega)]; exact hT.2.1, fun j hj => by rw [g3 14 (by omega)]; exact hT.2.2 j hj⟩
    · simp (disch := first | assumption | omega | decide | exact zin_d (by assumption) (by omega) (by omega) | (simp only [zb01]; done)) only [s_M_whoLaid_0, s_M_whoLaid_1, s_M_whoLaid_2, s_M_whoLaid_5, s_M_whoLaid_8, s_M_whoLaid_9, s_M_whoLaid_10, s_M_whoLaid_13, s_M_whoLaid_14, s_M_whoLaid_15, s_M_whoLaid_18, s_M_whoLaid_21, s_M_whoLaid_22, s_M_whoLaid_23, s_M_whoLaid_26, zlt, zle, zeq, zclamp, zinc, zdec, zdi, zdr, zdl, zdn, zpi, zpn, if_true, if_false, ite_not, Bool.false_eq_true, ne_eq, not_true_eq_false, not_false_eq_true, true_and, and_true, Nat.add_assoc, Nat.reduceAdd]
      exact hQ σ hR
  · rw [if_neg h] at hQ
    simp (disch := first | assumption | omega | decide | exact zin_d (by assumption) (by omega) (by omega) | (simp only [zb01]; done)) only [s_M_whoLaid_0, s_M_whoLaid_1, s_M_whoLaid_2, s_M_whoLaid_5, s_M_whoLaid_8, s_M_whoLaid_9, s_M_whoLaid_10, s_M_whoLaid_13, s_M_whoLaid_14, s_M_whoLaid_15, s_M_whoLaid_18, s_M_whoLaid_21, s_M_whoLaid_22, s_M_whoLaid_23, s_M_whoLaid_26, zlt, zle, zeq, zclamp, zinc, zdec, zdi, zdr, zdl, zdn, zpi, zpn, if_true, if_false, ite_not, Bool.false_eq_true, ne_eq, not_true_eq_false, not_false_eq_true, true_and, and_true, Nat.add_assoc, Nat.reduceAdd, M_isStone hK, zift, ziff]
    refine M_no hR ref1 (fun σ' h => ?_)
    simp (disch := first | assumption | omega | decide | exact zin_d (by assumption) (by omega) (by omega) | (simp only [zb01]; done)) only [s_M_whoLaid_0, s_M_whoLaid_1, s_M_whoLaid_2, s_M_whoLaid_5, s_M_whoLaid_8, s_M_whoLaid_9, s_M_whoLaid_10, s_M_whoLaid_13, s_M_whoLaid_14, s_M_whoLaid_15, s_M_whoLaid_18, s_M_whoLaid_21, s_M_whoLaid_22, s_M_whoLaid_23, s_M_whoLaid_26, zlt, zle, zeq, zclamp, zinc, zdec, zdi, zdr, zdl, zdn, zpi, zpn, if_true, if_false, ite_not, Bool.false_eq_true, ne_eq, not_true_eq_false, not_false_eq_true, true_and, and_true, Nat.add_assoc, Nat.reduceAdd]
    exact hQ σ' h
theorem M_whatIs (hR : WX σ a) (hQ : ∀ σ', WX σ' (c_whatIs a x w).2 → Q (some (.int (c_whatIs a x w).1)) σ') : Ev zshM 251 0 [some (.ref 0), some (.int x), some (.int w), none] [] σ Q := by
  have hK := hR.1.1.1
  have hF : Fok _ _ := hR.1.2.1.1.F
  have h12 := hR.1.2.1.1.1
  have hT : WTm σ a.2.2.2.1.1 a.2.2.2.1.2 := hR.2.2.2.1
  rw [c_whatIs] at hQ
  by_cases h : 0 ≤ x ∧ x < nI a.1.1.1
  · rw [if_pos h] at hQ
    obtain ⟨i, hi, rfl⟩ := in_nI (by omega) h
    rw [zclamp (by omega)] at hQ
    by_cases w0 : w = 0
    · subst w0
      rw [if_pos rfl] at hQ
      have hb : btw 0 0 1 = true := rfl
      simp (disch := first | assumption | omega | decide | exact zin_d (by assumption) (by omega) (by omega) | (simp only [zb01]; done)) only [s_M_whatIs_0, s_M_whatIs_1, s_M_whatIs_2, s_M_whatIs_5, s_M_whatIs_8, s_M_whatIs_9, s_M_whatIs_12, s_M_whatIs_13, s_M_whatIs_14, s_M_whatIs_15, s_M_whatIs_18, s_M_whatIs_21, s_M_whatIs_23, s_M_whatIs_26, s_M_whatIs_27, s_M_whatIs_28, s_M_whatIs_29, s_M_whatIs_32, s_M_whatIs_33, s_M_whatIs_34, s_M_whatIs_37, s_M_whatIs_38, s_M_whatIs_39, s_M_whatIs_42, s_M_whatIs_43, s_M_whatIs_44, s_M_whatIs_47, s_M_whatIs_48, s_M_whatIs_50, s_M_whatIs_53, s_M_whatIs_56, s_M_whatIs_57, s_M_whatIs_58, s_M_whatIs_61, s_M_whatIs_62, s_M_whatIs_64, s_M_whatIs_67, zlt, zle, zeq, zclamp, zinc, zdec, zdi, zdr, zdl, zdn, zpi, zpn, if_true, if_false, ite_not, Bool.false_eq_true, ne_eq, not_true_eq_false, not_false_eq_true, true_and, and_true, Nat.add_assoc, Nat.reduceAdd, M_isIn, M_isStone_in hK hi, zift, ziff]
      refine M_bitsFor (o := 2) (i := i) (many := 6) (p := fun v => tellB a.1.1.1 (upd a.1.1.2.1 i (nI v)) a.1.1.2.2.1 a.1.1.2.2.2 a.2.2.2.1.1 a.2.2.2.1.2) (by omega) (by omega) (by omega) (fun σ1 v Q' hv g1 g2 g3 => ?_) ?_
      · have hK1 := WK_upd hK (o := 2) (i := i) (Or.inl rfl) g2 g1 g3
        exact M_isSo hK1 hF (by omega) ⟨hT.1, by rw [g3 0 (by omega)]; exact hT.2.1, fun j hj => by rw [g3 14 (by omega)]; exact hT.2.2 j hj⟩
      · simp (disch := first | assumption | omega | decide | exact zin_d (by assumption) (by omega) (by omega) | (simp only [zb01]; done)) only [s_M_whatIs_0, s_M_whatIs_1, s_M_whatIs_2, s_M_whatIs_5, s_M_whatIs_8, s_M_whatIs_9, s_M_whatIs_12, s_M_whatIs_13, s_M_whatIs_14, s_M_whatIs_15, s_M_whatIs_18, s_M_whatIs_21, s_M_whatIs_23, s_M_whatIs_26, s_M_whatIs_27, s_M_whatIs_28, s_M_whatIs_29, s_M_whatIs_32, s_M_whatIs_33, s_M_whatIs_34, s_M_whatIs_37, s_M_whatIs_38, s_M_whatIs_39, s_M_whatIs_42, s_M_whatIs_43, s_M_whatIs_44, s_M_whatIs_47, s_M_whatIs_48, s_M_whatIs_50, s_M_whatIs_53, s_M_whatIs_56, s_M_whatIs_57, s_M_whatIs_58, s_M_whatIs_61, s_M_whatIs_62, s_M_whatIs_64, s_M_whatIs_67, zlt, zle, zeq, zclamp, zinc, zdec, zdi, zdr, zdl, zdn, zpi, zpn, if_true, if_false, ite_not, Bool.false_eq_true, ne_eq, not_true_eq_false, not_false_eq_true, true_and, and_true, Nat.add_assoc, Nat.reduceAdd]
        exact hQ σ hR
    rw [if_neg w0] at hQ
    by_cases w1 : w = 1
    · subst w1
      rw [if_pos rfl] at hQ
      have hb : btw 1 0 1 = true := rfl
      simp (disch := first | assumption | omega | decide | exact zin_d (by assumption) (by omega) (by omega) | (simp only [zb01]; done)) only [s_M_whatIs_0, s_M_whatIs_1, s_M_whatIs_2, s_M_whatIs_5, s_M_whatIs_8, s_M_whatIs_9, s_M_whatIs_12, s_M_whatIs_13, s_M_whatIs_14, s_M_whatIs_15, s_M_whatIs_18, s_M_whatIs_21, s_M_whatIs_23, s_M_whatIs_26, s_M_whatIs_27, s_M_whatIs_28, s_M_whatIs_29, s_M_whatIs_32, s_M_whatIs_33, s_M_whatIs_34, s_M_whatIs_37, s_M_whatIs_38, s_M_whatIs_39, s_M_whatIs_42, s_M_whatIs_43, s_M_whatIs_44, s_M_whatIs_47, s_M_whatIs_48, s_M_whatIs_50, s_M_whatIs_53, s_M_whatIs_56, s_M_whatIs_57, s_M_whatIs_58, s_M_whatIs_61, s_M_whatIs_62, s_M_whatIs_64, s_M_whatIs_67, zlt, zle, zeq, zclamp, zinc, zdec, zdi, zdr, zdl, zdn, zpi, zpn, if_true, if_false, ite_not, Bool.false_eq_true, ne_eq, not_true_eq_false, not_false_eq_true, true_and, and_true, Nat.add_assoc, Nat.reduceAdd, M_isIn, M_isStone_in hK hi, zift, ziff]
      refine M_bitsFor (o := 3) (i := i) (many := 10) (p := fun v => tellB a.1.1.1 a.1.1.2.1 (upd a.1.1.2.2.1 i (nI v)) a.1.1.2.2.2 a.2.2.2.1.1 a.2.2.2.1.2) (by omega) (by omega) (by omega) (fun σ1 v Q' hv g1 g2 g3 => ?_) ?_
      · have hK1 := WK_upd hK (o := 3) (i := i) (Or.inr (Or.inl rfl)) g2 g1 g3
        have hF1 : Fok a.1.1.1 (upd a.1.1.2.2.1 i (nI v)) := by
          intro k hk
          by_cases e : k = i
          · subst e; rw [pk_us]; exact ⟨v, by omega, rfl⟩
          · rw [pk_un e]; exact hF k hk
        exact M_isSo hK1 hF1 (by omega) ⟨hT.1, by rw [g3 0 (by omega)]; exact hT.2.1, fun j hj => by rw [g3 14 (by omega)]; exact hT.2.2 j hj⟩
      · simp (disch := first | assumption | omega | decide | exact zin_d (by assumption) (by omega) (by omega) | (simp only [zb01]; done)) only [s_M_whatIs_0, s_M_whatIs_1, s_M_whatIs_2, s_M_whatIs_5, s_M_whatIs_8, s_M_whatIs_9, s_M_whatIs_12, s_M_whatIs_13, s_M_whatIs_14, s_M_whatIs_15, s_M_whatIs_18, s_M_whatIs_21, s_M_whatIs_23, s_M_whatIs_26, s_M_whatIs_27, s_M_whatIs_28, s_M_whatIs_29, s_M_whatIs_32, s_M_whatIs_33, s_M_whatIs_34, s_M_whatIs_37, s_M_whatIs_38, s_M_whatIs_39, s_M_whatIs_42, s_M_whatIs_43, s_M_whatIs_44, s_M_whatIs_47, s_M_whatIs_48, s_M_whatIs_50, s_M_whatIs_53, s_M_whatIs_56, s_M_whatIs_57, s_M_whatIs_58, s_M_whatIs_61, s_M_whatIs_62, s_M_whatIs_64, s_M_whatIs_67, zlt, zle, zeq, zclamp, zinc, zdec, zdi, zdr, zdl, zdn, zpi, zpn, if_true, if_false, ite_not, Bool.false_eq_true, ne_eq, not_true_eq_false, not_false_eq_true, true_and, and_true, Nat.add_assoc, Nat.reduceAdd]
        exact hQ σ hR
    rw [if_neg w1] at hQ
    have hb := btw01 w0 w1
    simp (disch := first | assumption | omega | decide | exact zin_d (by assumption) (by omega) (by omega) | (simp only [zb01]; done)) only [s_M_whatIs_0, s_M_whatIs_1, s_M_whatIs_2, s_M_whatIs_5, s_M_whatIs_8, s_M_whatIs_9, s_M_whatIs_12, s_M_whatIs_13, s_M_whatIs_14, s_M_whatIs_15, s_M_whatIs_18, s_M_whatIs_21, s_M_whatIs_23, s_M_whatIs_26, s_M_whatIs_27, s_M_whatIs_28, s_M_whatIs_29, s_M_whatIs_32, s_M_whatIs_33, s_M_whatIs_34, s_M_whatIs_37, s_M_whatIs_38, s_M_whatIs_39, s_M_whatIs_42, s_M_whatIs_43, s_M_whatIs_44, s_M_whatIs_47, s_M_whatIs_48, s_M_whatIs_50, s_M_whatIs_53, s_M_whatIs_56, s_M_whatIs_57, s_M_whatIs_58, s_M_whatIs_61, s_M_whatIs_62, s_M_whatIs_64, s_M_whatIs_67, zlt, zle, zeq, zclamp, zinc, zdec, zdi, zdr, zdl, zdn, zpi, zpn, if_true, if_false, ite_not, Bool.false_eq_true, ne_eq, not_true_eq_false, not_false_eq_true, true_and, and_true, Nat.add_assoc, Nat.reduceAdd, M_isIn, M_isStone_in hK hi, zift, ziff]
    refine M_no hR ref2 (fun σ' h => ?_)
    simp (disch := first | assumption | omega | decide | exact zin_d (by assumption) (by omega) (by omega) | (simp only [zb01]; done)) only [s_M_whatIs_0, s_M_whatIs_1, s_M_whatIs_2, s_M_whatIs_5, s_M_whatIs_8, s_M_whatIs_9, s_M_whatIs_12, s_M_whatIs_13, s_M_whatIs_14, s_M_whatIs_15, s_M_whatIs_18, s_M_whatIs_21, s_M_whatIs_23, s_M_whatIs_26, s_M_whatIs_27, s_M_whatIs_28, s_M_whatIs_29, s_M_whatIs_32, s_M_whatIs_33, s_M_whatIs_34, s_M_whatIs_37, s_M_whatIs_38, s_M_whatIs_39, s_M_whatIs_42, s_M_whatIs_43, s_M_whatIs_44, s_M_whatIs_47, s_M_whatIs_48, s_M_whatIs_50, s_M_whatIs_53, s_M_whatIs_56, s_M_whatIs_57, s_M_whatIs_58, s_M_whatIs_61, s_M_whatIs_62, s_M_whatIs_64, s_M_whatIs_67, zlt, zle, zeq, zclamp, zinc, zdec, zdi, zdr, zdl, zdn, zpi, zpn, if_true, if_false, ite_not, Bool.false_eq_true, ne_eq, not_true_eq_false, not_false_eq_true, true_and, and_true, Nat.add_assoc, Nat.reduceAdd]
    exact hQ σ' h
  · rw [if_neg h] at hQ
    simp (disch := first | assumption | omega | decide | exact zin_d (by assumption) (by omega) (by omega) | (simp only [zb01]; done)) only [s_M_whatIs_0, s_M_whatIs_1, s_M_whatIs_2, s_M_whatIs_5, s_M_whatIs_8, s_M_whatIs_9, s_M_whatIs_12, s_M_whatIs_13, s_M_whatIs_14, s_M_whatIs_15, s_M_whatIs_18, s_M_whatIs_21, s_M_whatIs_23, s_M_whatIs_26, s_M_whatIs_27, s_M_whatIs_28, s_M_whatIs_29, s_M_whatIs_32, s_M_whatIs_33, s_M_whatIs_34, s_M_whatIs_37, s_M_whatIs_38, s_M_whatIs_39, s_M_whatIs_42, s_M_whatIs_43, s_M_whatIs_44, s_M_whatIs_47, s_M_whatIs_48, s_M_whatIs_50, s_M_whatIs_53, s_M_whatIs_56, s_M_whatIs_57, s_M_whatIs_58, s_M_whatIs_61, s_M_whatIs_62, s_M_whatIs_64, s_M_whatIs_67, zlt, zle, zeq, zclamp, zinc, zdec, zdi, zdr, zdl, zdn, zpi, zpn, if_true, if_false, ite_not, Bool.false_eq_true, ne_eq, not_true_eq_false, not_false_eq_true, true_and, and_true, Nat.add_assoc, Nat.reduceAdd, M_isStone hK, zift, ziff]
    refine M_no hR ref1 (fun σ' h => ?_)
    simp (disch := first | assumption | omega | decide | exact zin_d (by assumption) (by omega) (by omega) | (simp only [zb01]; done)) only [s_M_whatIs_0, s_M_whatIs_1, s_M_whatIs_2, s_M_whatIs_5, s_M_whatIs_8, s_M_whatIs_9, s_M_whatIs_12, s_M_whatIs_13, s_M_whatIs_14, s_M_whatIs_15, s_M_whatIs_18, s_M_whatIs_21, s_M_whatIs_23, s_M_whatIs_26, s_M_whatIs_27, s_M_whatIs_28, s_M_whatIs_29, s_M_whatIs_32, s_M_whatIs_33, s_M_whatIs_34, s_M_whatIs_37, s_M_whatIs_38, s_M_whatIs_39, s_M_whatIs_42, s_M_whatIs_43, s_M_whatIs_44, s_M_whatIs_47, s_M_whatIs_48, s_M_whatIs_50, s_M_whatIs_53, s_M_whatIs_56, s_M_whatIs_57, s_M_whatIs_58, s_M_whatIs_61, s_M_whatIs_62, s_M_whatIs_64, s_M_whatIs_67, zlt, zle, zeq, zclamp, zinc, zdec, zdi, zdr, zdl, zdn, zpi, zpn, if_true, if_false, ite_not, Bool.false_eq_true, ne_eq, not_true_eq_false, not_false_eq_true, true_and, and_true, Nat.add_assoc, Nat.reduceAdd]
    exact hQ σ' h
end
