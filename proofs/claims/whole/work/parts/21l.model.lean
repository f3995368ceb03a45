section
variable {σ : zG} {Q : Option Value → zG → Prop} {a : At} {x y z m w n v o k f : Int32} {β : Bt}
theorem btw02 (h0 : ¬ w = 0) (h1 : ¬ w = 1) (h2 : ¬ w = 2) : ¬ btw w 0 2 = true := fun h => by
  obtain ⟨i, hi, rfl⟩ := btw_num (n := 2) (by omega) h
  rcases (show i = 0 ∨ i = 1 ∨ i = 2 by omega) with rfl | rfl | rfl
  · exact h0 rfl
  · exact h1 rfl
  · exact h2 rfl
theorem M_then (hR : WX σ a) (hQ : ∀ σ', WX σ' (c_then a n w).2 → Q (some (.int (c_then a n w).1)) σ') : Ev zshM 218 0 [some (.ref 0), some (.int n), some (.int w), none, none] [] σ Q := by
  have hok := hR.1.2.1
  rw [c_then] at hQ
  by_cases ho : outs n 0 60 = 0
  · rw [if_pos ho] at hQ
    obtain ⟨i, hi, rfl⟩ := in_le (n := 60) (by omega) (show 0 ≤ n ∧ n ≤ nI 60 from ⟨Int32.le_trans (by decide : (0 : Int32) ≤ 0) (outs_in ho).1, (outs_in ho).2⟩)
    rw [zclamp (by omega)] at hQ
    have body : btw w 0 2 = true → (∀ σ2, WMd σ2 (daysS i a.1) → (∀ v, (∀ σ3, WX σ3 a → Q (some (.int v)) σ3) → Ev zshM 218 78 [some (.ref 0), some (.int (nI i)), some (.int w), some (.int 0), none] [.int v] σ2 Q) → Ev zshM 218 43 [some (.ref 0), some (.int (nI i)), some (.int w), some (.int 0), none] [] σ2 Q) → Ev zshM 218 0 [some (.ref 0), some (.int (nI i)), some (.int w), none, none] [] σ Q := by
      intro hb kk
      simp (disch := first | assumption | omega | decide | exact zin_d (by assumption) (by omega) (by omega) | (simp only [zb01]; done)) only [s_M_then_0, s_M_then_1, s_M_then_2, s_M_then_4, s_M_then_7, s_M_then_8, s_M_then_9, s_M_then_12, s_M_then_13, s_M_then_14, s_M_then_15, s_M_then_18, s_M_then_21, s_M_then_23, s_M_then_24, s_M_then_25, s_M_then_28, s_M_then_29, s_M_then_30, s_M_then_33, s_M_then_34, s_M_then_35, s_M_then_38, s_M_then_39, s_M_then_40, s_M_then_43, s_M_then_44, s_M_then_47, s_M_then_48, s_M_then_51, s_M_then_54, s_M_then_55, s_M_then_56, s_M_then_59, s_M_then_60, s_M_then_63, s_M_then_66, s_M_then_67, s_M_then_70, s_M_then_73, s_M_then_74, s_M_then_77, s_M_then_78, s_M_then_80, s_M_then_81, s_M_then_84, s_M_then_86, zlt, zle, zeq, zclamp, zinc, zdec, zdi, zdr, zdl, zdn, zpi, zpn, if_true, if_false, ite_not, Bool.false_eq_true, ne_eq, not_true_eq_false, not_false_eq_true, true_and, and_true, Nat.add_assoc, Nat.reduceAdd, M_bound, M_isIn, ho, zift, ziff]
      refine M_thinks hR.1.1 (fun σ1 h1 k1 f1 => ?_)
      simp (disch := first | assumption | omega | decide | exact zin_d (by assumption) (by omega) (by omega) | (simp only [zb01]; done)) only [s_M_then_34, s_M_then_35, s_M_then_38, s_M_then_39, s_M_then_40, zlt, zle, zeq, zclamp, zinc, zdec, zdi, zdr, zdl, zdn, zpi, zpn, if_true, if_false, ite_not, Bool.false_eq_true, ne_eq, not_true_eq_false, not_false_eq_true, true_and, and_true, Nat.add_assoc, Nat.reduceAdd]
      refine M_goes h1 hok (by omega) (fun σ2 h2 f2 => ?_)
      rw [zpn]
      refine kk σ2 h2 (fun v hv => ?_)
      simp (disch := first | assumption | omega | decide | exact zin_d (by assumption) (by omega) (by omega) | (simp only [zb01]; done)) only [s_M_then_0, s_M_then_1, s_M_then_2, s_M_then_4, s_M_then_7, s_M_then_8, s_M_then_9, s_M_then_12, s_M_then_13, s_M_then_14, s_M_then_15, s_M_then_18, s_M_then_21, s_M_then_23, s_M_then_24, s_M_then_25, s_M_then_28, s_M_then_29, s_M_then_30, s_M_then_33, s_M_then_34, s_M_then_35, s_M_then_38, s_M_then_39, s_M_then_40, s_M_then_43, s_M_then_44, s_M_then_47, s_M_then_48, s_M_then_51, s_M_then_54, s_M_then_55, s_M_then_56, s_M_then_59, s_M_then_60, s_M_then_63, s_M_then_66, s_M_then_67, s_M_then_70, s_M_then_73, s_M_then_74, s_M_then_77, s_M_then_78, s_M_then_80, s_M_then_81, s_M_then_84, s_M_then_86, zlt, zle, zeq, zclamp, zinc, zdec, zdi, zdr, zdl, zdn, zpi, zpn, if_true, if_false, ite_not, Bool.false_eq_true, ne_eq, not_true_eq_false, not_false_eq_true, true_and, and_true, Nat.add_assoc, Nat.reduceAdd]
      refine M_forgets (k1.keep (f2.1 12 (by omega))) (fun σ3 h3 f3 => ?_)
      simp (disch := first | assumption | omega | decide | exact zin_d (by assumption) (by omega) (by omega) | (simp only [zb01]; done)) only [s_M_then_0, s_M_then_1, s_M_then_2, s_M_then_4, s_M_then_7, s_M_then_8, s_M_then_9, s_M_then_12, s_M_then_13, s_M_then_14, s_M_then_15, s_M_then_18, s_M_then_21, s_M_then_23, s_M_then_24, s_M_then_25, s_M_then_28, s_M_then_29, s_M_then_30, s_M_then_33, s_M_then_34, s_M_then_35, s_M_then_38, s_M_then_39, s_M_then_40, s_M_then_43, s_M_then_44, s_M_then_47, s_M_then_48, s_M_then_51, s_M_then_54, s_M_then_55, s_M_then_56, s_M_then_59, s_M_then_60, s_M_then_63, s_M_then_66, s_M_then_67, s_M_then_70, s_M_then_73, s_M_then_74, s_M_then_77, s_M_then_78, s_M_then_80, s_M_then_81, s_M_then_84, s_M_then_86, zlt, zle, zeq, zclamp, zinc, zdec, zdi, zdr, zdl, zdn, zpi, zpn, if_true, if_false, ite_not, Bool.false_eq_true, ne_eq, not_true_eq_false, not_false_eq_true, true_and, and_true, Nat.add_assoc, Nat.reduceAdd]
      exact hv σ3 (hR.T h3 ((f1.tr f2.T).tr f3))
    by_cases w0 : w = 0
    · subst w0
      rw [if_pos rfl] at hQ
      refine body rfl (fun σ2 h2 kk => ?_)
      simp (disch := first | assumption | omega | decide | exact zin_d (by assumption) (by omega) (by omega) | (simp only [zb01]; done)) only [s_M_then_43, s_M_then_44, s_M_then_47, s_M_then_48, s_M_then_51, s_M_then_54, s_M_then_55, s_M_then_56, s_M_then_59, s_M_then_60, s_M_then_63, s_M_then_66, s_M_then_67, s_M_then_70, s_M_then_73, s_M_then_74, s_M_then_77, zlt, zle, zeq, zclamp, zinc, zdec, zdi, zdr, zdl, zdn, zpi, zpn, if_true, if_false, ite_not, Bool.false_eq_true, ne_eq, not_true_eq_false, not_false_eq_true, true_and, and_true, Nat.add_assoc, Nat.reduceAdd, h2.1.2.1, zift, ziff]
      exact kk _ hQ
    rw [if_neg w0] at hQ
    by_cases w1 : w = 1
    · subst w1
      rw [if_pos rfl] at hQ
      refine body rfl (fun σ2 h2 kk => ?_)
      simp (disch := first | assumption | omega | decide | exact zin_d (by assumption) (by omega) (by omega) | (simp only [zb01]; done)) only [s_M_then_43, s_M_then_44, s_M_then_47, s_M_then_48, s_M_then_51, s_M_then_54, s_M_then_55, s_M_then_56, s_M_then_59, s_M_then_60, s_M_then_63, s_M_then_66, s_M_then_67, s_M_then_70, s_M_then_73, s_M_then_74, s_M_then_77, zlt, zle, zeq, zclamp, zinc, zdec, zdi, zdr, zdl, zdn, zpi, zpn, if_true, if_false, ite_not, Bool.false_eq_true, ne_eq, not_true_eq_false, not_false_eq_true, true_and, and_true, Nat.add_assoc, Nat.reduceAdd, h2.2.2.2.1, zift, ziff]
      exact kk _ hQ
    rw [if_neg w1] at hQ
    by_cases w2 : w = 2
    · subst w2
      rw [if_pos rfl] at hQ
      refine body rfl (fun σ2 h2 kk => ?_)
      have kq := kk _ hQ
      by_cases hs : stB (daysS i a.1) = true
      · have hs' : stndB (daysS i a.1).1.1 (daysS i a.1).1.2.1 (daysS i a.1).1.2.2.1 (daysS i a.1).1.2.2.2 = true := hs
        rw [if_pos hs] at kq
        simp (disch := first | assumption | omega | decide | exact zin_d (by assumption) (by omega) (by omega) | (simp only [zb01]; done)) only [s_M_then_43, s_M_then_44, s_M_then_47, s_M_then_48, s_M_then_51, s_M_then_54, s_M_then_55, s_M_then_56, s_M_then_59, s_M_then_60, s_M_then_63, s_M_then_66, s_M_then_67, s_M_then_70, s_M_then_73, s_M_then_74, s_M_then_77, zlt, zle, zeq, zclamp, zinc, zdec, zdi, zdr, zdl, zdn, zpi, zpn, if_true, if_false, ite_not, Bool.false_eq_true, ne_eq, not_true_eq_false, not_false_eq_true, true_and, and_true, Nat.add_assoc, Nat.reduceAdd, M_isUpright h2.1 (daysS_ok hok i).1.F, zift, ziff]
        exact kq
      · have hs' : ¬ stndB (daysS i a.1).1.1 (daysS i a.1).1.2.1 (daysS i a.1).1.2.2.1 (daysS i a.1).1.2.2.2 = true := hs
        rw [if_neg hs] at kq
        simp (disch := first | assumption | omega | decide | exact zin_d (by assumption) (by omega) (by omega) | (simp only [zb01]; done)) only [s_M_then_43, s_M_then_44, s_M_then_47, s_M_then_48, s_M_then_51, s_M_then_54, s_M_then_55, s_M_then_56, s_M_then_59, s_M_then_60, s_M_then_63, s_M_then_66, s_M_then_67, s_M_then_70, s_M_then_73, s_M_then_74, s_M_then_77, zlt, zle, zeq, zclamp, zinc, zdec, zdi, zdr, zdl, zdn, zpi, zpn, if_true, if_false, ite_not, Bool.false_eq_true, ne_eq, not_true_eq_false, not_false_eq_true, true_and, and_true, Nat.add_assoc, Nat.reduceAdd, M_isUpright h2.1 (daysS_ok hok i).1.F, zift, ziff]
        exact kq
    rw [if_neg w2] at hQ
    have hb := btw02 w0 w1 w2
    simp (disch := first | assumption | omega | decide | exact zin_d (by assumption) (by omega) (by omega) | (simp only [zb01]; done)) only [s_M_then_0, s_M_then_1, s_M_then_2, s_M_then_4, s_M_then_7, s_M_then_8, s_M_then_9, s_M_then_12, s_M_then_13, s_M_then_14, s_M_then_15, s_M_then_18, s_M_then_21, s_M_then_23, s_M_then_24, s_M_then_25, s_M_then_28, s_M_then_29, s_M_then_30, s_M_then_33, s_M_then_34, s_M_then_35, s_M_then_38, s_M_then_39, s_M_then_40, s_M_then_43, s_M_then_44, s_M_then_47, s_M_then_48, s_M_then_51, s_M_then_54, s_M_then_55, s_M_then_56, s_M_then_59, s_M_then_60, s_M_then_63, s_M_then_66, s_M_then_67, s_M_then_70, s_M_then_73, s_M_then_74, s_M_then_77, s_M_then_78, s_M_then_80, s_M_then_81, s_M_then_84, s_M_then_86, zlt, zle, zeq, zclamp, zinc, zdec, zdi, zdr, zdl, zdn, zpi, zpn, if_true, if_false, ite_not, Bool.false_eq_true, ne_eq, not_true_eq_false, not_false_eq_true, true_and, and_true, Nat.add_assoc, Nat.reduceAdd, M_bound, M_isIn, ho, zift, ziff]
    refine M_no hR ref2 (fun σ' h => ?_)
    simp (disch := first | assumption | omega | decide | exact zin_d (by assumption) (by omega) (by omega) | (simp only [zb01]; done)) only [s_M_then_0, s_M_then_1, s_M_then_2, s_M_then_4, s_M_then_7, s_M_then_8, s_M_then_9, s_M_then_12, s_M_then_13, s_M_then_14, s_M_then_15, s_M_then_18, s_M_then_21, s_M_then_23, s_M_then_24, s_M_then_25, s_M_then_28, s_M_then_29, s_M_then_30, s_M_then_33, s_M_then_34, s_M_then_35, s_M_then_38, s_M_then_39, s_M_then_40, s_M_then_43, s_M_then_44, s_M_then_47, s_M_then_48, s_M_then_51, s_M_then_54, s_M_then_55, s_M_then_56, s_M_then_59, s_M_then_60, s_M_then_63, s_M_then_66, s_M_then_67, s_M_then_70, s_M_then_73, s_M_then_74, s_M_then_77, s_M_then_78, s_M_then_80, s_M_then_81, s_M_then_84, s_M_then_86, zlt, zle, zeq, zclamp, zinc, zdec, zdi, zdr, zdl, zdn, zpi, zpn, if_true, if_false, ite_not, Bool.false_eq_true, ne_eq, not_true_eq_false, not_false_eq_true, true_and, and_true, Nat.add_assoc, Nat.reduceAdd]
    exact hQ σ' h
  · rw [if_neg ho] at hQ
    simp (disch := first | assumption | omega | decide | exact zin_d (by assumption) (by omega) (by omega) | (simp only [zb01]; done)) only [s_M_then_0, s_M_then_1, s_M_then_2, s_M_then_4, s_M_then_7, s_M_then_8, s_M_then_9, s_M_then_12, s_M_then_13, s_M_then_14, s_M_then_15, s_M_then_18, s_M_then_21, s_M_then_23, s_M_then_24, s_M_then_25, s_M_then_28, s_M_then_29, s_M_then_30, s_M_then_33, s_M_then_34, s_M_then_35, s_M_then_38, s_M_then_39, s_M_then_40, s_M_then_43, s_M_then_44, s_M_then_47, s_M_then_48, s_M_then_51, s_M_then_54, s_M_then_55, s_M_then_56, s_M_then_59, s_M_then_60, s_M_then_63, s_M_then_66, s_M_then_67, s_M_then_70, s_M_then_73, s_M_then_74, s_M_then_77, s_M_then_78, s_M_then_80, s_M_then_81, s_M_then_84, s_M_then_86, zlt, zle, zeq, zclamp, zinc, zdec, zdi, zdr, zdl, zdn, zpi, zpn, if_true, if_false, ite_not, Bool.false_eq_true, ne_eq, not_true_eq_false, not_false_eq_true, true_and, and_true, Nat.add_assoc, Nat.reduceAdd, M_bound, zift, ziff]
    refine M_no hR (outs_ref ho) (fun σ' h => ?_)
    simp (disch := first | assumption | omega | decide | exact zin_d (by assumption) (by omega) (by omega) | (simp only [zb01]; done)) only [s_M_then_0, s_M_then_1, s_M_then_2, s_M_then_4, s_M_then_7, s_M_then_8, s_M_then_9, s_M_then_12, s_M_then_13, s_M_then_14, s_M_then_15, s_M_then_18, s_M_then_21, s_M_then_23, s_M_then_24, s_M_then_25, s_M_then_28, s_M_then_29, s_M_then_30, s_M_then_33, s_M_then_34, s_M_then_35, s_M_then_38, s_M_then_39, s_M_then_40, s_M_then_43, s_M_then_44, s_M_then_47, s_M_then_48, s_M_then_51, s_M_then_54, s_M_then_55, s_M_then_56, s_M_then_59, s_M_then_60, s_M_then_63, s_M_then_66, s_M_then_67, s_M_then_70, s_M_then_73, s_M_then_74, s_M_then_77, s_M_then_78, s_M_then_80, s_M_then_81, s_M_then_84, s_M_then_86, zlt, zle, zeq, zclamp, zinc, zdec, zdi, zdr, zdl, zdn, zpi, zpn, if_true, if_false, ite_not, Bool.false_eq_true, ne_eq, not_true_eq_false, not_false_eq_true, true_and, and_true, Nat.add_assoc, Nat.reduceAdd]
    exact hQ σ' h
theorem M_upX (hR : WX σ a) {p : Nat → Prop} [DecidablePred p] (hb : btw w 0 1 = true) (hp : ∀ j σ2 (o4 : Option Value), j < 61 → WMd σ2 (daysS j a.1) → Ev zshM 219 35 [some (.ref 0), some (.int w), some (.int (-9)), some (.int (nI j)), o4] [] σ2 Q = Ev zshM 219 75 [some (.ref 0), some (.int w), some (.int (-9)), some (.int (nI j)), o4] [.int (if p j then 1 else 0)] σ2 Q) (hQ : ∀ σ', WX σ' a → Q (some (.int (zf p 0 61))) σ') : Ev zshM 219 0 [some (.ref 0), some (.int w), none, none, none] [] σ Q := by
  have hok := hR.1.2.1
  simp (disch := first | assumption | omega | decide | exact zin_d (by assumption) (by omega) (by omega) | (simp only [zb01]; done)) only [s_M_up_0, s_M_up_1, s_M_up_2, s_M_up_3, s_M_up_6, s_M_up_9, s_M_up_10, s_M_up_12, s_M_up_15, s_M_up_16, s_M_up_17, s_M_up_20, s_M_up_22, s_M_up_23, s_M_up_24, s_M_up_26, s_M_up_28, s_M_up_31, s_M_up_32, s_M_up_35, s_M_up_36, s_M_up_39, s_M_up_40, s_M_up_43, s_M_up_45, s_M_up_48, s_M_up_49, s_M_up_52, s_M_up_55, s_M_up_56, s_M_up_59, s_M_up_60, s_M_up_63, s_M_up_64, s_M_up_67, s_M_up_70, s_M_up_71, s_M_up_74, s_M_up_75, s_M_up_77, s_M_up_79, s_M_up_82, s_M_up_83, s_M_up_86, s_M_up_88, s_M_up_89, s_M_up_90, s_M_up_91, s_M_up_94, s_M_up_97, s_M_up_100, s_M_up_101, s_M_up_104, s_M_up_105, zlt, zle, zeq, zclamp, zinc, zdec, zdi, zdr, zdl, zdn, zpi, zpn, if_true, if_false, ite_not, Bool.false_eq_true, ne_eq, not_true_eq_false, not_false_eq_true, true_and, and_true, Nat.add_assoc, Nat.reduceAdd, M_isIn, zift, ziff]
  refine M_thinks hR.1.1 (fun σ1 h1 k1 f1 => ?_)
  simp (disch := first | assumption | omega | decide | exact zin_d (by assumption) (by omega) (by omega) | (simp only [zb01]; done)) only [s_M_up_0, s_M_up_1, s_M_up_2, s_M_up_3, s_M_up_6, s_M_up_9, s_M_up_10, s_M_up_12, s_M_up_15, s_M_up_16, s_M_up_17, s_M_up_20, s_M_up_22, s_M_up_23, s_M_up_24, s_M_up_26, s_M_up_28, s_M_up_31, s_M_up_32, s_M_up_35, s_M_up_36, s_M_up_39, s_M_up_40, s_M_up_43, s_M_up_45, s_M_up_48, s_M_up_49, s_M_up_52, s_M_up_55, s_M_up_56, s_M_up_59, s_M_up_60, s_M_up_63, s_M_up_64, s_M_up_67, s_M_up_70, s_M_up_71, s_M_up_74, s_M_up_75, s_M_up_77, s_M_up_79, s_M_up_82, s_M_up_83, s_M_up_86, s_M_up_88, s_M_up_89, s_M_up_90, s_M_up_91, s_M_up_94, s_M_up_97, zlt, zle, zeq, zclamp, zinc, zdec, zdi, zdr, zdl, zdn, zpi, zpn, if_true, if_false, ite_not, Bool.false_eq_true, ne_eq, not_true_eq_false, not_false_eq_true, true_and, and_true, Nat.add_assoc, Nat.reduceAdd]
  have fin : ∀ σ2 v u (o4 : Option Value), KP σ2 96 a.1 → frT σ σ2 → (∀ σ3, WX σ3 a → Q (some (.int v)) σ3) → Ev zshM 219 100 [some (.ref 0), some (.int w), some (.int v), some (.int u), o4] [] σ2 Q := by
    intro σ2 v u o4 g1 g2 g3
    simp (disch := first | assumption | omega | decide | exact zin_d (by assumption) (by omega) (by omega) | (simp only [zb01]; done)) only [s_M_up_0, s_M_up_1, s_M_up_2, s_M_up_3, s_M_up_6, s_M_up_9, s_M_up_10, s_M_up_12, s_M_up_15, s_M_up_16, s_M_up_17, s_M_up_20, s_M_up_22, s_M_up_23, s_M_up_24, s_M_up_26, s_M_up_28, s_M_up_31, s_M_up_32, s_M_up_35, s_M_up_36, s_M_up_39, s_M_up_40, s_M_up_43, s_M_up_45, s_M_up_48, s_M_up_49, s_M_up_52, s_M_up_55, s_M_up_56, s_M_up_59, s_M_up_60, s_M_up_63, s_M_up_64, s_M_up_67, s_M_up_70, s_M_up_71, s_M_up_74, s_M_up_75, s_M_up_77, s_M_up_79, s_M_up_82, s_M_up_83, s_M_up_86, s_M_up_88, s_M_up_89, s_M_up_90, s_M_up_91, s_M_up_94, s_M_up_97, s_M_up_100, s_M_up_101, s_M_up_104, s_M_up_105, zlt, zle, zeq, zclamp, zinc, zdec, zdi, zdr, zdl, zdn, zpi, zpn, if_true, if_false, ite_not, Bool.false_eq_true, ne_eq, not_true_eq_false, not_false_eq_true, true_and, and_true, Nat.add_assoc, Nat.reduceAdd]
    refine M_forgets g1 (fun σ3 h3 f3 => ?_)
    simp (disch := first | assumption | omega | decide | exact zin_d (by assumption) (by omega) (by omega) | (simp only [zb01]; done)) only [s_M_up_0, s_M_up_1, s_M_up_2, s_M_up_3, s_M_up_6, s_M_up_9, s_M_up_10, s_M_up_12, s_M_up_15, s_M_up_16, s_M_up_17, s_M_up_20, s_M_up_22, s_M_up_23, s_M_up_24, s_M_up_26, s_M_up_28, s_M_up_31, s_M_up_32, s_M_up_35, s_M_up_36, s_M_up_39, s_M_up_40, s_M_up_43, s_M_up_45, s_M_up_48, s_M_up_49, s_M_up_52, s_M_up_55, s_M_up_56, s_M_up_59, s_M_up_60, s_M_up_63, s_M_up_64, s_M_up_67, s_M_up_70, s_M_up_71, s_M_up_74, s_M_up_75, s_M_up_77, s_M_up_79, s_M_up_82, s_M_up_83, s_M_up_86, s_M_up_88, s_M_up_89, s_M_up_90, s_M_up_91, s_M_up_94, s_M_up_97, s_M_up_100, s_M_up_101, s_M_up_104, s_M_up_105, zlt, zle, zeq, zclamp, zinc, zdec, zdi, zdr, zdl, zdn, zpi, zpn, if_true, if_false, ite_not, Bool.false_eq_true, ne_eq, not_true_eq_false, not_false_eq_true, true_and, and_true, Nat.add_assoc, Nat.reduceAdd]
    exact g3 σ3 (hR.T h3 (g2.tr f3))
  have e9 : ¬ (0 : Int32) ≤ -9 := by decide
  refine loopI (α := Option Value) (N := 61) (fun o4 σ2 j => Ev zshM 219 25 [some (.ref 0), some (.int w), some (.int (-9)), some (.int (nI j)), o4] [] σ2 Q) (fun j σ2 => WMd σ2 (daysS j a.1) ∧ frT σ σ2 ∧ KP σ2 96 a.1 ∧ zf p 0 61 = zf p j (61 - j)) (fun o4 j σ2 hj hp' kk => ?_) (fun o4 σ2 hp' => ?_) 0 none σ1 (by omega) ⟨h1, f1, k1, rfl⟩
  · obtain ⟨h2, f2, k2, hz⟩ := hp'
    have ez : zf p j (61 - j) = if p j then nI j else zf p (j + 1) (61 - (j + 1)) := by
      rw [show 61 - j = (61 - (j + 1)) + 1 by omega, zf]
    have hj60 : ¬ 60 < j := by omega
    have hh := hp j σ2 o4 hj h2
    rw [s_M_up_25]
    simp (disch := first | assumption | omega | decide | exact zin_d (by assumption) (by omega) (by omega) | (simp only [zb01]; done)) only [s_M_up_26, s_M_up_28, s_M_up_31, s_M_up_32, zlt, zle, zeq, zclamp, zinc, zdec, zdi, zdr, zdl, zdn, zpi, zpn, if_true, if_false, ite_not, Bool.false_eq_true, ne_eq, not_true_eq_false, not_false_eq_true, true_and, and_true, Nat.add_assoc, Nat.reduceAdd, zlL_60, zlR_60, zeL_60, zeR_60, zqL_60, zcl_60, ziff]
    rw [hh]
    by_cases h : p j
    · rw [ez, if_pos h] at hz
      simp (disch := first | assumption | omega | decide | exact zin_d (by assumption) (by omega) (by omega) | (simp only [zb01]; done)) only [s_M_up_75, s_M_up_77, s_M_up_79, s_M_up_82, s_M_up_83, s_M_up_86, s_M_up_88, s_M_up_89, s_M_up_90, s_M_up_91, s_M_up_94, s_M_up_97, zlt, zle, zeq, zclamp, zinc, zdec, zdi, zdr, zdl, zdn, zpi, zpn, if_true, if_false, ite_not, Bool.false_eq_true, ne_eq, not_true_eq_false, not_false_eq_true, true_and, and_true, Nat.add_assoc, Nat.reduceAdd, zift, ziff]
      refine M_goesDay (c := False) h2 (daysS_ok hok j) (fun σ3 h3 f3 => ?_)
      simp (disch := first | assumption | omega | decide | exact zin_d (by assumption) (by omega) (by omega) | (simp only [zb01]; done)) only [s_M_up_75, s_M_up_77, s_M_up_79, s_M_up_82, s_M_up_83, s_M_up_86, s_M_up_88, s_M_up_89, s_M_up_90, s_M_up_91, s_M_up_94, s_M_up_97, zlt, zle, zeq, zclamp, zinc, zdec, zdi, zdr, zdl, zdn, zpi, zpn, if_true, if_false, ite_not, Bool.false_eq_true, ne_eq, not_true_eq_false, not_false_eq_true, true_and, and_true, Nat.add_assoc, Nat.reduceAdd]
      rw [s_M_up_25]
      have p0 : (0 : Int32) ≤ nI j := Int32.not_lt.mp (nI_pos (by omega))
      have g4 := fun o4 => fin σ3 (nI j) (nI (j + 1)) o4 (k2.keep (f3.1 12 (by omega))) (f2.tr f3.T) (by rw [← hz]; exact hQ)
      by_cases h60 : j < 60
      · have h61 : ¬ 60 < j + 1 := by omega
        simp (disch := first | assumption | omega | decide | exact zin_d (by assumption) (by omega) (by omega) | (simp only [zb01]; done)) only [s_M_up_26, s_M_up_28, s_M_up_31, s_M_up_32, zlt, zle, zeq, zclamp, zinc, zdec, zdi, zdr, zdl, zdn, zpi, zpn, if_true, if_false, ite_not, Bool.false_eq_true, ne_eq, not_true_eq_false, not_false_eq_true, true_and, and_true, Nat.add_assoc, Nat.reduceAdd, zlL_60, zlR_60, zeL_60, zeR_60, zqL_60, zcl_60, zift, ziff]
        exact g4 _
      · have h61 : 60 < j + 1 := by omega
        simp (disch := first | assumption | omega | decide | exact zin_d (by assumption) (by omega) (by omega) | (simp only [zb01]; done)) only [s_M_up_26, s_M_up_28, s_M_up_31, s_M_up_32, zlt, zle, zeq, zclamp, zinc, zdec, zdi, zdr, zdl, zdn, zpi, zpn, if_true, if_false, ite_not, Bool.false_eq_true, ne_eq, not_true_eq_false, not_false_eq_true, true_and, and_true, Nat.add_assoc, Nat.reduceAdd, zlL_60, zlR_60, zeL_60, zeR_60, zqL_60, zcl_60, zift, ziff]
        exact g4 _
    · rw [ez, if_neg h] at hz
      simp (disch := first | assumption | omega | decide | exact zin_d (by assumption) (by omega) (by omega) | (simp only [zb01]; done)) only [s_M_up_75, s_M_up_77, s_M_up_79, s_M_up_82, s_M_up_83, s_M_up_86, s_M_up_88, s_M_up_89, s_M_up_90, s_M_up_91, s_M_up_94, s_M_up_97, zlt, zle, zeq, zclamp, zinc, zdec, zdi, zdr, zdl, zdn, zpi, zpn, if_true, if_false, ite_not, Bool.false_eq_true, ne_eq, not_true_eq_false, not_false_eq_true, true_and, and_true, Nat.add_assoc, Nat.reduceAdd, zift, ziff]
      refine M_goesDay (c := False) h2 (daysS_ok hok j) (fun σ3 h3 f3 => ?_)
      simp (disch := first | assumption | omega | decide | exact zin_d (by assumption) (by omega) (by omega) | (simp only [zb01]; done)) only [s_M_up_75, s_M_up_77, s_M_up_79, s_M_up_82, s_M_up_83, s_M_up_86, s_M_up_88, s_M_up_89, s_M_up_90, s_M_up_91, s_M_up_94, s_M_up_97, zlt, zle, zeq, zclamp, zinc, zdec, zdi, zdr, zdl, zdn, zpi, zpn, if_true, if_false, ite_not, Bool.false_eq_true, ne_eq, not_true_eq_false, not_false_eq_true, true_and, and_true, Nat.add_assoc, Nat.reduceAdd]
      rw [← dayS_c (c := ¬ False) id] at h3
      exact kk _ σ3 ⟨h3, f2.tr f3.T, k2.keep (f3.1 12 (by omega)), hz⟩
  · obtain ⟨q1, q2, q3, q4⟩ := hp'
    have h60 : 60 < 61 := by omega
    rw [s_M_up_25]
    simp (disch := first | assumption | omega | decide | exact zin_d (by assumption) (by omega) (by omega) | (simp only [zb01]; done)) only [s_M_up_26, s_M_up_28, s_M_up_31, s_M_up_32, zlt, zle, zeq, zclamp, zinc, zdec, zdi, zdr, zdl, zdn, zpi, zpn, if_true, if_false, ite_not, Bool.false_eq_true, ne_eq, not_true_eq_false, not_false_eq_true, true_and, and_true, Nat.add_assoc, Nat.reduceAdd, zlL_60, zlR_60, zeL_60, zeR_60, zqL_60, zcl_60, zift, ziff]
    exact fin σ2 (-9) (nI 61) o4 q3 q2 (by rw [show (-9 : Int32) = zf p 61 (61 - 61) from rfl, ← q4]; exact hQ)
theorem M_up (hR : WX σ a) (hQ : ∀ σ', WX σ' (c_up a w).2 → Q (some (.int (c_up a w).1)) σ') : Ev zshM 219 0 [some (.ref 0), some (.int w), none, none, none] [] σ Q := by
  have hok := hR.1.2.1
  rw [c_up] at hQ
  by_cases w0 : w = 0
  · subst w0
    rw [if_pos rfl] at hQ
    have key : ∀ j σ2 (o4 : Option Value), j < 61 → WMd σ2 (daysS j a.1) → Ev zshM 219 35 [some (.ref 0), some (.int 0), some (.int (-9)), some (.int (nI j)), o4] [] σ2 Q = Ev zshM 219 75 [some (.ref 0), some (.int 0), some (.int (-9)), some (.int (nI j)), o4] [.int (if ¬ (daysS j a.1).1.1 < 12 ∧ stB (daysS j a.1) = true then 1 else 0)] σ2 Q := by
      intro j σ2 o4 hj h2
      have hD := daysS_ok hok j
      have h12 := hD.1.1
      by_cases h : (daysS j a.1).1.1 < 12
      · have h' : ¬ (daysS j a.1).1.1 = 12 := by omega
        have hp : ¬ (¬ (daysS j a.1).1.1 < 12 ∧ stB (daysS j a.1) = true) := fun z => z.1 h
        rw [if_neg hp]
        simp (disch := first | assumption | omega | decide | exact zin_d (by assumption) (by omega) (by omega) | (simp only [zb01]; done)) only [s_M_up_35, s_M_up_36, s_M_up_39, s_M_up_40, s_M_up_43, s_M_up_45, s_M_up_48, s_M_up_49, s_M_up_52, s_M_up_55, s_M_up_56, s_M_up_59, s_M_up_60, s_M_up_63, s_M_up_64, s_M_up_67, s_M_up_70, s_M_up_71, s_M_up_74, zlt, zle, zeq, zclamp, zinc, zdec, zdi, zdr, zdl, zdn, zpi, zpn, if_true, if_false, ite_not, Bool.false_eq_true, ne_eq, not_true_eq_false, not_false_eq_true, true_and, and_true, Nat.add_assoc, Nat.reduceAdd, zlL_12, zlR_12, zeL_12, zeR_12, zqL_12, zcl_12, h2.1.2.1, zift, ziff]
      · have h' : (daysS j a.1).1.1 = 12 := by omega
        by_cases hs : stB (daysS j a.1) = true
        · have hs' : stndB (daysS j a.1).1.1 (daysS j a.1).1.2.1 (daysS j a.1).1.2.2.1 (daysS j a.1).1.2.2.2 = true := hs
          rw [if_pos ⟨h, hs⟩]
          simp (disch := first | assumption | omega | decide | exact zin_d (by assumption) (by omega) (by omega) | (simp only [zb01]; done)) only [s_M_up_35, s_M_up_36, s_M_up_39, s_M_up_40, s_M_up_43, s_M_up_45, s_M_up_48, s_M_up_49, s_M_up_52, s_M_up_55, s_M_up_56, s_M_up_59, s_M_up_60, s_M_up_63, s_M_up_64, s_M_up_67, s_M_up_70, s_M_up_71, s_M_up_74, zlt, zle, zeq, zclamp, zinc, zdec, zdi, zdr, zdl, zdn, zpi, zpn, if_true, if_false, ite_not, Bool.false_eq_true, ne_eq, not_true_eq_false, not_false_eq_true, true_and, and_true, Nat.add_assoc, Nat.reduceAdd, zlL_12, zlR_12, zeL_12, zeR_12, zqL_12, zcl_12, h2.1.2.1, M_isUpright h2.1 hD.1.F, zift, ziff]
        · have hs' : ¬ stndB (daysS j a.1).1.1 (daysS j a.1).1.2.1 (daysS j a.1).1.2.2.1 (daysS j a.1).1.2.2.2 = true := hs
          have hp : ¬ (¬ (daysS j a.1).1.1 < 12 ∧ stB (daysS j a.1) = true) := fun z => hs z.2
          rw [if_neg hp]
          simp (disch := first | assumption | omega | decide | exact zin_d (by assumption) (by omega) (by omega) | (simp only [zb01]; done)) only [s_M_up_35, s_M_up_36, s_M_up_39, s_M_up_40, s_M_up_43, s_M_up_45, s_M_up_48, s_M_up_49, s_M_up_52, s_M_up_55, s_M_up_56, s_M_up_59, s_M_up_60, s_M_up_63, s_M_up_64, s_M_up_67, s_M_up_70, s_M_up_71, s_M_up_74, zlt, zle, zeq, zclamp, zinc, zdec, zdi, zdr, zdl, zdn, zpi, zpn, if_true, if_false, ite_not, Bool.false_eq_true, ne_eq, not_true_eq_false, not_false_eq_true, true_and, and_true, Nat.add_assoc, Nat.reduceAdd, zlL_12, zlR_12, zeL_12, zeR_12, zqL_12, zcl_12, h2.1.2.1, M_isUpright h2.1 hD.1.F, zift, ziff]
    exact M_upX hR (p := fun k => ¬ (daysS k a.1).1.1 < 12 ∧ stB (daysS k a.1) = true) rfl key hQ
  rw [if_neg w0] at hQ
  by_cases w1 : w = 1
  · subst w1
    rw [if_pos rfl] at hQ
    have key : ∀ j σ2 (o4 : Option Value), j < 61 → WMd σ2 (daysS j a.1) → Ev zshM 219 35 [some (.ref 0), some (.int 1), some (.int (-9)), some (.int (nI j)), o4] [] σ2 Q = Ev zshM 219 75 [some (.ref 0), some (.int 1), some (.int (-9)), some (.int (nI j)), o4] [.int (if ¬ stB (daysS j a.1) = true then 1 else 0)] σ2 Q := by
      intro j σ2 o4 hj h2
      have hD := daysS_ok hok j
      by_cases hs : stB (daysS j a.1) = true
      · have hs' : stndB (daysS j a.1).1.1 (daysS j a.1).1.2.1 (daysS j a.1).1.2.2.1 (daysS j a.1).1.2.2.2 = true := hs
        have hn : ¬ ¬ stB (daysS j a.1) = true := fun z => z hs
        rw [if_neg hn]
        simp (disch := first | assumption | omega | decide | exact zin_d (by assumption) (by omega) (by omega) | (simp only [zb01]; done)) only [s_M_up_35, s_M_up_36, s_M_up_39, s_M_up_40, s_M_up_43, s_M_up_45, s_M_up_48, s_M_up_49, s_M_up_52, s_M_up_55, s_M_up_56, s_M_up_59, s_M_up_60, s_M_up_63, s_M_up_64, s_M_up_67, s_M_up_70, s_M_up_71, s_M_up_74, zlt, zle, zeq, zclamp, zinc, zdec, zdi, zdr, zdl, zdn, zpi, zpn, if_true, if_false, ite_not, Bool.false_eq_true, ne_eq, not_true_eq_false, not_false_eq_true, true_and, and_true, Nat.add_assoc, Nat.reduceAdd, M_isUpright h2.1 hD.1.F, zift, ziff]
      · have hs' : ¬ stndB (daysS j a.1).1.1 (daysS j a.1).1.2.1 (daysS j a.1).1.2.2.1 (daysS j a.1).1.2.2.2 = true := hs
        rw [if_pos hs]
        simp (disch := first | assumption | omega | decide | exact zin_d (by assumption) (by omega) (by omega) | (simp only [zb01]; done)) only [s_M_up_35, s_M_up_36, s_M_up_39, s_M_up_40, s_M_up_43, s_M_up_45, s_M_up_48, s_M_up_49, s_M_up_52, s_M_up_55, s_M_up_56, s_M_up_59, s_M_up_60, s_M_up_63, s_M_up_64, s_M_up_67, s_M_up_70, s_M_up_71, s_M_up_74, zlt, zle, zeq, zclamp, zinc, zdec, zdi, zdr, zdl, zdn, zpi, zpn, if_true, if_false, ite_not, Bool.false_eq_true, ne_eq, not_true_eq_false, not_false_eq_true, true_and, and_true, Nat.add_assoc, Nat.reduceAdd, M_isUpright h2.1 hD.1.F, zift, ziff]
    exact M_upX hR (p := fun k => ¬ stB (daysS k a.1) = true) rfl key hQ
  rw [if_neg w1] at hQ
  have hb := btw01 w0 w1
  simp (disch := first | assumption | omega | decide | exact zin_d (by assumption) (by omega) (by omega) | (simp only [zb01]; done)) only [s_M_up_0, s_M_up_1, s_M_up_2, s_M_up_3, s_M_up_6, s_M_up_9, s_M_up_10, s_M_up_12, s_M_up_15, s_M_up_16, s_M_up_17, s_M_up_20, s_M_up_22, s_M_up_23, s_M_up_24, s_M_up_26, s_M_up_28, s_M_up_31, s_M_up_32, s_M_up_35, s_M_up_36, s_M_up_39, s_M_up_40, s_M_up_43, s_M_up_45, s_M_up_48, s_M_up_49, s_M_up_52, s_M_up_55, s_M_up_56, s_M_up_59, s_M_up_60, s_M_up_63, s_M_up_64, s_M_up_67, s_M_up_70, s_M_up_71, s_M_up_74, s_M_up_75, s_M_up_77, s_M_up_79, s_M_up_82, s_M_up_83, s_M_up_86, s_M_up_88, s_M_up_89, s_M_up_90, s_M_up_91, s_M_up_94, s_M_up_97, s_M_up_100, s_M_up_101, s_M_up_104, s_M_up_105, zlt, zle, zeq, zclamp, zinc, zdec, zdi, zdr, zdl, zdn, zpi, zpn, if_true, if_false, ite_not, Bool.false_eq_true, ne_eq, not_true_eq_false, not_false_eq_true, true_and, and_true, Nat.add_assoc, Nat.reduceAdd, M_isIn, zift, ziff]
  refine M_no hR ref2 (fun σ' h => ?_)
  simp (disch := first | assumption | omega | decide | exact zin_d (by assumption) (by omega) (by omega) | (simp only [zb01]; done)) only [s_M_up_0, s_M_up_1, s_M_up_2, s_M_up_3, s_M_up_6, s_M_up_9, s_M_up_10, s_M_up_12, s_M_up_15, s_M_up_16, s_M_up_17, s_M_up_20, s_M_up_22, s_M_up_23, s_M_up_24, s_M_up_26, s_M_up_28, s_M_up_31, s_M_up_32, s_M_up_35, s_M_up_36, s_M_up_39, s_M_up_40, s_M_up_43, s_M_up_45, s_M_up_48, s_M_up_49, s_M_up_52, s_M_up_55, s_M_up_56, s_M_up_59, s_M_up_60, s_M_up_63, s_M_up_64, s_M_up_67, s_M_up_70, s_M_up_71, s_M_up_74, s_M_up_75, s_M_up_77, s_M_up_79, s_M_up_82, s_M_up_83, s_M_up_86, s_M_up_88, s_M_up_89, s_M_up_90, s_M_up_91, s_M_up_94, s_M_up_97, s_M_up_100, s_M_up_101, s_M_up_104, s_M_up_105, zlt, zle, zeq, zclamp, zinc, zdec, zdi, zdr, zdl, zdn, zpi, zpn, if_true, if_false, ite_not, Bool.false_eq_true, ne_eq, not_true_eq_false, not_false_eq_true, true_and, and_true, Nat.add_assoc, Nat.reduceAdd]
  exact hQ σ' h
theorem M_peace (hR : WX σ a) (hQ : ∀ σ', WX σ' (c_peace a).2 → Q (some (.int (c_peace a).1)) σ') : Ev zshM 237 0 [some (.ref 0), none] [] σ Q := by
  have hok := hR.1.2.1
  have e60 : (60 : Int32) = nI 60 := rfl
  dsimp only [c_peace] at hQ
  simp (disch := first | assumption | omega | decide | exact zin_d (by assumption) (by omega) (by omega) | (simp only [zb01]; done)) only [s_M_peace_0, s_M_peace_1, s_M_peace_3, s_M_peace_5, s_M_peace_8, s_M_peace_9, s_M_peace_10, s_M_peace_13, s_M_peace_14, s_M_peace_15, s_M_peace_17, s_M_peace_18, s_M_peace_21, s_M_peace_24, s_M_peace_25, s_M_peace_26, s_M_peace_29, s_M_peace_32, s_M_peace_34, zlt, zle, zeq, zclamp, zinc, zdec, zdi, zdr, zdl, zdn, zpi, zpn, if_true, if_false, ite_not, Bool.false_eq_true, ne_eq, not_true_eq_false, not_false_eq_true, true_and, and_true, Nat.add_assoc, Nat.reduceAdd]
  refine loopI (α := Unit) (N := 61) (fun _ σ2 j => Ev zshM 237 2 [some (.ref 0), some (.int (nI j))] [] σ2 Q) (fun j σ2 => WMd σ2 a.1 ∧ frT σ σ2 ∧ peaS a.1 = zf (fun k => (daysS k a.1).2.2.2.1 = (daysS (k + 10) a.1).2.2.2.1) j (61 - j)) (fun _ j σ2 hj hp' kk => ?_) (fun _ σ2 hp' => ?_) 0 () σ (by omega) ⟨hR.1.1, frT.rf, rfl⟩
  · obtain ⟨q1, q2, q3⟩ := hp'
    rw [show 61 - j = (61 - (j + 1)) + 1 by omega, zf] at q3
    have hj60 : ¬ 60 < j := by omega
    have e10 : nI j + 10 = nI (j + 10) := nI_add j 10
    rw [s_M_peace_2]
    simp (disch := first | assumption | omega | decide | exact zin_d (by assumption) (by omega) (by omega) | (simp only [zb01]; done)) only [s_M_peace_0, s_M_peace_1, s_M_peace_3, s_M_peace_5, s_M_peace_8, s_M_peace_9, s_M_peace_10, s_M_peace_13, s_M_peace_14, s_M_peace_15, s_M_peace_17, s_M_peace_18, s_M_peace_21, s_M_peace_24, s_M_peace_25, s_M_peace_26, s_M_peace_29, s_M_peace_32, s_M_peace_34, zlt, zle, zeq, zclamp, zinc, zdec, zdi, zdr, zdl, zdn, zpi, zpn, if_true, if_false, ite_not, Bool.false_eq_true, ne_eq, not_true_eq_false, not_false_eq_true, true_and, and_true, Nat.add_assoc, Nat.reduceAdd, zlL_60, zlR_60, zeL_60, zeR_60, zqL_60, zcl_60, ziff]
    refine M_quarrelsIn q1 hok (by omega) (fun σ3 h3 f3 => ?_)
    simp (disch := first | assumption | omega | decide | exact zin_d (by assumption) (by omega) (by omega) | (simp only [zb01]; done)) only [s_M_peace_0, s_M_peace_1, s_M_peace_3, s_M_peace_5, s_M_peace_8, s_M_peace_9, s_M_peace_10, s_M_peace_13, s_M_peace_14, s_M_peace_15, s_M_peace_17, s_M_peace_18, s_M_peace_21, s_M_peace_24, s_M_peace_25, s_M_peace_26, s_M_peace_29, s_M_peace_32, s_M_peace_34, zlt, zle, zeq, zclamp, zinc, zdec, zdi, zdr, zdl, zdn, zpi, zpn, if_true, if_false, ite_not, Bool.false_eq_true, ne_eq, not_true_eq_false, not_false_eq_true, true_and, and_true, Nat.add_assoc, Nat.reduceAdd, e10]
    refine M_quarrelsIn h3 hok (by omega) (fun σ4 h4 f4 => ?_)
    by_cases h : (daysS j a.1).2.2.2.1 = (daysS (j + 10) a.1).2.2.2.1
    · rw [if_pos h] at q3
      simp (disch := first | assumption | omega | decide | exact zin_d (by assumption) (by omega) (by omega) | (simp only [zb01]; done)) only [s_M_peace_0, s_M_peace_1, s_M_peace_3, s_M_peace_5, s_M_peace_8, s_M_peace_9, s_M_peace_10, s_M_peace_13, s_M_peace_14, s_M_peace_15, s_M_peace_17, s_M_peace_18, s_M_peace_21, s_M_peace_24, s_M_peace_25, s_M_peace_26, s_M_peace_29, s_M_peace_32, s_M_peace_34, zlt, zle, zeq, zclamp, zinc, zdec, zdi, zdr, zdl, zdn, zpi, zpn, if_true, if_false, ite_not, Bool.false_eq_true, ne_eq, not_true_eq_false, not_false_eq_true, true_and, and_true, Nat.add_assoc, Nat.reduceAdd, ziff, zift]
      rw [← q3]
      exact hQ σ4 (hR.T h4 ((q2.tr f3).tr f4))
    · rw [if_neg h] at q3
      simp (disch := first | assumption | omega | decide | exact zin_d (by assumption) (by omega) (by omega) | (simp only [zb01]; done)) only [s_M_peace_0, s_M_peace_1, s_M_peace_3, s_M_peace_5, s_M_peace_8, s_M_peace_9, s_M_peace_10, s_M_peace_13, s_M_peace_14, s_M_peace_15, s_M_peace_17, s_M_peace_18, s_M_peace_21, s_M_peace_24, s_M_peace_25, s_M_peace_26, s_M_peace_29, s_M_peace_32, s_M_peace_34, zlt, zle, zeq, zclamp, zinc, zdec, zdi, zdr, zdl, zdn, zpi, zpn, if_true, if_false, ite_not, Bool.false_eq_true, ne_eq, not_true_eq_false, not_false_eq_true, true_and, and_true, Nat.add_assoc, Nat.reduceAdd, ziff, zift]
      exact kk () σ4 ⟨h4, (q2.tr f3).tr f4, q3⟩
  · obtain ⟨q1, q2, q3⟩ := hp'
    have h60 : 60 < 61 := by omega
    rw [s_M_peace_2]
    simp (disch := first | assumption | omega | decide | exact zin_d (by assumption) (by omega) (by omega) | (simp only [zb01]; done)) only [s_M_peace_0, s_M_peace_1, s_M_peace_3, s_M_peace_5, s_M_peace_8, s_M_peace_9, s_M_peace_10, s_M_peace_13, s_M_peace_14, s_M_peace_15, s_M_peace_17, s_M_peace_18, s_M_peace_21, s_M_peace_24, s_M_peace_25, s_M_peace_26, s_M_peace_29, s_M_peace_32, s_M_peace_34, zlt, zle, zeq, zclamp, zinc, zdec, zdi, zdr, zdl, zdn, zpi, zpn, if_true, if_false, ite_not, Bool.false_eq_true, ne_eq, not_true_eq_false, not_false_eq_true, true_and, and_true, Nat.add_assoc, Nat.reduceAdd, zlL_60, zlR_60, zeL_60, zeR_60, zqL_60, zcl_60, zift]
    have e9 : peaS a.1 = -9 := q3
    rw [← e9]
    exact hQ σ2 (hR.T q1 q2)
theorem swpS_ok (h : Bok β) : Bok (swpS β) := ⟨h.1, ⟨h.2.2.1.1, h.2.1.2⟩, ⟨h.2.1.1, h.2.2.1.2⟩, h.2.2.2⟩
theorem M_swapsStyles (hW : WMd σ β) (hQ : ∀ σ', WMd σ' (swpS β) → frT σ σ' → Q none σ') : Ev zshM 239 0 [some (.ref 0), none] [] σ Q := by
  have z5 : zshM 5 = 100 + 2 := rfl
  have i0 : (0 : Nat) < 2 := by omega
  have i1 : (1 : Nat) < 2 := by omega
  have zi0 : zin 0 (zshM 5) = true := zin_d (i := 0) z5 (by omega) (by omega)
  have zi1 : zin 1 (zshM 5) = true := zin_d (i := 1) z5 (by omega) (by omega)
  simp (disch := first | assumption | omega | decide | exact zin_d (by assumption) (by omega) (by omega) | (simp only [zb01]; done)) only [s_M_swapsStyles_0, s_M_swapsStyles_1, s_M_swapsStyles_4, s_M_swapsStyles_5, s_M_swapsStyles_6, s_M_swapsStyles_7, s_M_swapsStyles_8, s_M_swapsStyles_11, s_M_swapsStyles_12, s_M_swapsStyles_13, s_M_swapsStyles_16, s_M_swapsStyles_17, s_M_swapsStyles_18, s_M_swapsStyles_19, s_M_swapsStyles_20, s_M_swapsStyles_23, s_M_swapsStyles_24, s_M_swapsStyles_25, s_M_swapsStyles_26, zlt, zle, zeq, zclamp, zinc, zdec, zdi, zdr, zdl, zdn, zpi, zpn, if_true, if_false, ite_not, Bool.false_eq_true, ne_eq, not_true_eq_false, not_false_eq_true, true_and, and_true, Nat.add_assoc, Nat.reduceAdd, zlL_0, zlR_0, zeL_0, zeR_0, zqL_0, zcl_0, zlL_1, zlR_1, zeL_1, zeR_1, zqL_1, zcl_1, zup_ne, zup_self, pk_us, pk_un]
  refine hQ _ ?_ ((frM.z (by omega)).tr (frM.z (by omega))).T
  obtain ⟨hK, ⟨h5, h6, h7⟩, ⟨i5, i6, i7⟩, hq, hd⟩ := hW
  refine ⟨hK.keep (by simp (disch := first | assumption | omega | decide | exact zin_d (by assumption) (by omega) (by omega) | (simp only [zb01]; done)) only [zup_ne, zup_self, pk_us, pk_un]) (fun a _ _ => ?_), ⟨?_, ?_, ?_⟩, ⟨?_, ?_, ?_⟩, ?_, ?_⟩
  · simp (disch := first | assumption | omega | decide | exact zin_d (by assumption) (by omega) (by omega) | (simp only [zb01]; done)) only [zup_ne, zup_self, pk_us, pk_un]
  · simp (disch := first | assumption | omega | decide | exact zin_d (by assumption) (by omega) (by omega) | (simp only [zb01]; done)) only [zup_ne, zup_self, pk_us, pk_un]; exact i5
  · simp (disch := first | assumption | omega | decide | exact zin_d (by assumption) (by omega) (by omega) | (simp only [zb01]; done)) only [zup_ne, zup_self, pk_us, pk_un]; exact h6
  · simp (disch := first | assumption | omega | decide | exact zin_d (by assumption) (by omega) (by omega) | (simp only [zb01]; done)) only [zup_ne, zup_self, pk_us, pk_un]; exact h7
  · simp (disch := first | assumption | omega | decide | exact zin_d (by assumption) (by omega) (by omega) | (simp only [zb01]; done)) only [zup_ne, zup_self, pk_us, pk_un]; exact h5
  · simp (disch := first | assumption | omega | decide | exact zin_d (by assumption) (by omega) (by omega) | (simp only [zb01]; done)) only [zup_ne, zup_self, pk_us, pk_un]; exact i6
  · simp (disch := first | assumption | omega | decide | exact zin_d (by assumption) (by omega) (by omega) | (simp only [zb01]; done)) only [zup_ne, zup_self, pk_us, pk_un]; exact i7
  · simp (disch := first | assumption | omega | decide | exact zin_d (by assumption) (by omega) (by omega) | (simp only [zb01]; done)) only [zup_ne, zup_self, pk_us, pk_un]; exact hq
  · simp (disch := first | assumption | omega | decide | exact zin_d (by assumption) (by omega) (by omega) | (simp only [zb01]; done)) only [zup_ne, zup_self, pk_us, pk_un]; exact hd
theorem M_swap (hR : WX σ a) (hQ : ∀ σ', WX σ' (c_swap a n).2 → Q (some (.int (c_swap a n).1)) σ') : Ev zshM 240 0 [some (.ref 0), some (.int n), none, none, none] [] σ Q := by
  have hok := hR.1.2.1
  rw [c_swap] at hQ
  by_cases ho : outs n 0 60 = 0
  · rw [if_pos ho] at hQ
    obtain ⟨i, hi, rfl⟩ := in_le (n := 60) (by omega) (show 0 ≤ n ∧ n ≤ nI 60 from ⟨Int32.le_trans (by decide : (0 : Int32) ≤ 0) (outs_in ho).1, (outs_in ho).2⟩)
    rw [zclamp (by omega)] at hQ
    simp (disch := first | assumption | omega | decide | exact zin_d (by assumption) (by omega) (by omega) | (simp only [zb01]; done)) only [s_M_swap_0, s_M_swap_1, s_M_swap_2, s_M_swap_4, s_M_swap_7, s_M_swap_8, s_M_swap_9, s_M_swap_12, s_M_swap_13, s_M_swap_14, s_M_swap_17, s_M_swap_18, s_M_swap_19, s_M_swap_20, s_M_swap_23, s_M_swap_24, s_M_swap_25, s_M_swap_28, s_M_swap_29, s_M_swap_30, s_M_swap_33, s_M_swap_35, s_M_swap_36, s_M_swap_39, s_M_swap_41, s_M_swap_42, s_M_swap_45, s_M_swap_46, s_M_swap_49, s_M_swap_50, zlt, zle, zeq, zclamp, zinc, zdec, zdi, zdr, zdl, zdn, zpi, zpn, if_true, if_false, ite_not, Bool.false_eq_true, ne_eq, not_true_eq_false, not_false_eq_true, true_and, and_true, Nat.add_assoc, Nat.reduceAdd, M_bound, ho, zift, ziff]
    refine M_stonesIn hR.1.1 hok (by omega) (fun σ1 h1 f1 => ?_)
    simp (disch := first | assumption | omega | decide | exact zin_d (by assumption) (by omega) (by omega) | (simp only [zb01]; done)) only [s_M_swap_0, s_M_swap_1, s_M_swap_2, s_M_swap_4, s_M_swap_7, s_M_swap_8, s_M_swap_9, s_M_swap_12, s_M_swap_13, s_M_swap_14, s_M_swap_17, s_M_swap_18, s_M_swap_19, s_M_swap_20, s_M_swap_23, s_M_swap_24, s_M_swap_25, s_M_swap_28, s_M_swap_29, s_M_swap_30, s_M_swap_33, s_M_swap_35, s_M_swap_36, s_M_swap_39, s_M_swap_41, s_M_swap_42, s_M_swap_45, s_M_swap_46, s_M_swap_49, s_M_swap_50, zlt, zle, zeq, zclamp, zinc, zdec, zdi, zdr, zdl, zdn, zpi, zpn, if_true, if_false, ite_not, Bool.false_eq_true, ne_eq, not_true_eq_false, not_false_eq_true, true_and, and_true, Nat.add_assoc, Nat.reduceAdd]
    refine M_swapsStyles h1 (fun σ2 h2 f2 => ?_)
    simp (disch := first | assumption | omega | decide | exact zin_d (by assumption) (by omega) (by omega) | (simp only [zb01]; done)) only [s_M_swap_0, s_M_swap_1, s_M_swap_2, s_M_swap_4, s_M_swap_7, s_M_swap_8, s_M_swap_9, s_M_swap_12, s_M_swap_13, s_M_swap_14, s_M_swap_17, s_M_swap_18, s_M_swap_19, s_M_swap_20, s_M_swap_23, s_M_swap_24, s_M_swap_25, s_M_swap_28, s_M_swap_29, s_M_swap_30, s_M_swap_33, s_M_swap_35, s_M_swap_36, s_M_swap_39, s_M_swap_41, s_M_swap_42, s_M_swap_45, s_M_swap_46, s_M_swap_49, s_M_swap_50, zlt, zle, zeq, zclamp, zinc, zdec, zdi, zdr, zdl, zdn, zpi, zpn, if_true, if_false, ite_not, Bool.false_eq_true, ne_eq, not_true_eq_false, not_false_eq_true, true_and, and_true, Nat.add_assoc, Nat.reduceAdd]
    refine M_stonesIn h2 (swpS_ok hok) (by omega) (fun σ3 h3 f3 => ?_)
    simp (disch := first | assumption | omega | decide | exact zin_d (by assumption) (by omega) (by omega) | (simp only [zb01]; done)) only [s_M_swap_0, s_M_swap_1, s_M_swap_2, s_M_swap_4, s_M_swap_7, s_M_swap_8, s_M_swap_9, s_M_swap_12, s_M_swap_13, s_M_swap_14, s_M_swap_17, s_M_swap_18, s_M_swap_19, s_M_swap_20, s_M_swap_23, s_M_swap_24, s_M_swap_25, s_M_swap_28, s_M_swap_29, s_M_swap_30, s_M_swap_33, s_M_swap_35, s_M_swap_36, s_M_swap_39, s_M_swap_41, s_M_swap_42, s_M_swap_45, s_M_swap_46, s_M_swap_49, s_M_swap_50, zlt, zle, zeq, zclamp, zinc, zdec, zdi, zdr, zdl, zdn, zpi, zpn, if_true, if_false, ite_not, Bool.false_eq_true, ne_eq, not_true_eq_false, not_false_eq_true, true_and, and_true, Nat.add_assoc, Nat.reduceAdd]
    refine M_swapsStyles h3 (fun σ4 h4 f4 => ?_)
    have hq := hQ σ4 (hR.T h4 (((f1.tr f2).tr f3).tr f4))
    have l1 := (daysS_ok hok i).1.1
    have l2 := (daysS_ok (swpS_ok hok) i).1.1
    by_cases h : (daysS i a.1).1.1 < (daysS i (swpS a.1)).1.1
    · have h' : ¬ (daysS i (swpS a.1)).1.1 ≤ (daysS i a.1).1.1 := by omega
      rw [if_pos h] at hq
      simp (disch := first | assumption | omega | decide | exact zin_d (by assumption) (by omega) (by omega) | (simp only [zb01]; done)) only [s_M_swap_0, s_M_swap_1, s_M_swap_2, s_M_swap_4, s_M_swap_7, s_M_swap_8, s_M_swap_9, s_M_swap_12, s_M_swap_13, s_M_swap_14, s_M_swap_17, s_M_swap_18, s_M_swap_19, s_M_swap_20, s_M_swap_23, s_M_swap_24, s_M_swap_25, s_M_swap_28, s_M_swap_29, s_M_swap_30, s_M_swap_33, s_M_swap_35, s_M_swap_36, s_M_swap_39, s_M_swap_41, s_M_swap_42, s_M_swap_45, s_M_swap_46, s_M_swap_49, s_M_swap_50, zlt, zle, zeq, zclamp, zinc, zdec, zdi, zdr, zdl, zdn, zpi, zpn, if_true, if_false, ite_not, Bool.false_eq_true, ne_eq, not_true_eq_false, not_false_eq_true, true_and, and_true, Nat.add_assoc, Nat.reduceAdd, ziff]
      exact hq
    · have h' : (daysS i (swpS a.1)).1.1 ≤ (daysS i a.1).1.1 := by omega
      rw [if_neg h] at hq
      simp (disch := first | assumption | omega | decide | exact zin_d (by assumption) (by omega) (by omega) | (simp only [zb01]; done)) only [s_M_swap_0, s_M_swap_1, s_M_swap_2, s_M_swap_4, s_M_swap_7, s_M_swap_8, s_M_swap_9, s_M_swap_12, s_M_swap_13, s_M_swap_14, s_M_swap_17, s_M_swap_18, s_M_swap_19, s_M_swap_20, s_M_swap_23, s_M_swap_24, s_M_swap_25, s_M_swap_28, s_M_swap_29, s_M_swap_30, s_M_swap_33, s_M_swap_35, s_M_swap_36, s_M_swap_39, s_M_swap_41, s_M_swap_42, s_M_swap_45, s_M_swap_46, s_M_swap_49, s_M_swap_50, zlt, zle, zeq, zclamp, zinc, zdec, zdi, zdr, zdl, zdn, zpi, zpn, if_true, if_false, ite_not, Bool.false_eq_true, ne_eq, not_true_eq_false, not_false_eq_true, true_and, and_true, Nat.add_assoc, Nat.reduceAdd, zift]
      exact hq
  · rw [if_neg ho] at hQ
    simp (disch := first | assumption | omega | decide | exact zin_d (by assumption) (by omega) (by omega) | (simp only [zb01]; done)) only [s_M_swap_0, s_M_swap_1, s_M_swap_2, s_M_swap_4, s_M_swap_7, s_M_swap_8, s_M_swap_9, s_M_swap_12, s_M_swap_13, s_M_swap_14, s_M_swap_17, s_M_swap_18, s_M_swap_19, s_M_swap_20, s_M_swap_23, s_M_swap_24, s_M_swap_25, s_M_swap_28, s_M_swap_29, s_M_swap_30, s_M_swap_33, s_M_swap_35, s_M_swap_36, s_M_swap_39, s_M_swap_41, s_M_swap_42, s_M_swap_45, s_M_swap_46, s_M_swap_49, s_M_swap_50, zlt, zle, zeq, zclamp, zinc, zdec, zdi, zdr, zdl, zdn, zpi, zpn, if_true, if_false, ite_not, Bool.false_eq_true, ne_eq, not_true_eq_false, not_false_eq_true, true_and, and_true, Nat.add_assoc, Nat.reduceAdd, M_bound, zift, ziff]
    refine M_no hR (outs_ref ho) (fun σ' h => ?_)
    simp (disch := first | assumption | omega | decide | exact zin_d (by assumption) (by omega) (by omega) | (simp only [zb01]; done)) only [s_M_swap_0, s_M_swap_1, s_M_swap_2, s_M_swap_4, s_M_swap_7, s_M_swap_8, s_M_swap_9, s_M_swap_12, s_M_swap_13, s_M_swap_14, s_M_swap_17, s_M_swap_18, s_M_swap_19, s_M_swap_20, s_M_swap_23, s_M_swap_24, s_M_swap_25, s_M_swap_28, s_M_swap_29, s_M_swap_30, s_M_swap_33, s_M_swap_35, s_M_swap_36, s_M_swap_39, s_M_swap_41, s_M_swap_42, s_M_swap_45, s_M_swap_46, s_M_swap_49, s_M_swap_50, zlt, zle, zeq, zclamp, zinc, zdec, zdi, zdr, zdl, zdn, zpi, zpn, if_true, if_false, ite_not, Bool.false_eq_true, ne_eq, not_true_eq_false, not_false_eq_true, true_and, and_true, Nat.add_assoc, Nat.reduceAdd]
    exact hQ σ' h
end
