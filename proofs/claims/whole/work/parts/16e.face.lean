def c_then (a : At) (n w : Int32) : Int32 × At := if outs n 0 60 = 0 then (if w = 0 then (nI (daysS n.toNatClampNeg a.1).1.1, a) else if w = 1 then ((daysS n.toNatClampNeg a.1).2.2.2.1, a) else if w = 2 then (if stB (daysS n.toNatClampNeg a.1) = true then 1 else 0, a) else refO (-2) a) else refO (outs n 0 60) a
def c_up (a : At) (w : Int32) : Int32 × At := if w = 0 then (upS a.1, a) else if w = 1 then (fallS a.1, a) else refO (-2) a
def c_next (a : At) (m : Int32) : Int32 × At := if m = 0 ∨ m = 1 then ((bestK a.1.1.1 a.1.1.2.1 a.1.1.2.2.1 a.1.1.2.2.2 m 6).1, a) else refO (-1) a
def c_mend (a : At) : Int32 × At := (mendS a.1.1.1 a.1.1.2.1 a.1.1.2.2.1 a.1.1.2.2.2, a)
def c_fewest (a : At) : Int32 × At := (fewS a.1.1.1 a.1.1.2.1 a.1.1.2.2.1 a.1.1.2.2.2, a)
def c_take (a : At) : Int32 × At := (takS a.1.1.1 a.1.1.2.1 a.1.1.2.2.1 a.1.1.2.2.2, a)
def c_turnBack (a : At) : Int32 × At := ((trnS a.1.1.1 a.1.1.2.1 a.1.1.2.2.1 a.1.1.2.2.2 a.1.1.1).1, a)
def c_peace (a : At) : Int32 × At := (peaS a.1, a)
def c_yields (a : At) (n : Int32) : Int32 × At := if outs n 0 60 = 0 then ((yldS a.1 n.toNatClampNeg 2).2, a) else refO (outs n 0 60) a
def c_two (a : At) (n : Int32) : Int32 × At := if outs n 0 30 = 0 then (twoS a.1 n.toNatClampNeg, a) else refO (outs n 0 30) a
def c_swap (a : At) (n : Int32) : Int32 × At := if outs n 0 60 = 0 then (if (daysS n.toNatClampNeg a.1).1.1 < (daysS n.toNatClampNeg (swpS a.1)).1.1 then 1 else 0, a) else refO (outs n 0 60) a
def c_lots (a : At) (n z w : Int32) : Int32 × At := if outs n 1 20 = 0 then (if w = 0 then (stlS a.1 z n.toNatClampNeg, a) else if w = 1 then (qulS a.1 z n.toNatClampNeg, a) else refO (-2) a) else refO (outs n 1 20) a
def c_best (a : At) (m n w : Int32) : Int32 × At := if m = 0 ∨ m = 1 then (if outs n 0 20 = 0 then (if w = 0 then ((styS a.1 m n.toNatClampNeg 5).1, a) else if w = 1 then (lspB (daysS n.toNatClampNeg (withM a.1 m 0 (styS a.1 m n.toNatClampNeg 5).1)), a) else refF (-2) a) else refF (outs n 0 20) a) else refF (-1) a
theorem sty_num {β : Bt} {m : Int32} {n : Nat} : ∀ k, k ≤ 5 → num 5 (styS β m n k).1 := by
  intro k
  induction k with
  | zero => intro _; exact ⟨0, by omega, rfl⟩
  | succ k ih =>
    intro hk
    rw [styS]
    split
    · exact ⟨k + 1, hk, rfl⟩
    · exact ih (by omega)
section
variable {σ : zG} {Q : Option Value → zG → Prop} {a : At} {x y z m w n : Int32}
theorem X_then (hR : RX σ a) (hQ : ∀ σ', RX σ' (c_then a n w).2 → Q (some (.int (c_then a n w).1)) σ') : Ev zshX 118 0 [some (.ref 0), some (.int n), some (.int w), none] [] σ Q := by
  have hS : WS σ 2 _ _ _ _ := hR.1.1.2.1
  have hok := hR.1.2.1
  have h12 := hok.1.1
  have hB := hR.1.1
  rw [c_then] at hQ
  by_cases ho : outs n 0 60 = 0
  · rw [if_pos ho] at hQ
    obtain ⟨i, hi, rfl⟩ := in_le (n := 60) (by omega) (show 0 ≤ n ∧ n ≤ nI 60 from ⟨Int32.le_trans (by decide : (0 : Int32) ≤ 0) (outs_in ho).1, (outs_in ho).2⟩)
    rw [zclamp (by omega)] at hQ
    by_cases w0 : w = 0
    · subst w0
      rw [if_pos rfl] at hQ
      simp (disch := first | assumption | omega | decide | exact zin_d (by assumption) (by omega) (by omega) | (simp only [zb01]; done)) only [s_X_then_0, s_X_then_1, s_X_then_2, s_X_then_4, s_X_then_7, s_X_then_8, s_X_then_9, s_X_then_12, s_X_then_13, s_X_then_14, s_X_then_17, s_X_then_18, s_X_then_19, s_X_then_44, s_X_then_45, s_X_then_48, s_X_then_49, s_X_then_52, s_X_then_55, s_X_then_58, s_X_then_59, s_X_then_60, s_X_then_63, s_X_then_64, s_X_then_67, s_X_then_70, s_X_then_71, s_X_then_72, s_X_then_75, s_X_then_76, s_X_then_79, s_X_then_82, s_X_then_85, s_X_then_88, s_X_then_89, s_X_then_90, s_X_then_92, s_X_then_95, zlt, zle, zeq, zclamp, zinc, zdec, zdi, zdr, zdl, zdn, zpi, zpn, if_true, if_false, ite_not, Bool.false_eq_true, ne_eq, not_true_eq_false, not_false_eq_true, true_and, and_true, Nat.add_assoc, Nat.reduceAdd, X_outside, ho, zift, ziff]
      refine Foresight_behind hB hok (by omega) (fun σ1 h1 f1 => ?_)
      have hS1 : WS σ1 28 _ _ _ _ := h1.2.1
      simp (disch := first | assumption | omega | decide | exact zin_d (by assumption) (by omega) (by omega) | (simp only [zb01]; done)) only [s_X_then_0, s_X_then_1, s_X_then_2, s_X_then_4, s_X_then_7, s_X_then_8, s_X_then_9, s_X_then_12, s_X_then_13, s_X_then_14, s_X_then_17, s_X_then_18, s_X_then_19, s_X_then_44, s_X_then_45, s_X_then_48, s_X_then_49, s_X_then_52, s_X_then_55, s_X_then_58, s_X_then_59, s_X_then_60, s_X_then_63, s_X_then_64, s_X_then_67, s_X_then_70, s_X_then_71, s_X_then_72, s_X_then_75, s_X_then_76, s_X_then_79, s_X_then_82, s_X_then_85, s_X_then_88, s_X_then_89, s_X_then_90, s_X_then_92, s_X_then_95, zlt, zle, zeq, zclamp, zinc, zdec, zdi, zdr, zdl, zdn, zpi, zpn, if_true, if_false, ite_not, Bool.false_eq_true, ne_eq, not_true_eq_false, not_false_eq_true, true_and, and_true, Nat.add_assoc, Nat.reduceAdd, Stones_number hS1.1.1, hS1.2.2.1]
      exact hQ σ1 (hR.keep (fun c g => f1 c (by omega)))
    rw [if_neg w0] at hQ
    by_cases w1 : w = 1
    · subst w1
      rw [if_pos rfl] at hQ
      simp (disch := first | assumption | omega | decide | exact zin_d (by assumption) (by omega) (by omega) | (simp only [zb01]; done)) only [s_X_then_0, s_X_then_1, s_X_then_2, s_X_then_4, s_X_then_7, s_X_then_8, s_X_then_9, s_X_then_12, s_X_then_13, s_X_then_14, s_X_then_17, s_X_then_18, s_X_then_19, s_X_then_44, s_X_then_45, s_X_then_48, s_X_then_49, s_X_then_52, s_X_then_55, s_X_then_58, s_X_then_59, s_X_then_60, s_X_then_63, s_X_then_64, s_X_then_67, s_X_then_70, s_X_then_71, s_X_then_72, s_X_then_75, s_X_then_76, s_X_then_79, s_X_then_82, s_X_then_85, s_X_then_88, s_X_then_89, s_X_then_90, s_X_then_92, s_X_then_95, zlt, zle, zeq, zclamp, zinc, zdec, zdi, zdr, zdl, zdn, zpi, zpn, if_true, if_false, ite_not, Bool.false_eq_true, ne_eq, not_true_eq_false, not_false_eq_true, true_and, and_true, Nat.add_assoc, Nat.reduceAdd, X_outside, ho, zift, ziff]
      refine Foresight_behind hB hok (by omega) (fun σ1 h1 f1 => ?_)
      have hS1 : WS σ1 28 _ _ _ _ := h1.2.1
      simp (disch := first | assumption | omega | decide | exact zin_d (by assumption) (by omega) (by omega) | (simp only [zb01]; done)) only [s_X_then_0, s_X_then_1, s_X_then_2, s_X_then_4, s_X_then_7, s_X_then_8, s_X_then_9, s_X_then_12, s_X_then_13, s_X_then_14, s_X_then_17, s_X_then_18, s_X_then_19, s_X_then_44, s_X_then_45, s_X_then_48, s_X_then_49, s_X_then_52, s_X_then_55, s_X_then_58, s_X_then_59, s_X_then_60, s_X_then_63, s_X_then_64, s_X_then_67, s_X_then_70, s_X_then_71, s_X_then_72, s_X_then_75, s_X_then_76, s_X_then_79, s_X_then_82, s_X_then_85, s_X_then_88, s_X_then_89, s_X_then_90, s_X_then_92, s_X_then_95, zlt, zle, zeq, zclamp, zinc, zdec, zdi, zdr, zdl, zdn, zpi, zpn, if_true, if_false, ite_not, Bool.false_eq_true, ne_eq, not_true_eq_false, not_false_eq_true, true_and, and_true, Nat.add_assoc, Nat.reduceAdd, h1.2.2.2.2.1]
      exact hQ σ1 (hR.keep (fun c g => f1 c (by omega)))
    rw [if_neg w1] at hQ
    by_cases w2 : w = 2
    · subst w2
      rw [if_pos rfl] at hQ
      simp (disch := first | assumption | omega | decide | exact zin_d (by assumption) (by omega) (by omega) | (simp only [zb01]; done)) only [s_X_then_0, s_X_then_1, s_X_then_2, s_X_then_4, s_X_then_7, s_X_then_8, s_X_then_9, s_X_then_12, s_X_then_13, s_X_then_14, s_X_then_17, s_X_then_18, s_X_then_19, s_X_then_44, s_X_then_45, s_X_then_48, s_X_then_49, s_X_then_52, s_X_then_55, s_X_then_58, s_X_then_59, s_X_then_60, s_X_then_63, s_X_then_64, s_X_then_67, s_X_then_70, s_X_then_71, s_X_then_72, s_X_then_75, s_X_then_76, s_X_then_79, s_X_then_82, s_X_then_85, s_X_then_88, s_X_then_89, s_X_then_90, s_X_then_92, s_X_then_95, zlt, zle, zeq, zclamp, zinc, zdec, zdi, zdr, zdl, zdn, zpi, zpn, if_true, if_false, ite_not, Bool.false_eq_true, ne_eq, not_true_eq_false, not_false_eq_true, true_and, and_true, Nat.add_assoc, Nat.reduceAdd, X_outside, ho, zift, ziff]
      refine Foresight_behind hB hok (by omega) (fun σ1 h1 f1 => ?_)
      have hS1 : WS σ1 28 _ _ _ _ := h1.2.1
      simp (disch := first | assumption | omega | decide | exact zin_d (by assumption) (by omega) (by omega) | (simp only [zb01]; done)) only [s_X_then_0, s_X_then_1, s_X_then_2, s_X_then_4, s_X_then_7, s_X_then_8, s_X_then_9, s_X_then_12, s_X_then_13, s_X_then_14, s_X_then_17, s_X_then_18, s_X_then_19, s_X_then_44, s_X_then_45, s_X_then_48, s_X_then_49, s_X_then_52, s_X_then_55, s_X_then_58, s_X_then_59, s_X_then_60, s_X_then_63, s_X_then_64, s_X_then_67, s_X_then_70, s_X_then_71, s_X_then_72, s_X_then_75, s_X_then_76, s_X_then_79, s_X_then_82, s_X_then_85, s_X_then_88, s_X_then_89, s_X_then_90, s_X_then_92, s_X_then_95, zlt, zle, zeq, zclamp, zinc, zdec, zdi, zdr, zdl, zdn, zpi, zpn, if_true, if_false, ite_not, Bool.false_eq_true, ne_eq, not_true_eq_false, not_false_eq_true, true_and, and_true, Nat.add_assoc, Nat.reduceAdd, Stones_stand hS1, X_oneIf]
      exact hQ σ1 (hR.keep (fun c g => f1 c (by omega)))
    rw [if_neg w2] at hQ
    simp (disch := first | assumption | omega | decide | exact zin_d (by assumption) (by omega) (by omega) | (simp only [zb01]; done)) only [s_X_then_0, s_X_then_1, s_X_then_2, s_X_then_4, s_X_then_7, s_X_then_8, s_X_then_9, s_X_then_12, s_X_then_13, s_X_then_14, s_X_then_17, s_X_then_18, s_X_then_19, s_X_then_44, s_X_then_45, s_X_then_48, s_X_then_49, s_X_then_52, s_X_then_55, s_X_then_58, s_X_then_59, s_X_then_60, s_X_then_63, s_X_then_64, s_X_then_67, s_X_then_70, s_X_then_71, s_X_then_72, s_X_then_75, s_X_then_76, s_X_then_79, s_X_then_82, s_X_then_85, s_X_then_88, s_X_then_89, s_X_then_90, s_X_then_92, s_X_then_95, zlt, zle, zeq, zclamp, zinc, zdec, zdi, zdr, zdl, zdn, zpi, zpn, if_true, if_false, ite_not, Bool.false_eq_true, ne_eq, not_true_eq_false, not_false_eq_true, true_and, and_true, Nat.add_assoc, Nat.reduceAdd, X_outside, ho, zift, ziff]
    refine X_refuse hR ref2 (fun σ' h => ?_)
    simp (disch := first | assumption | omega | decide | exact zin_d (by assumption) (by omega) (by omega) | (simp only [zb01]; done)) only [s_X_then_0, s_X_then_1, s_X_then_2, s_X_then_4, s_X_then_7, s_X_then_8, s_X_then_9, s_X_then_12, s_X_then_13, s_X_then_14, s_X_then_17, s_X_then_18, s_X_then_19, s_X_then_44, s_X_then_45, s_X_then_48, s_X_then_49, s_X_then_52, s_X_then_55, s_X_then_58, s_X_then_59, s_X_then_60, s_X_then_63, s_X_then_64, s_X_then_67, s_X_then_70, s_X_then_71, s_X_then_72, s_X_then_75, s_X_then_76, s_X_then_79, s_X_then_82, s_X_then_85, s_X_then_88, s_X_then_89, s_X_then_90, s_X_then_92, s_X_then_95, zlt, zle, zeq, zclamp, zinc, zdec, zdi, zdr, zdl, zdn, zpi, zpn, if_true, if_false, ite_not, Bool.false_eq_true, ne_eq, not_true_eq_false, not_false_eq_true, true_and, and_true, Nat.add_assoc, Nat.reduceAdd]
    exact hQ σ' h
  · rw [if_neg ho] at hQ
    simp (disch := first | assumption | omega | decide | exact zin_d (by assumption) (by omega) (by omega) | (simp only [zb01]; done)) only [s_X_then_0, s_X_then_1, s_X_then_2, s_X_then_4, s_X_then_7, s_X_then_8, s_X_then_9, s_X_then_12, s_X_then_13, s_X_then_14, s_X_then_17, s_X_then_18, s_X_then_19, s_X_then_44, s_X_then_45, s_X_then_48, s_X_then_49, s_X_then_52, s_X_then_55, s_X_then_58, s_X_then_59, s_X_then_60, s_X_then_63, s_X_then_64, s_X_then_67, s_X_then_70, s_X_then_71, s_X_then_72, s_X_then_75, s_X_then_76, s_X_then_79, s_X_then_82, s_X_then_85, s_X_then_88, s_X_then_89, s_X_then_90, s_X_then_92, s_X_then_95, zlt, zle, zeq, zclamp, zinc, zdec, zdi, zdr, zdl, zdn, zpi, zpn, if_true, if_false, ite_not, Bool.false_eq_true, ne_eq, not_true_eq_false, not_false_eq_true, true_and, and_true, Nat.add_assoc, Nat.reduceAdd, X_outside, zift, ziff]
    refine X_refuse hR (outs_ref ho) (fun σ' h => ?_)
    simp (disch := first | assumption | omega | decide | exact zin_d (by assumption) (by omega) (by omega) | (simp only [zb01]; done)) only [s_X_then_0, s_X_then_1, s_X_then_2, s_X_then_4, s_X_then_7, s_X_then_8, s_X_then_9, s_X_then_12, s_X_then_13, s_X_then_14, s_X_then_17, s_X_then_18, s_X_then_19, s_X_then_44, s_X_then_45, s_X_then_48, s_X_then_49, s_X_then_52, s_X_then_55, s_X_then_58, s_X_then_59, s_X_then_60, s_X_then_63, s_X_then_64, s_X_then_67, s_X_then_70, s_X_then_71, s_X_then_72, s_X_then_75, s_X_then_76, s_X_then_79, s_X_then_82, s_X_then_85, s_X_then_88, s_X_then_89, s_X_then_90, s_X_then_92, s_X_then_95, zlt, zle, zeq, zclamp, zinc, zdec, zdi, zdr, zdl, zdn, zpi, zpn, if_true, if_false, ite_not, Bool.false_eq_true, ne_eq, not_true_eq_false, not_false_eq_true, true_and, and_true, Nat.add_assoc, Nat.reduceAdd]
    exact hQ σ' h
theorem X_up (hR : RX σ a) (hQ : ∀ σ', RX σ' (c_up a w).2 → Q (some (.int (c_up a w).1)) σ') : Ev zshX 119 0 [some (.ref 0), some (.int w)] [] σ Q := by
  have hS : WS σ 2 _ _ _ _ := hR.1.1.2.1
  have hok := hR.1.2.1
  have h12 := hok.1.1
  have hB := hR.1.1
  rw [c_up] at hQ
  by_cases w0 : w = 0
  · subst w0
    rw [if_pos rfl] at hQ
    simp (disch := first | assumption | omega | decide | exact zin_d (by assumption) (by omega) (by omega) | (simp only [zb01]; done)) only [s_X_up_0, s_X_up_1, s_X_up_28, s_X_up_29, s_X_up_32, s_X_up_35, s_X_up_36, s_X_up_37, s_X_up_40, s_X_up_43, s_X_up_44, s_X_up_45, s_X_up_47, s_X_up_50, zlt, zle, zeq, zclamp, zinc, zdec, zdi, zdr, zdl, zdn, zpi, zpn, if_true, if_false, ite_not, Bool.false_eq_true, ne_eq, not_true_eq_false, not_false_eq_true, true_and, and_true, Nat.add_assoc, Nat.reduceAdd, zlt, zift, ziff]
    refine Foresight_dayWhenUp hB hok (fun σ1 f1 => ?_)
    simp (disch := first | assumption | omega | decide | exact zin_d (by assumption) (by omega) (by omega) | (simp only [zb01]; done)) only [s_X_up_0, s_X_up_1, s_X_up_28, s_X_up_29, s_X_up_32, s_X_up_35, s_X_up_36, s_X_up_37, s_X_up_40, s_X_up_43, s_X_up_44, s_X_up_45, s_X_up_47, s_X_up_50, zlt, zle, zeq, zclamp, zinc, zdec, zdi, zdr, zdl, zdn, zpi, zpn, if_true, if_false, ite_not, Bool.false_eq_true, ne_eq, not_true_eq_false, not_false_eq_true, true_and, and_true, Nat.add_assoc, Nat.reduceAdd]
    exact hQ σ1 (hR.keep (fun c g => f1 c (by omega)))
  rw [if_neg w0] at hQ
  by_cases w1 : w = 1
  · subst w1
    rw [if_pos rfl] at hQ
    simp (disch := first | assumption | omega | decide | exact zin_d (by assumption) (by omega) (by omega) | (simp only [zb01]; done)) only [s_X_up_0, s_X_up_1, s_X_up_28, s_X_up_29, s_X_up_32, s_X_up_35, s_X_up_36, s_X_up_37, s_X_up_40, s_X_up_43, s_X_up_44, s_X_up_45, s_X_up_47, s_X_up_50, zlt, zle, zeq, zclamp, zinc, zdec, zdi, zdr, zdl, zdn, zpi, zpn, if_true, if_false, ite_not, Bool.false_eq_true, ne_eq, not_true_eq_false, not_false_eq_true, true_and, and_true, Nat.add_assoc, Nat.reduceAdd, zlt, zift, ziff]
    refine Foresight_dayOfFall hB hok (fun σ1 f1 => ?_)
    simp (disch := first | assumption | omega | decide | exact zin_d (by assumption) (by omega) (by omega) | (simp only [zb01]; done)) only [s_X_up_0, s_X_up_1, s_X_up_28, s_X_up_29, s_X_up_32, s_X_up_35, s_X_up_36, s_X_up_37, s_X_up_40, s_X_up_43, s_X_up_44, s_X_up_45, s_X_up_47, s_X_up_50, zlt, zle, zeq, zclamp, zinc, zdec, zdi, zdr, zdl, zdn, zpi, zpn, if_true, if_false, ite_not, Bool.false_eq_true, ne_eq, not_true_eq_false, not_false_eq_true, true_and, and_true, Nat.add_assoc, Nat.reduceAdd]
    exact hQ σ1 (hR.keep (fun c g => f1 c (by omega)))
  rw [if_neg w1] at hQ
  simp (disch := first | assumption | omega | decide | exact zin_d (by assumption) (by omega) (by omega) | (simp only [zb01]; done)) only [s_X_up_0, s_X_up_1, s_X_up_28, s_X_up_29, s_X_up_32, s_X_up_35, s_X_up_36, s_X_up_37, s_X_up_40, s_X_up_43, s_X_up_44, s_X_up_45, s_X_up_47, s_X_up_50, zlt, zle, zeq, zclamp, zinc, zdec, zdi, zdr, zdl, zdn, zpi, zpn, if_true, if_false, ite_not, Bool.false_eq_true, ne_eq, not_true_eq_false, not_false_eq_true, true_and, and_true, Nat.add_assoc, Nat.reduceAdd, zlt, zift, ziff]
  refine X_refuse hR ref2 (fun σ' h => ?_)
  simp (disch := first | assumption | omega | decide | exact zin_d (by assumption) (by omega) (by omega) | (simp only [zb01]; done)) only [s_X_up_0, s_X_up_1, s_X_up_28, s_X_up_29, s_X_up_32, s_X_up_35, s_X_up_36, s_X_up_37, s_X_up_40, s_X_up_43, s_X_up_44, s_X_up_45, s_X_up_47, s_X_up_50, zlt, zle, zeq, zclamp, zinc, zdec, zdi, zdr, zdl, zdn, zpi, zpn, if_true, if_false, ite_not, Bool.false_eq_true, ne_eq, not_true_eq_false, not_false_eq_true, true_and, and_true, Nat.add_assoc, Nat.reduceAdd]
  exact hQ σ' h
theorem X_next (hR : RX σ a) (hQ : ∀ σ', RX σ' (c_next a m).2 → Q (some (.int (c_next a m).1)) σ') : Ev zshX 120 0 [some (.ref 0), some (.int m)] [] σ Q := by
  have hS : WS σ 2 _ _ _ _ := hR.1.1.2.1
  have hok := hR.1.2.1
  have h12 := hok.1.1
  have hB := hR.1.1
  rw [c_next] at hQ
  by_cases h : m = 0 ∨ m = 1
  · rw [if_pos h] at hQ
    simp (disch := first | assumption | omega | decide | exact zin_d (by assumption) (by omega) (by omega) | (simp only [zb01]; done)) only [s_X_next_0, s_X_next_1, s_X_next_4, s_X_next_7, s_X_next_8, s_X_next_9, s_X_next_12, s_X_next_13, s_X_next_14, s_X_next_17, s_X_next_18, s_X_next_21, zlt, zle, zeq, zclamp, zinc, zdec, zdi, zdr, zdl, zdn, zpi, zpn, if_true, if_false, ite_not, Bool.false_eq_true, ne_eq, not_true_eq_false, not_false_eq_true, true_and, and_true, Nat.add_assoc, Nat.reduceAdd, X_isMason, zift, ziff]
    refine Remedies_bestKindOfOneMore hS h12 (fun σ1 f1 => ?_)
    simp (disch := first | assumption | omega | decide | exact zin_d (by assumption) (by omega) (by omega) | (simp only [zb01]; done)) only [s_X_next_0, s_X_next_1, s_X_next_4, s_X_next_7, s_X_next_8, s_X_next_9, s_X_next_12, s_X_next_13, s_X_next_14, s_X_next_17, s_X_next_18, s_X_next_21, zlt, zle, zeq, zclamp, zinc, zdec, zdi, zdr, zdl, zdn, zpi, zpn, if_true, if_false, ite_not, Bool.false_eq_true, ne_eq, not_true_eq_false, not_false_eq_true, true_and, and_true, Nat.add_assoc, Nat.reduceAdd]
    exact hQ σ1 (hR.keep (fun c g => f1 c (by omega)))
  · rw [if_neg h] at hQ
    simp (disch := first | assumption | omega | decide | exact zin_d (by assumption) (by omega) (by omega) | (simp only [zb01]; done)) only [s_X_next_0, s_X_next_1, s_X_next_4, s_X_next_7, s_X_next_8, s_X_next_9, s_X_next_12, s_X_next_13, s_X_next_14, s_X_next_17, s_X_next_18, s_X_next_21, zlt, zle, zeq, zclamp, zinc, zdec, zdi, zdr, zdl, zdn, zpi, zpn, if_true, if_false, ite_not, Bool.false_eq_true, ne_eq, not_true_eq_false, not_false_eq_true, true_and, and_true, Nat.add_assoc, Nat.reduceAdd, X_isMason, zift, ziff]
    refine X_refuse hR ref1 (fun σ' h => ?_)
    simp (disch := first | assumption | omega | decide | exact zin_d (by assumption) (by omega) (by omega) | (simp only [zb01]; done)) only [s_X_next_0, s_X_next_1, s_X_next_4, s_X_next_7, s_X_next_8, s_X_next_9, s_X_next_12, s_X_next_13, s_X_next_14, s_X_next_17, s_X_next_18, s_X_next_21, zlt, zle, zeq, zclamp, zinc, zdec, zdi, zdr, zdl, zdn, zpi, zpn, if_true, if_false, ite_not, Bool.false_eq_true, ne_eq, not_true_eq_false, not_false_eq_true, true_and, and_true, Nat.add_assoc, Nat.reduceAdd]
    exact hQ σ' h
theorem X_mend (hR : RX σ a) (hQ : ∀ σ', RX σ' (c_mend a).2 → Q (some (.int (c_mend a).1)) σ') : Ev zshX 121 0 [some (.ref 0)] [] σ Q := by
  have hS : WS σ 2 _ _ _ _ := hR.1.1.2.1
  have hok := hR.1.2.1
  have h12 := hok.1.1
  have hB := hR.1.1
  rw [c_mend] at hQ
  dsimp only at hQ
  simp (disch := first | assumption | omega | decide | exact zin_d (by assumption) (by omega) (by omega) | (simp only [zb01]; done)) only [s_X_mend_0, s_X_mend_1, s_X_mend_4, s_X_mend_7, zlt, zle, zeq, zclamp, zinc, zdec, zdi, zdr, zdl, zdn, zpi, zpn, if_true, if_false, ite_not, Bool.false_eq_true, ne_eq, not_true_eq_false, not_false_eq_true, true_and, and_true, Nat.add_assoc, Nat.reduceAdd, zlt, zift, ziff]
  refine Remedies_firstMending hS (fun σ1 f1 => ?_)
  simp (disch := first | assumption | omega | decide | exact zin_d (by assumption) (by omega) (by omega) | (simp only [zb01]; done)) only [s_X_mend_0, s_X_mend_1, s_X_mend_4, s_X_mend_7, zlt, zle, zeq, zclamp, zinc, zdec, zdi, zdr, zdl, zdn, zpi, zpn, if_true, if_false, ite_not, Bool.false_eq_true, ne_eq, not_true_eq_false, not_false_eq_true, true_and, and_true, Nat.add_assoc, Nat.reduceAdd]
  exact hQ σ1 (hR.keep (fun c g => f1 c (by omega)))
theorem X_fewest (hR : RX σ a) (hQ : ∀ σ', RX σ' (c_fewest a).2 → Q (some (.int (c_fewest a).1)) σ') : Ev zshX 122 0 [some (.ref 0)] [] σ Q := by
  have hS : WS σ 2 _ _ _ _ := hR.1.1.2.1
  have hok := hR.1.2.1
  have h12 := hok.1.1
  have hB := hR.1.1
  rw [c_fewest] at hQ
  dsimp only at hQ
  simp (disch := first | assumption | omega | decide | exact zin_d (by assumption) (by omega) (by omega) | (simp only [zb01]; done)) only [s_X_fewest_0, s_X_fewest_1, s_X_fewest_4, s_X_fewest_7, zlt, zle, zeq, zclamp, zinc, zdec, zdi, zdr, zdl, zdn, zpi, zpn, if_true, if_false, ite_not, Bool.false_eq_true, ne_eq, not_true_eq_false, not_false_eq_true, true_and, and_true, Nat.add_assoc, Nat.reduceAdd, zlt, zift, ziff]
  refine Remedies_fewestToPlain hS h12 (fun σ1 f1 => ?_)
  simp (disch := first | assumption | omega | decide | exact zin_d (by assumption) (by omega) (by omega) | (simp only [zb01]; done)) only [s_X_fewest_0, s_X_fewest_1, s_X_fewest_4, s_X_fewest_7, zlt, zle, zeq, zclamp, zinc, zdec, zdi, zdr, zdl, zdn, zpi, zpn, if_true, if_false, ite_not, Bool.false_eq_true, ne_eq, not_true_eq_false, not_false_eq_true, true_and, and_true, Nat.add_assoc, Nat.reduceAdd]
  exact hQ σ1 (hR.keep (fun c g => f1 c (by omega)))
theorem X_take (hR : RX σ a) (hQ : ∀ σ', RX σ' (c_take a).2 → Q (some (.int (c_take a).1)) σ') : Ev zshX 123 0 [some (.ref 0)] [] σ Q := by
  have hS : WS σ 2 _ _ _ _ := hR.1.1.2.1
  have hok := hR.1.2.1
  have h12 := hok.1.1
  have hB := hR.1.1
  rw [c_take] at hQ
  dsimp only at hQ
  simp (disch := first | assumption | omega | decide | exact zin_d (by assumption) (by omega) (by omega) | (simp only [zb01]; done)) only [s_X_take_0, s_X_take_1, s_X_take_4, s_X_take_7, zlt, zle, zeq, zclamp, zinc, zdec, zdi, zdr, zdl, zdn, zpi, zpn, if_true, if_false, ite_not, Bool.false_eq_true, ne_eq, not_true_eq_false, not_false_eq_true, true_and, and_true, Nat.add_assoc, Nat.reduceAdd, zlt, zift, ziff]
  refine Remedies_fewestToTake hS (fun σ1 f1 => ?_)
  simp (disch := first | assumption | omega | decide | exact zin_d (by assumption) (by omega) (by omega) | (simp only [zb01]; done)) only [s_X_take_0, s_X_take_1, s_X_take_4, s_X_take_7, zlt, zle, zeq, zclamp, zinc, zdec, zdi, zdr, zdl, zdn, zpi, zpn, if_true, if_false, ite_not, Bool.false_eq_true, ne_eq, not_true_eq_false, not_false_eq_true, true_and, and_true, Nat.add_assoc, Nat.reduceAdd]
  exact hQ σ1 (hR.keep (fun c g => f1 c (by omega)))
theorem X_turnBack (hR : RX σ a) (hQ : ∀ σ', RX σ' (c_turnBack a).2 → Q (some (.int (c_turnBack a).1)) σ') : Ev zshX 124 0 [some (.ref 0)] [] σ Q := by
  have hS : WS σ 2 _ _ _ _ := hR.1.1.2.1
  have hok := hR.1.2.1
  have h12 := hok.1.1
  have hB := hR.1.1
  rw [c_turnBack] at hQ
  dsimp only at hQ
  simp (disch := first | assumption | omega | decide | exact zin_d (by assumption) (by omega) (by omega) | (simp only [zb01]; done)) only [s_X_turnBack_0, s_X_turnBack_1, s_X_turnBack_4, s_X_turnBack_7, zlt, zle, zeq, zclamp, zinc, zdec, zdi, zdr, zdl, zdn, zpi, zpn, if_true, if_false, ite_not, Bool.false_eq_true, ne_eq, not_true_eq_false, not_false_eq_true, true_and, and_true, Nat.add_assoc, Nat.reduceAdd, zlt, zift, ziff]
  refine Remedies_bestToTurn hS (fun σ1 f1 => ?_)
  simp (disch := first | assumption | omega | decide | exact zin_d (by assumption) (by omega) (by omega) | (simp only [zb01]; done)) only [s_X_turnBack_0, s_X_turnBack_1, s_X_turnBack_4, s_X_turnBack_7, zlt, zle, zeq, zclamp, zinc, zdec, zdi, zdr, zdl, zdn, zpi, zpn, if_true, if_false, ite_not, Bool.false_eq_true, ne_eq, not_true_eq_false, not_false_eq_true, true_and, and_true, Nat.add_assoc, Nat.reduceAdd]
  exact hQ σ1 (hR.keep (fun c g => f1 c (by omega)))
theorem X_peace (hR : RX σ a) (hQ : ∀ σ', RX σ' (c_peace a).2 → Q (some (.int (c_peace a).1)) σ') : Ev zshX 131 0 [some (.ref 0)] [] σ Q := by
  have hS : WS σ 2 _ _ _ _ := hR.1.1.2.1
  have hok := hR.1.2.1
  have h12 := hok.1.1
  have hB := hR.1.1
  rw [c_peace] at hQ
  dsimp only at hQ
  simp (disch := first | assumption | omega | decide | exact zin_d (by assumption) (by omega) (by omega) | (simp only [zb01]; done)) only [s_X_peace_0, s_X_peace_1, s_X_peace_4, s_X_peace_7, zlt, zle, zeq, zclamp, zinc, zdec, zdi, zdr, zdl, zdn, zpi, zpn, if_true, if_false, ite_not, Bool.false_eq_true, ne_eq, not_true_eq_false, not_false_eq_true, true_and, and_true, Nat.add_assoc, Nat.reduceAdd, zlt, zift, ziff]
  refine Foresight_dayOfPeace hB hok (fun σ1 f1 => ?_)
  simp (disch := first | assumption | omega | decide | exact zin_d (by assumption) (by omega) (by omega) | (simp only [zb01]; done)) only [s_X_peace_0, s_X_peace_1, s_X_peace_4, s_X_peace_7, zlt, zle, zeq, zclamp, zinc, zdec, zdi, zdr, zdl, zdn, zpi, zpn, if_true, if_false, ite_not, Bool.false_eq_true, ne_eq, not_true_eq_false, not_false_eq_true, true_and, and_true, Nat.add_assoc, Nat.reduceAdd]
  exact hQ σ1 (hR.keep (fun c g => f1 c (by omega)))
theorem X_yields (hR : RX σ a) (hQ : ∀ σ', RX σ' (c_yields a n).2 → Q (some (.int (c_yields a n).1)) σ') : Ev zshX 129 0 [some (.ref 0), some (.int n), none] [] σ Q := by
  have hS : WS σ 2 _ _ _ _ := hR.1.1.2.1
  have hok := hR.1.2.1
  have h12 := hok.1.1
  have hB := hR.1.1
  rw [c_yields] at hQ
  by_cases ho : outs n 0 60 = 0
  · rw [if_pos ho] at hQ
    obtain ⟨i, hi, rfl⟩ := in_le (n := 60) (by omega) (show 0 ≤ n ∧ n ≤ nI 60 from ⟨Int32.le_trans (by decide : (0 : Int32) ≤ 0) (outs_in ho).1, (outs_in ho).2⟩)
    rw [zclamp (by omega)] at hQ
    simp (disch := first | assumption | omega | decide | exact zin_d (by assumption) (by omega) (by omega) | (simp only [zb01]; done)) only [s_X_yields_0, s_X_yields_1, s_X_yields_2, s_X_yields_4, s_X_yields_7, s_X_yields_8, s_X_yields_9, s_X_yields_12, s_X_yields_13, s_X_yields_14, s_X_yields_17, s_X_yields_18, s_X_yields_19, s_X_yields_22, s_X_yields_23, s_X_yields_26, zlt, zle, zeq, zclamp, zinc, zdec, zdi, zdr, zdl, zdn, zpi, zpn, if_true, if_false, ite_not, Bool.false_eq_true, ne_eq, not_true_eq_false, not_false_eq_true, true_and, and_true, Nat.add_assoc, Nat.reduceAdd, X_outside, ho, zift, ziff]
    refine Foresight_whoHadBetterYield hB hok (by omega) (fun σ1 f1 => ?_)
    simp (disch := first | assumption | omega | decide | exact zin_d (by assumption) (by omega) (by omega) | (simp only [zb01]; done)) only [s_X_yields_0, s_X_yields_1, s_X_yields_2, s_X_yields_4, s_X_yields_7, s_X_yields_8, s_X_yields_9, s_X_yields_12, s_X_yields_13, s_X_yields_14, s_X_yields_17, s_X_yields_18, s_X_yields_19, s_X_yields_22, s_X_yields_23, s_X_yields_26, zlt, zle, zeq, zclamp, zinc, zdec, zdi, zdr, zdl, zdn, zpi, zpn, if_true, if_false, ite_not, Bool.false_eq_true, ne_eq, not_true_eq_false, not_false_eq_true, true_and, and_true, Nat.add_assoc, Nat.reduceAdd]
    exact hQ σ1 (hR.keep (fun c g => f1 c (by omega)))
  · rw [if_neg ho] at hQ
    simp (disch := first | assumption | omega | decide | exact zin_d (by assumption) (by omega) (by omega) | (simp only [zb01]; done)) only [s_X_yields_0, s_X_yields_1, s_X_yields_2, s_X_yields_4, s_X_yields_7, s_X_yields_8, s_X_yields_9, s_X_yields_12, s_X_yields_13, s_X_yields_14, s_X_yields_17, s_X_yields_18, s_X_yields_19, s_X_yields_22, s_X_yields_23, s_X_yields_26, zlt, zle, zeq, zclamp, zinc, zdec, zdi, zdr, zdl, zdn, zpi, zpn, if_true, if_false, ite_not, Bool.false_eq_true, ne_eq, not_true_eq_false, not_false_eq_true, true_and, and_true, Nat.add_assoc, Nat.reduceAdd, X_outside, zift, ziff]
    refine X_refuse hR (outs_ref ho) (fun σ' h => ?_)
    simp (disch := first | assumption | omega | decide | exact zin_d (by assumption) (by omega) (by omega) | (simp only [zb01]; done)) only [s_X_yields_0, s_X_yields_1, s_X_yields_2, s_X_yields_4, s_X_yields_7, s_X_yields_8, s_X_yields_9, s_X_yields_12, s_X_yields_13, s_X_yields_14, s_X_yields_17, s_X_yields_18, s_X_yields_19, s_X_yields_22, s_X_yields_23, s_X_yields_26, zlt, zle, zeq, zclamp, zinc, zdec, zdi, zdr, zdl, zdn, zpi, zpn, if_true, if_false, ite_not, Bool.false_eq_true, ne_eq, not_true_eq_false, not_false_eq_true, true_and, and_true, Nat.add_assoc, Nat.reduceAdd]
    exact hQ σ' h
theorem X_two (hR : RX σ a) (hQ : ∀ σ', RX σ' (c_two a n).2 → Q (some (.int (c_two a n).1)) σ') : Ev zshX 133 0 [some (.ref 0), some (.int n), none] [] σ Q := by
  have hS : WS σ 2 _ _ _ _ := hR.1.1.2.1
  have hok := hR.1.2.1
  have h12 := hok.1.1
  have hB := hR.1.1
  rw [c_two] at hQ
  by_cases ho : outs n 0 30 = 0
  · rw [if_pos ho] at hQ
    obtain ⟨i, hi, rfl⟩ := in_le (n := 30) (by omega) (show 0 ≤ n ∧ n ≤ nI 30 from ⟨Int32.le_trans (by decide : (0 : Int32) ≤ 0) (outs_in ho).1, (outs_in ho).2⟩)
    rw [zclamp (by omega)] at hQ
    simp (disch := first | assumption | omega | decide | exact zin_d (by assumption) (by omega) (by omega) | (simp only [zb01]; done)) only [s_X_two_0, s_X_two_1, s_X_two_2, s_X_two_4, s_X_two_7, s_X_two_8, s_X_two_9, s_X_two_12, s_X_two_13, s_X_two_14, s_X_two_17, s_X_two_18, s_X_two_19, s_X_two_22, s_X_two_23, s_X_two_26, zlt, zle, zeq, zclamp, zinc, zdec, zdi, zdr, zdl, zdn, zpi, zpn, if_true, if_false, ite_not, Bool.false_eq_true, ne_eq, not_true_eq_false, not_false_eq_true, true_and, and_true, Nat.add_assoc, Nat.reduceAdd, X_outside, ho, zift, ziff]
    refine Foresight_firstSettledPair hB hok (by omega) (fun σ1 f1 => ?_)
    simp (disch := first | assumption | omega | decide | exact zin_d (by assumption) (by omega) (by omega) | (simp only [zb01]; done)) only [s_X_two_0, s_X_two_1, s_X_two_2, s_X_two_4, s_X_two_7, s_X_two_8, s_X_two_9, s_X_two_12, s_X_two_13, s_X_two_14, s_X_two_17, s_X_two_18, s_X_two_19, s_X_two_22, s_X_two_23, s_X_two_26, zlt, zle, zeq, zclamp, zinc, zdec, zdi, zdr, zdl, zdn, zpi, zpn, if_true, if_false, ite_not, Bool.false_eq_true, ne_eq, not_true_eq_false, not_false_eq_true, true_and, and_true, Nat.add_assoc, Nat.reduceAdd]
    exact hQ σ1 (hR.keep (fun c g => f1 c (by omega)))
  · rw [if_neg ho] at hQ
    simp (disch := first | assumption | omega | decide | exact zin_d (by assumption) (by omega) (by omega) | (simp only [zb01]; done)) only [s_X_two_0, s_X_two_1, s_X_two_2, s_X_two_4, s_X_two_7, s_X_two_8, s_X_two_9, s_X_two_12, s_X_two_13, s_X_two_14, s_X_two_17, s_X_two_18, s_X_two_19, s_X_two_22, s_X_two_23, s_X_two_26, zlt, zle, zeq, zclamp, zinc, zdec, zdi, zdr, zdl, zdn, zpi, zpn, if_true, if_false, ite_not, Bool.false_eq_true, ne_eq, not_true_eq_false, not_false_eq_true, true_and, and_true, Nat.add_assoc, Nat.reduceAdd, X_outside, zift, ziff]
    refine X_refuse hR (outs_ref ho) (fun σ' h => ?_)
    simp (disch := first | assumption | omega | decide | exact zin_d (by assumption) (by omega) (by omega) | (simp only [zb01]; done)) only [s_X_two_0, s_X_two_1, s_X_two_2, s_X_two_4, s_X_two_7, s_X_two_8, s_X_two_9, s_X_two_12, s_X_two_13, s_X_two_14, s_X_two_17, s_X_two_18, s_X_two_19, s_X_two_22, s_X_two_23, s_X_two_26, zlt, zle, zeq, zclamp, zinc, zdec, zdi, zdr, zdl, zdn, zpi, zpn, if_true, if_false, ite_not, Bool.false_eq_true, ne_eq, not_true_eq_false, not_false_eq_true, true_and, and_true, Nat.add_assoc, Nat.reduceAdd]
    exact hQ σ' h
theorem X_swap (hR : RX σ a) (hQ : ∀ σ', RX σ' (c_swap a n).2 → Q (some (.int (c_swap a n).1)) σ') : Ev zshX 132 0 [some (.ref 0), some (.int n), none] [] σ Q := by
  have hS : WS σ 2 _ _ _ _ := hR.1.1.2.1
  have hok := hR.1.2.1
  have h12 := hok.1.1
  have hB := hR.1.1
  rw [c_swap] at hQ
  by_cases ho : outs n 0 60 = 0
  · rw [if_pos ho] at hQ
    obtain ⟨i, hi, rfl⟩ := in_le (n := 60) (by omega) (show 0 ≤ n ∧ n ≤ nI 60 from ⟨Int32.le_trans (by decide : (0 : Int32) ≤ 0) (outs_in ho).1, (outs_in ho).2⟩)
    rw [zclamp (by omega)] at hQ
    simp (disch := first | assumption | omega | decide | exact zin_d (by assumption) (by omega) (by omega) | (simp only [zb01]; done)) only [s_X_swap_0, s_X_swap_1, s_X_swap_2, s_X_swap_4, s_X_swap_7, s_X_swap_8, s_X_swap_9, s_X_swap_12, s_X_swap_13, s_X_swap_14, s_X_swap_17, s_X_swap_18, s_X_swap_19, s_X_swap_22, s_X_swap_23, s_X_swap_26, s_X_swap_29, zlt, zle, zeq, zclamp, zinc, zdec, zdi, zdr, zdl, zdn, zpi, zpn, if_true, if_false, ite_not, Bool.false_eq_true, ne_eq, not_true_eq_false, not_false_eq_true, true_and, and_true, Nat.add_assoc, Nat.reduceAdd, X_outside, ho, zift, ziff]
    refine Foresight_swappedLayMore hB hok (by omega) (fun σ1 f1 => ?_)
    simp (disch := first | assumption | omega | decide | exact zin_d (by assumption) (by omega) (by omega) | (simp only [zb01]; done)) only [s_X_swap_0, s_X_swap_1, s_X_swap_2, s_X_swap_4, s_X_swap_7, s_X_swap_8, s_X_swap_9, s_X_swap_12, s_X_swap_13, s_X_swap_14, s_X_swap_17, s_X_swap_18, s_X_swap_19, s_X_swap_22, s_X_swap_23, s_X_swap_26, s_X_swap_29, zlt, zle, zeq, zclamp, zinc, zdec, zdi, zdr, zdl, zdn, zpi, zpn, if_true, if_false, ite_not, Bool.false_eq_true, ne_eq, not_true_eq_false, not_false_eq_true, true_and, and_true, Nat.add_assoc, Nat.reduceAdd, X_oneIf]
    exact hQ σ1 (hR.keep (fun c g => f1 c (by omega)))
  · rw [if_neg ho] at hQ
    simp (disch := first | assumption | omega | decide | exact zin_d (by assumption) (by omega) (by omega) | (simp only [zb01]; done)) only [s_X_swap_0, s_X_swap_1, s_X_swap_2, s_X_swap_4, s_X_swap_7, s_X_swap_8, s_X_swap_9, s_X_swap_12, s_X_swap_13, s_X_swap_14, s_X_swap_17, s_X_swap_18, s_X_swap_19, s_X_swap_22, s_X_swap_23, s_X_swap_26, s_X_swap_29, zlt, zle, zeq, zclamp, zinc, zdec, zdi, zdr, zdl, zdn, zpi, zpn, if_true, if_false, ite_not, Bool.false_eq_true, ne_eq, not_true_eq_false, not_false_eq_true, true_and, and_true, Nat.add_assoc, Nat.reduceAdd, X_outside, zift, ziff]
    refine X_refuse hR (outs_ref ho) (fun σ' h => ?_)
    simp (disch := first | assumption | omega | decide | exact zin_d (by assumption) (by omega) (by omega) | (simp only [zb01]; done)) only [s_X_swap_0, s_X_swap_1, s_X_swap_2, s_X_swap_4, s_X_swap_7, s_X_swap_8, s_X_swap_9, s_X_swap_12, s_X_swap_13, s_X_swap_14, s_X_swap_17, s_X_swap_18, s_X_swap_19, s_X_swap_22, s_X_swap_23, s_X_swap_26, s_X_swap_29, zlt, zle, zeq, zclamp, zinc, zdec, zdi, zdr, zdl, zdn, zpi, zpn, if_true, if_false, ite_not, Bool.false_eq_true, ne_eq, not_true_eq_false, not_false_eq_true, true_and, and_true, Nat.add_assoc, Nat.reduceAdd]
    exact hQ σ' h
theorem X_lots (hR : RX σ a) (hQ : ∀ σ', RX σ' (c_lots a n z w).2 → Q (some (.int (c_lots a n z w).1)) σ') : Ev zshX 141 0 [some (.ref 0), some (.int n), some (.int z), some (.int w), none] [] σ Q := by
  have hS : WS σ 2 _ _ _ _ := hR.1.1.2.1
  have hok := hR.1.2.1
  have h12 := hok.1.1
  have hB := hR.1.1
  rw [c_lots] at hQ
  by_cases ho : outs n 1 20 = 0
  · rw [if_pos ho] at hQ
    obtain ⟨i, hi, rfl⟩ := in_le (n := 20) (by omega) (show 0 ≤ n ∧ n ≤ nI 20 from ⟨Int32.le_trans (by decide : (0 : Int32) ≤ 1) (outs_in ho).1, (outs_in ho).2⟩)
    rw [zclamp (by omega)] at hQ
    by_cases w0 : w = 0
    · subst w0
      rw [if_pos rfl] at hQ
      simp (disch := first | assumption | omega | decide | exact zin_d (by assumption) (by omega) (by omega) | (simp only [zb01]; done)) only [s_X_lots_0, s_X_lots_1, s_X_lots_2, s_X_lots_4, s_X_lots_7, s_X_lots_9, s_X_lots_11, s_X_lots_14, s_X_lots_15, s_X_lots_17, s_X_lots_20, s_X_lots_21, s_X_lots_22, s_X_lots_48, s_X_lots_49, s_X_lots_52, s_X_lots_53, s_X_lots_54, s_X_lots_57, s_X_lots_58, s_X_lots_59, s_X_lots_62, s_X_lots_63, s_X_lots_64, s_X_lots_67, s_X_lots_68, s_X_lots_69, s_X_lots_71, s_X_lots_74, zlt, zle, zeq, zclamp, zinc, zdec, zdi, zdr, zdl, zdn, zpi, zpn, if_true, if_false, ite_not, Bool.false_eq_true, ne_eq, not_true_eq_false, not_false_eq_true, true_and, and_true, Nat.add_assoc, Nat.reduceAdd, X_outside, ho, zift, ziff]
      refine Foresight_standingByLot hB hok (by omega) (fun σ1 f1 => ?_)
      simp (disch := first | assumption | omega | decide | exact zin_d (by assumption) (by omega) (by omega) | (simp only [zb01]; done)) only [s_X_lots_0, s_X_lots_1, s_X_lots_2, s_X_lots_4, s_X_lots_7, s_X_lots_9, s_X_lots_11, s_X_lots_14, s_X_lots_15, s_X_lots_17, s_X_lots_20, s_X_lots_21, s_X_lots_22, s_X_lots_48, s_X_lots_49, s_X_lots_52, s_X_lots_53, s_X_lots_54, s_X_lots_57, s_X_lots_58, s_X_lots_59, s_X_lots_62, s_X_lots_63, s_X_lots_64, s_X_lots_67, s_X_lots_68, s_X_lots_69, s_X_lots_71, s_X_lots_74, zlt, zle, zeq, zclamp, zinc, zdec, zdi, zdr, zdl, zdn, zpi, zpn, if_true, if_false, ite_not, Bool.false_eq_true, ne_eq, not_true_eq_false, not_false_eq_true, true_and, and_true, Nat.add_assoc, Nat.reduceAdd]
      exact hQ σ1 (hR.keep (fun c g => f1 c (by omega)))
    rw [if_neg w0] at hQ
    by_cases w1 : w = 1
    · subst w1
      rw [if_pos rfl] at hQ
      simp (disch := first | assumption | omega | decide | exact zin_d (by assumption) (by omega) (by omega) | (simp only [zb01]; done)) only [s_X_lots_0, s_X_lots_1, s_X_lots_2, s_X_lots_4, s_X_lots_7, s_X_lots_9, s_X_lots_11, s_X_lots_14, s_X_lots_15, s_X_lots_17, s_X_lots_20, s_X_lots_21, s_X_lots_22, s_X_lots_48, s_X_lots_49, s_X_lots_52, s_X_lots_53, s_X_lots_54, s_X_lots_57, s_X_lots_58, s_X_lots_59, s_X_lots_62, s_X_lots_63, s_X_lots_64, s_X_lots_67, s_X_lots_68, s_X_lots_69, s_X_lots_71, s_X_lots_74, zlt, zle, zeq, zclamp, zinc, zdec, zdi, zdr, zdl, zdn, zpi, zpn, if_true, if_false, ite_not, Bool.false_eq_true, ne_eq, not_true_eq_false, not_false_eq_true, true_and, and_true, Nat.add_assoc, Nat.reduceAdd, X_outside, ho, zift, ziff]
      refine Foresight_quarrelsByLot hB hok (by omega) (fun σ1 f1 => ?_)
      simp (disch := first | assumption | omega | decide | exact zin_d (by assumption) (by omega) (by omega) | (simp only [zb01]; done)) only [s_X_lots_0, s_X_lots_1, s_X_lots_2, s_X_lots_4, s_X_lots_7, s_X_lots_9, s_X_lots_11, s_X_lots_14, s_X_lots_15, s_X_lots_17, s_X_lots_20, s_X_lots_21, s_X_lots_22, s_X_lots_48, s_X_lots_49, s_X_lots_52, s_X_lots_53, s_X_lots_54, s_X_lots_57, s_X_lots_58, s_X_lots_59, s_X_lots_62, s_X_lots_63, s_X_lots_64, s_X_lots_67, s_X_lots_68, s_X_lots_69, s_X_lots_71, s_X_lots_74, zlt, zle, zeq, zclamp, zinc, zdec, zdi, zdr, zdl, zdn, zpi, zpn, if_true, if_false, ite_not, Bool.false_eq_true, ne_eq, not_true_eq_false, not_false_eq_true, true_and, and_true, Nat.add_assoc, Nat.reduceAdd]
      exact hQ σ1 (hR.keep (fun c g => f1 c (by omega)))
    rw [if_neg w1] at hQ
    simp (disch := first | assumption | omega | decide | exact zin_d (by assumption) (by omega) (by omega) | (simp only [zb01]; done)) only [s_X_lots_0, s_X_lots_1, s_X_lots_2, s_X_lots_4, s_X_lots_7, s_X_lots_9, s_X_lots_11, s_X_lots_14, s_X_lots_15, s_X_lots_17, s_X_lots_20, s_X_lots_21, s_X_lots_22, s_X_lots_48, s_X_lots_49, s_X_lots_52, s_X_lots_53, s_X_lots_54, s_X_lots_57, s_X_lots_58, s_X_lots_59, s_X_lots_62, s_X_lots_63, s_X_lots_64, s_X_lots_67, s_X_lots_68, s_X_lots_69, s_X_lots_71, s_X_lots_74, zlt, zle, zeq, zclamp, zinc, zdec, zdi, zdr, zdl, zdn, zpi, zpn, if_true, if_false, ite_not, Bool.false_eq_true, ne_eq, not_true_eq_false, not_false_eq_true, true_and, and_true, Nat.add_assoc, Nat.reduceAdd, X_outside, ho, zift, ziff]
    refine X_refuse hR ref2 (fun σ' h => ?_)
    simp (disch := first | assumption | omega | decide | exact zin_d (by assumption) (by omega) (by omega) | (simp only [zb01]; done)) only [s_X_lots_0, s_X_lots_1, s_X_lots_2, s_X_lots_4, s_X_lots_7, s_X_lots_9, s_X_lots_11, s_X_lots_14, s_X_lots_15, s_X_lots_17, s_X_lots_20, s_X_lots_21, s_X_lots_22, s_X_lots_48, s_X_lots_49, s_X_lots_52, s_X_lots_53, s_X_lots_54, s_X_lots_57, s_X_lots_58, s_X_lots_59, s_X_lots_62, s_X_lots_63, s_X_lots_64, s_X_lots_67, s_X_lots_68, s_X_lots_69, s_X_lots_71, s_X_lots_74, zlt, zle, zeq, zclamp, zinc, zdec, zdi, zdr, zdl, zdn, zpi, zpn, if_true, if_false, ite_not, Bool.false_eq_true, ne_eq, not_true_eq_false, not_false_eq_true, true_and, and_true, Nat.add_assoc, Nat.reduceAdd]
    exact hQ σ' h
  · rw [if_neg ho] at hQ
    simp (disch := first | assumption | omega | decide | exact zin_d (by assumption) (by omega) (by omega) | (simp only [zb01]; done)) only [s_X_lots_0, s_X_lots_1, s_X_lots_2, s_X_lots_4, s_X_lots_7, s_X_lots_9, s_X_lots_11, s_X_lots_14, s_X_lots_15, s_X_lots_17, s_X_lots_20, s_X_lots_21, s_X_lots_22, s_X_lots_48, s_X_lots_49, s_X_lots_52, s_X_lots_53, s_X_lots_54, s_X_lots_57, s_X_lots_58, s_X_lots_59, s_X_lots_62, s_X_lots_63, s_X_lots_64, s_X_lots_67, s_X_lots_68, s_X_lots_69, s_X_lots_71, s_X_lots_74, zlt, zle, zeq, zclamp, zinc, zdec, zdi, zdr, zdl, zdn, zpi, zpn, if_true, if_false, ite_not, Bool.false_eq_true, ne_eq, not_true_eq_false, not_false_eq_true, true_and, and_true, Nat.add_assoc, Nat.reduceAdd, X_outside, zift, ziff]
    refine X_refuse hR (outs_ref ho) (fun σ' h => ?_)
    simp (disch := first | assumption | omega | decide | exact zin_d (by assumption) (by omega) (by omega) | (simp only [zb01]; done)) only [s_X_lots_0, s_X_lots_1, s_X_lots_2, s_X_lots_4, s_X_lots_7, s_X_lots_9, s_X_lots_11, s_X_lots_14, s_X_lots_15, s_X_lots_17, s_X_lots_20, s_X_lots_21, s_X_lots_22, s_X_lots_48, s_X_lots_49, s_X_lots_52, s_X_lots_53, s_X_lots_54, s_X_lots_57, s_X_lots_58, s_X_lots_59, s_X_lots_62, s_X_lots_63, s_X_lots_64, s_X_lots_67, s_X_lots_68, s_X_lots_69, s_X_lots_71, s_X_lots_74, zlt, zle, zeq, zclamp, zinc, zdec, zdi, zdr, zdl, zdn, zpi, zpn, if_true, if_false, ite_not, Bool.false_eq_true, ne_eq, not_true_eq_false, not_false_eq_true, true_and, and_true, Nat.add_assoc, Nat.reduceAdd]
    exact hQ σ' h
theorem X_best (hR : RX σ a) (hQ : ∀ σ', RX σ' (c_best a m n w).2 → Q (some (.int (c_best a m n w).1)) σ') : Ev zshX 130 0 [some (.ref 0), some (.int m), some (.int n), some (.int w), none] [] σ Q := by
  have hS : WS σ 2 _ _ _ _ := hR.1.1.2.1
  have hok := hR.1.2.1
  have h12 := hok.1.1
  have hB := hR.1.1
  rw [c_best] at hQ
  by_cases h : m = 0 ∨ m = 1
  · rw [if_pos h] at hQ
    by_cases ho : outs n 0 20 = 0
    · rw [if_pos ho] at hQ
      obtain ⟨i, hi, rfl⟩ := in_le (n := 20) (by omega) (show 0 ≤ n ∧ n ≤ nI 20 from ⟨Int32.le_trans (by decide : (0 : Int32) ≤ 0) (outs_in ho).1, (outs_in ho).2⟩)
      rw [zclamp (by omega)] at hQ
      by_cases w0 : w = 0
      · subst w0
        rw [if_pos rfl] at hQ
        simp (disch := first | assumption | omega | decide | exact zin_d (by assumption) (by omega) (by omega) | (simp only [zb01]; done)) only [s_X_best_0, s_X_best_1, s_X_best_4, s_X_best_7, s_X_best_8, s_X_best_9, s_X_best_12, s_X_best_13, s_X_best_14, s_X_best_15, s_X_best_17, s_X_best_20, s_X_best_22, s_X_best_24, s_X_best_27, s_X_best_28, s_X_best_30, s_X_best_33, s_X_best_34, s_X_best_35, s_X_best_60, s_X_best_61, s_X_best_64, s_X_best_65, s_X_best_66, s_X_best_69, s_X_best_70, s_X_best_71, s_X_best_74, s_X_best_75, s_X_best_76, s_X_best_79, s_X_best_80, s_X_best_81, s_X_best_84, s_X_best_85, s_X_best_88, s_X_best_89, s_X_best_90, s_X_best_92, s_X_best_95, zlt, zle, zeq, zclamp, zinc, zdec, zdi, zdr, zdl, zdn, zpi, zpn, if_true, if_false, ite_not, Bool.false_eq_true, ne_eq, not_true_eq_false, not_false_eq_true, true_and, and_true, Nat.add_assoc, Nat.reduceAdd, X_isMason, X_outside, ho, zift, ziff]
        refine Foresight_bestStyle hB hok (by omega) (fun σ1 f1 => ?_)
        simp (disch := first | assumption | omega | decide | exact zin_d (by assumption) (by omega) (by omega) | (simp only [zb01]; done)) only [s_X_best_0, s_X_best_1, s_X_best_4, s_X_best_7, s_X_best_8, s_X_best_9, s_X_best_12, s_X_best_13, s_X_best_14, s_X_best_15, s_X_best_17, s_X_best_20, s_X_best_22, s_X_best_24, s_X_best_27, s_X_best_28, s_X_best_30, s_X_best_33, s_X_best_34, s_X_best_35, s_X_best_60, s_X_best_61, s_X_best_64, s_X_best_65, s_X_best_66, s_X_best_69, s_X_best_70, s_X_best_71, s_X_best_74, s_X_best_75, s_X_best_76, s_X_best_79, s_X_best_80, s_X_best_81, s_X_best_84, s_X_best_85, s_X_best_88, s_X_best_89, s_X_best_90, s_X_best_92, s_X_best_95, zlt, zle, zeq, zclamp, zinc, zdec, zdi, zdr, zdl, zdn, zpi, zpn, if_true, if_false, ite_not, Bool.false_eq_true, ne_eq, not_true_eq_false, not_false_eq_true, true_and, and_true, Nat.add_assoc, Nat.reduceAdd]
        exact hQ σ1 (hR.keep (fun c g => f1 c (by omega)))
      rw [if_neg w0] at hQ
      by_cases w1 : w = 1
      · subst w1
        rw [if_pos rfl] at hQ
        simp (disch := first | assumption | omega | decide | exact zin_d (by assumption) (by omega) (by omega) | (simp only [zb01]; done)) only [s_X_best_0, s_X_best_1, s_X_best_4, s_X_best_7, s_X_best_8, s_X_best_9, s_X_best_12, s_X_best_13, s_X_best_14, s_X_best_15, s_X_best_17, s_X_best_20, s_X_best_22, s_X_best_24, s_X_best_27, s_X_best_28, s_X_best_30, s_X_best_33, s_X_best_34, s_X_best_35, s_X_best_60, s_X_best_61, s_X_best_64, s_X_best_65, s_X_best_66, s_X_best_69, s_X_best_70, s_X_best_71, s_X_best_74, s_X_best_75, s_X_best_76, s_X_best_79, s_X_best_80, s_X_best_81, s_X_best_84, s_X_best_85, s_X_best_88, s_X_best_89, s_X_best_90, s_X_best_92, s_X_best_95, zlt, zle, zeq, zclamp, zinc, zdec, zdi, zdr, zdl, zdn, zpi, zpn, if_true, if_false, ite_not, Bool.false_eq_true, ne_eq, not_true_eq_false, not_false_eq_true, true_and, and_true, Nat.add_assoc, Nat.reduceAdd, X_isMason, X_outside, ho, zift, ziff]
        refine Foresight_bestStyle hB hok (by omega) (fun σ1 f1 => ?_)
        simp (disch := first | assumption | omega | decide | exact zin_d (by assumption) (by omega) (by omega) | (simp only [zb01]; done)) only [s_X_best_0, s_X_best_1, s_X_best_4, s_X_best_7, s_X_best_8, s_X_best_9, s_X_best_12, s_X_best_13, s_X_best_14, s_X_best_15, s_X_best_17, s_X_best_20, s_X_best_22, s_X_best_24, s_X_best_27, s_X_best_28, s_X_best_30, s_X_best_33, s_X_best_34, s_X_best_35, s_X_best_60, s_X_best_61, s_X_best_64, s_X_best_65, s_X_best_66, s_X_best_69, s_X_best_70, s_X_best_71, s_X_best_74, s_X_best_75, s_X_best_76, s_X_best_79, s_X_best_80, s_X_best_81, s_X_best_84, s_X_best_85, s_X_best_88, s_X_best_89, s_X_best_90, s_X_best_92, s_X_best_95, zlt, zle, zeq, zclamp, zinc, zdec, zdi, zdr, zdl, zdn, zpi, zpn, if_true, if_false, ite_not, Bool.false_eq_true, ne_eq, not_true_eq_false, not_false_eq_true, true_and, and_true, Nat.add_assoc, Nat.reduceAdd]
        refine Foresight_spareWithStyle (now_keep hB f1) hok (sty_num 5 (by omega)) (by omega) (fun σ2 f2 => ?_)
        simp (disch := first | assumption | omega | decide | exact zin_d (by assumption) (by omega) (by omega) | (simp only [zb01]; done)) only [s_X_best_0, s_X_best_1, s_X_best_4, s_X_best_7, s_X_best_8, s_X_best_9, s_X_best_12, s_X_best_13, s_X_best_14, s_X_best_15, s_X_best_17, s_X_best_20, s_X_best_22, s_X_best_24, s_X_best_27, s_X_best_28, s_X_best_30, s_X_best_33, s_X_best_34, s_X_best_35, s_X_best_60, s_X_best_61, s_X_best_64, s_X_best_65, s_X_best_66, s_X_best_69, s_X_best_70, s_X_best_71, s_X_best_74, s_X_best_75, s_X_best_76, s_X_best_79, s_X_best_80, s_X_best_81, s_X_best_84, s_X_best_85, s_X_best_88, s_X_best_89, s_X_best_90, s_X_best_92, s_X_best_95, zlt, zle, zeq, zclamp, zinc, zdec, zdi, zdr, zdl, zdn, zpi, zpn, if_true, if_false, ite_not, Bool.false_eq_true, ne_eq, not_true_eq_false, not_false_eq_true, true_and, and_true, Nat.add_assoc, Nat.reduceAdd]
        exact hQ σ2 (hR.keep (fun c g => (f1.tr f2) c (by omega)))
      rw [if_neg w1] at hQ
      simp (disch := first | assumption | omega | decide | exact zin_d (by assumption) (by omega) (by omega) | (simp only [zb01]; done)) only [s_X_best_0, s_X_best_1, s_X_best_4, s_X_best_7, s_X_best_8, s_X_best_9, s_X_best_12, s_X_best_13, s_X_best_14, s_X_best_15, s_X_best_17, s_X_best_20, s_X_best_22, s_X_best_24, s_X_best_27, s_X_best_28, s_X_best_30, s_X_best_33, s_X_best_34, s_X_best_35, s_X_best_60, s_X_best_61, s_X_best_64, s_X_best_65, s_X_best_66, s_X_best_69, s_X_best_70, s_X_best_71, s_X_best_74, s_X_best_75, s_X_best_76, s_X_best_79, s_X_best_80, s_X_best_81, s_X_best_84, s_X_best_85, s_X_best_88, s_X_best_89, s_X_best_90, s_X_best_92, s_X_best_95, zlt, zle, zeq, zclamp, zinc, zdec, zdi, zdr, zdl, zdn, zpi, zpn, if_true, if_false, ite_not, Bool.false_eq_true, ne_eq, not_true_eq_false, not_false_eq_true, true_and, and_true, Nat.add_assoc, Nat.reduceAdd, X_isMason, X_outside, ho, zift, ziff]
      refine X_refuseFar hR ref2 (fun σ' h => ?_)
      simp (disch := first | assumption | omega | decide | exact zin_d (by assumption) (by omega) (by omega) | (simp only [zb01]; done)) only [s_X_best_0, s_X_best_1, s_X_best_4, s_X_best_7, s_X_best_8, s_X_best_9, s_X_best_12, s_X_best_13, s_X_best_14, s_X_best_15, s_X_best_17, s_X_best_20, s_X_best_22, s_X_best_24, s_X_best_27, s_X_best_28, s_X_best_30, s_X_best_33, s_X_best_34, s_X_best_35, s_X_best_60, s_X_best_61, s_X_best_64, s_X_best_65, s_X_best_66, s_X_best_69, s_X_best_70, s_X_best_71, s_X_best_74, s_X_best_75, s_X_best_76, s_X_best_79, s_X_best_80, s_X_best_81, s_X_best_84, s_X_best_85, s_X_best_88, s_X_best_89, s_X_best_90, s_X_best_92, s_X_best_95, zlt, zle, zeq, zclamp, zinc, zdec, zdi, zdr, zdl, zdn, zpi, zpn, if_true, if_false, ite_not, Bool.false_eq_true, ne_eq, not_true_eq_false, not_false_eq_true, true_and, and_true, Nat.add_assoc, Nat.reduceAdd]
      exact hQ σ' h
    · rw [if_neg ho] at hQ
      simp (disch := first | assumption | omega | decide | exact zin_d (by assumption) (by omega) (by omega) | (simp only [zb01]; done)) only [s_X_best_0, s_X_best_1, s_X_best_4, s_X_best_7, s_X_best_8, s_X_best_9, s_X_best_12, s_X_best_13, s_X_best_14, s_X_best_15, s_X_best_17, s_X_best_20, s_X_best_22, s_X_best_24, s_X_best_27, s_X_best_28, s_X_best_30, s_X_best_33, s_X_best_34, s_X_best_35, s_X_best_60, s_X_best_61, s_X_best_64, s_X_best_65, s_X_best_66, s_X_best_69, s_X_best_70, s_X_best_71, s_X_best_74, s_X_best_75, s_X_best_76, s_X_best_79, s_X_best_80, s_X_best_81, s_X_best_84, s_X_best_85, s_X_best_88, s_X_best_89, s_X_best_90, s_X_best_92, s_X_best_95, zlt, zle, zeq, zclamp, zinc, zdec, zdi, zdr, zdl, zdn, zpi, zpn, if_true, if_false, ite_not, Bool.false_eq_true, ne_eq, not_true_eq_false, not_false_eq_true, true_and, and_true, Nat.add_assoc, Nat.reduceAdd, X_isMason, X_outside, zift, ziff]
      refine X_refuseFar hR (outs_ref ho) (fun σ' h => ?_)
      simp (disch := first | assumption | omega | decide | exact zin_d (by assumption) (by omega) (by omega) | (simp only [zb01]; done)) only [s_X_best_0, s_X_best_1, s_X_best_4, s_X_best_7, s_X_best_8, s_X_best_9, s_X_best_12, s_X_best_13, s_X_best_14, s_X_best_15, s_X_best_17, s_X_best_20, s_X_best_22, s_X_best_24, s_X_best_27, s_X_best_28, s_X_best_30, s_X_best_33, s_X_best_34, s_X_best_35, s_X_best_60, s_X_best_61, s_X_best_64, s_X_best_65, s_X_best_66, s_X_best_69, s_X_best_70, s_X_best_71, s_X_best_74, s_X_best_75, s_X_best_76, s_X_best_79, s_X_best_80, s_X_best_81, s_X_best_84, s_X_best_85, s_X_best_88, s_X_best_89, s_X_best_90, s_X_best_92, s_X_best_95, zlt, zle, zeq, zclamp, zinc, zdec, zdi, zdr, zdl, zdn, zpi, zpn, if_true, if_false, ite_not, Bool.false_eq_true, ne_eq, not_true_eq_false, not_false_eq_true, true_and, and_true, Nat.add_assoc, Nat.reduceAdd]
      exact hQ σ' h
  · rw [if_neg h] at hQ
    simp (disch := first | assumption | omega | decide | exact zin_d (by assumption) (by omega) (by omega) | (simp only [zb01]; done)) only [s_X_best_0, s_X_best_1, s_X_best_4, s_X_best_7, s_X_best_8, s_X_best_9, s_X_best_12, s_X_best_13, s_X_best_14, s_X_best_15, s_X_best_17, s_X_best_20, s_X_best_22, s_X_best_24, s_X_best_27, s_X_best_28, s_X_best_30, s_X_best_33, s_X_best_34, s_X_best_35, s_X_best_60, s_X_best_61, s_X_best_64, s_X_best_65, s_X_best_66, s_X_best_69, s_X_best_70, s_X_best_71, s_X_best_74, s_X_best_75, s_X_best_76, s_X_best_79, s_X_best_80, s_X_best_81, s_X_best_84, s_X_best_85, s_X_best_88, s_X_best_89, s_X_best_90, s_X_best_92, s_X_best_95, zlt, zle, zeq, zclamp, zinc, zdec, zdi, zdr, zdl, zdn, zpi, zpn, if_true, if_false, ite_not, Bool.false_eq_true, ne_eq, not_true_eq_false, not_false_eq_true, true_and, and_true, Nat.add_assoc, Nat.reduceAdd, X_isMason, zift, ziff]
    refine X_refuseFar hR ref1 (fun σ' h => ?_)
    simp (disch := first | assumption | omega | decide | exact zin_d (by assumption) (by omega) (by omega) | (simp only [zb01]; done)) only [s_X_best_0, s_X_best_1, s_X_best_4, s_X_best_7, s_X_best_8, s_X_best_9, s_X_best_12, s_X_best_13, s_X_best_14, s_X_best_15, s_X_best_17, s_X_best_20, s_X_best_22, s_X_best_24, s_X_best_27, s_X_best_28, s_X_best_30, s_X_best_33, s_X_best_34, s_X_best_35, s_X_best_60, s_X_best_61, s_X_best_64, s_X_best_65, s_X_best_66, s_X_best_69, s_X_best_70, s_X_best_71, s_X_best_74, s_X_best_75, s_X_best_76, s_X_best_79, s_X_best_80, s_X_best_81, s_X_best_84, s_X_best_85, s_X_best_88, s_X_best_89, s_X_best_90, s_X_best_92, s_X_best_95, zlt, zle, zeq, zclamp, zinc, zdec, zdi, zdr, zdl, zdn, zpi, zpn, if_true, if_false, ite_not, Bool.false_eq_true, ne_eq, not_true_eq_false, not_false_eq_true, true_and, and_true, Nat.add_assoc, Nat.reduceAdd]
    exact hQ σ' h
end
