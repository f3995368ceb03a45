theorem strg_in {K F : SF} : ∀ k, ∃ i, i < k + 1 ∧ strg K F (k + 1) = (nI i, hold (K i) (F i)) := by
  intro k
  induction k with
  | zero => exact ⟨0, by omega, by rw [strg, if_pos (Or.inl (show (strg K F 0).1 = -9 from rfl))]⟩
  | succ k ih =>
    obtain ⟨i, hi, e⟩ := ih
    rw [strg]
    split
    · exact ⟨k + 1, by omega, rfl⟩
    · exact ⟨i, by omega, e⟩
theorem shl_lay : ∀ i, i < 13 → ∀ v, v ≤ 1 → nI v <<< (nI i &&& 31) = if nI v = 1 then 1 <<< (nI i &&& 31) else 0 := by decide
section
variable {σ : zG} {Q : Option Value → zG → Prop} {n i j c N o w : Nat} {K F L : SF} {x y z k f m : Int32} {β : Bt}
theorem M_mortar (hW : WK σ n K F L) (hF : Fok n F) : Ev zshM 231 0 [some (.ref 0), none, none] [] σ Q = Q (some (.int (lack n K F L (n - 1)))) σ := by
  have hN := hW.1
  have hn := hW.2.1
  simp (disch := first | assumption | omega | decide | exact zin_d (by assumption) (by omega) (by omega) | (simp only [zb01]; done)) only [s_M_mortar_0, s_M_mortar_1, s_M_mortar_2, s_M_mortar_3, s_M_mortar_5, s_M_mortar_6, s_M_mortar_7, s_M_mortar_8, s_M_mortar_11, s_M_mortar_14, s_M_mortar_15, s_M_mortar_16, s_M_mortar_17, s_M_mortar_20, s_M_mortar_23, s_M_mortar_24, s_M_mortar_25, s_M_mortar_28, s_M_mortar_29, s_M_mortar_32, s_M_mortar_33, s_M_mortar_34, s_M_mortar_35, s_M_mortar_38, s_M_mortar_41, s_M_mortar_42, zlt, zle, zeq, zclamp, zinc, zdec, zdi, zdr, zdl, zdn, zpi, zpn, if_true, if_false, ite_not, Bool.false_eq_true, ne_eq, not_true_eq_false, not_false_eq_true, true_and, and_true, Nat.add_assoc, Nat.reduceAdd]
  refine loopE (N := n - 1) (fun j => Ev zshM 231 4 [some (.ref 0), some (.int (lack n K F L j)), some (.int (nI j))] [] σ Q) (fun j hj => ?_) ?_ 0 (by omega)
  · rw [s_M_mortar_4, lack]
    by_cases h : spare n K F L j < 0
    · have h' := Int32.not_le.mpr h
      rw [if_pos h]
      simp (disch := first | assumption | omega | decide | exact zin_d (by assumption) (by omega) (by omega) | (simp only [zb01]; done)) only [s_M_mortar_0, s_M_mortar_1, s_M_mortar_2, s_M_mortar_3, s_M_mortar_5, s_M_mortar_6, s_M_mortar_7, s_M_mortar_8, s_M_mortar_11, s_M_mortar_14, s_M_mortar_15, s_M_mortar_16, s_M_mortar_17, s_M_mortar_20, s_M_mortar_23, s_M_mortar_24, s_M_mortar_25, s_M_mortar_28, s_M_mortar_29, s_M_mortar_32, s_M_mortar_33, s_M_mortar_34, s_M_mortar_35, s_M_mortar_38, s_M_mortar_41, s_M_mortar_42, zlt, zle, zeq, zclamp, zinc, zdec, zdi, zdr, zdl, zdn, zpi, zpn, if_true, if_false, ite_not, Bool.false_eq_true, ne_eq, not_true_eq_false, not_false_eq_true, true_and, and_true, Nat.add_assoc, Nat.reduceAdd, hn, M_beyond hW hF, zift, ziff]
    · have h' := Int32.not_lt.mp h
      rw [if_neg h]
      simp (disch := first | assumption | omega | decide | exact zin_d (by assumption) (by omega) (by omega) | (simp only [zb01]; done)) only [s_M_mortar_0, s_M_mortar_1, s_M_mortar_2, s_M_mortar_3, s_M_mortar_5, s_M_mortar_6, s_M_mortar_7, s_M_mortar_8, s_M_mortar_11, s_M_mortar_14, s_M_mortar_15, s_M_mortar_16, s_M_mortar_17, s_M_mortar_20, s_M_mortar_23, s_M_mortar_24, s_M_mortar_25, s_M_mortar_28, s_M_mortar_29, s_M_mortar_32, s_M_mortar_33, s_M_mortar_34, s_M_mortar_35, s_M_mortar_38, s_M_mortar_41, s_M_mortar_42, zlt, zle, zeq, zclamp, zinc, zdec, zdi, zdr, zdl, zdn, zpi, zpn, if_true, if_false, ite_not, Bool.false_eq_true, ne_eq, not_true_eq_false, not_false_eq_true, true_and, and_true, Nat.add_assoc, Nat.reduceAdd, hn, M_beyond hW hF, zift, ziff]
  · rw [s_M_mortar_4]
    simp (disch := first | assumption | omega | decide | exact zin_d (by assumption) (by omega) (by omega) | (simp only [zb01]; done)) only [s_M_mortar_0, s_M_mortar_1, s_M_mortar_2, s_M_mortar_3, s_M_mortar_5, s_M_mortar_6, s_M_mortar_7, s_M_mortar_8, s_M_mortar_11, s_M_mortar_14, s_M_mortar_15, s_M_mortar_16, s_M_mortar_17, s_M_mortar_20, s_M_mortar_23, s_M_mortar_24, s_M_mortar_25, s_M_mortar_28, s_M_mortar_29, s_M_mortar_32, s_M_mortar_33, s_M_mortar_34, s_M_mortar_35, s_M_mortar_38, s_M_mortar_41, s_M_mortar_42, zlt, zle, zeq, zclamp, zinc, zdec, zdi, zdr, zdl, zdn, zpi, zpn, if_true, if_false, ite_not, Bool.false_eq_true, ne_eq, not_true_eq_false, not_false_eq_true, true_and, and_true, Nat.add_assoc, Nat.reduceAdd, hn, zift, ziff]
theorem M_lacking (hW : WK σ n K F L) (hF : Fok n F) : Ev zshM 258 0 [some (.ref 0), none, none] [] σ Q = Q (some (.int (lackB n K F L (n - 1)))) σ := by
  have hN := hW.1
  have hn := hW.2.1
  simp (disch := first | assumption | omega | decide | exact zin_d (by assumption) (by omega) (by omega) | (simp only [zb01]; done)) only [s_M_lacking_0, s_M_lacking_1, s_M_lacking_2, s_M_lacking_3, s_M_lacking_5, s_M_lacking_6, s_M_lacking_7, s_M_lacking_8, s_M_lacking_11, s_M_lacking_14, s_M_lacking_15, s_M_lacking_16, s_M_lacking_17, s_M_lacking_20, s_M_lacking_23, s_M_lacking_24, s_M_lacking_25, s_M_lacking_26, s_M_lacking_29, s_M_lacking_30, s_M_lacking_31, s_M_lacking_32, s_M_lacking_35, s_M_lacking_38, s_M_lacking_39, zlt, zle, zeq, zclamp, zinc, zdec, zdi, zdr, zdl, zdn, zpi, zpn, if_true, if_false, ite_not, Bool.false_eq_true, ne_eq, not_true_eq_false, not_false_eq_true, true_and, and_true, Nat.add_assoc, Nat.reduceAdd]
  refine loopE (N := n - 1) (fun j => Ev zshM 258 4 [some (.ref 0), some (.int (lackB n K F L j)), some (.int (nI j))] [] σ Q) (fun j hj => ?_) ?_ 0 (by omega)
  · rw [s_M_lacking_4, lackB]
    by_cases h : spare n K F L j < 0
    · have h' := Int32.not_le.mpr h
      rw [if_pos h]
      simp (disch := first | assumption | omega | decide | exact zin_d (by assumption) (by omega) (by omega) | (simp only [zb01]; done)) only [s_M_lacking_0, s_M_lacking_1, s_M_lacking_2, s_M_lacking_3, s_M_lacking_5, s_M_lacking_6, s_M_lacking_7, s_M_lacking_8, s_M_lacking_11, s_M_lacking_14, s_M_lacking_15, s_M_lacking_16, s_M_lacking_17, s_M_lacking_20, s_M_lacking_23, s_M_lacking_24, s_M_lacking_25, s_M_lacking_26, s_M_lacking_29, s_M_lacking_30, s_M_lacking_31, s_M_lacking_32, s_M_lacking_35, s_M_lacking_38, s_M_lacking_39, zlt, zle, zeq, zclamp, zinc, zdec, zdi, zdr, zdl, zdn, zpi, zpn, if_true, if_false, ite_not, Bool.false_eq_true, ne_eq, not_true_eq_false, not_false_eq_true, true_and, and_true, Nat.add_assoc, Nat.reduceAdd, hn, M_beyond hW hF, zift, ziff]
    · have h' := Int32.not_lt.mp h
      rw [if_neg h]
      simp (disch := first | assumption | omega | decide | exact zin_d (by assumption) (by omega) (by omega) | (simp only [zb01]; done)) only [s_M_lacking_0, s_M_lacking_1, s_M_lacking_2, s_M_lacking_3, s_M_lacking_5, s_M_lacking_6, s_M_lacking_7, s_M_lacking_8, s_M_lacking_11, s_M_lacking_14, s_M_lacking_15, s_M_lacking_16, s_M_lacking_17, s_M_lacking_20, s_M_lacking_23, s_M_lacking_24, s_M_lacking_25, s_M_lacking_26, s_M_lacking_29, s_M_lacking_30, s_M_lacking_31, s_M_lacking_32, s_M_lacking_35, s_M_lacking_38, s_M_lacking_39, zlt, zle, zeq, zclamp, zinc, zdec, zdi, zdr, zdl, zdn, zpi, zpn, if_true, if_false, ite_not, Bool.false_eq_true, ne_eq, not_true_eq_false, not_false_eq_true, true_and, and_true, Nat.add_assoc, Nat.reduceAdd, hn, M_beyond hW hF, zift, ziff]
  · rw [s_M_lacking_4]
    simp (disch := first | assumption | omega | decide | exact zin_d (by assumption) (by omega) (by omega) | (simp only [zb01]; done)) only [s_M_lacking_0, s_M_lacking_1, s_M_lacking_2, s_M_lacking_3, s_M_lacking_5, s_M_lacking_6, s_M_lacking_7, s_M_lacking_8, s_M_lacking_11, s_M_lacking_14, s_M_lacking_15, s_M_lacking_16, s_M_lacking_17, s_M_lacking_20, s_M_lacking_23, s_M_lacking_24, s_M_lacking_25, s_M_lacking_26, s_M_lacking_29, s_M_lacking_30, s_M_lacking_31, s_M_lacking_32, s_M_lacking_35, s_M_lacking_38, s_M_lacking_39, zlt, zle, zeq, zclamp, zinc, zdec, zdi, zdr, zdl, zdn, zpi, zpn, if_true, if_false, ite_not, Bool.false_eq_true, ne_eq, not_true_eq_false, not_false_eq_true, true_and, and_true, Nat.add_assoc, Nat.reduceAdd, hn, zift, ziff]
theorem M_allFigures (hW : WK σ n K F L) : Ev zshM 246 0 [some (.ref 0), none, none] [] σ Q = Q (some (.int (fsum F n))) σ := by
  obtain ⟨hN, hn, hA⟩ := hW
  have z3 : zshM 3 = 100 + 13 := rfl
  simp (disch := first | assumption | omega | decide | exact zin_d (by assumption) (by omega) (by omega) | (simp only [zb01]; done)) only [s_M_allFigures_0, s_M_allFigures_1, s_M_allFigures_2, s_M_allFigures_3, s_M_allFigures_5, s_M_allFigures_6, s_M_allFigures_9, s_M_allFigures_12, s_M_allFigures_13, s_M_allFigures_14, s_M_allFigures_17, s_M_allFigures_18, s_M_allFigures_19, s_M_allFigures_20, s_M_allFigures_21, s_M_allFigures_24, s_M_allFigures_27, s_M_allFigures_28, zlt, zle, zeq, zclamp, zinc, zdec, zdi, zdr, zdl, zdn, zpi, zpn, if_true, if_false, ite_not, Bool.false_eq_true, ne_eq, not_true_eq_false, not_false_eq_true, true_and, and_true, Nat.add_assoc, Nat.reduceAdd]
  refine loopE (N := n) (fun j => Ev zshM 246 4 [some (.ref 0), some (.int (fsum F j)), some (.int (nI j))] [] σ Q) (fun j hj => ?_) ?_ 0 (by omega)
  · have hj13 : j < 13 := by omega
    rw [s_M_allFigures_4, fsum]
    simp (disch := first | assumption | omega | decide | exact zin_d (by assumption) (by omega) (by omega) | (simp only [zb01]; done)) only [s_M_allFigures_0, s_M_allFigures_1, s_M_allFigures_2, s_M_allFigures_3, s_M_allFigures_5, s_M_allFigures_6, s_M_allFigures_9, s_M_allFigures_12, s_M_allFigures_13, s_M_allFigures_14, s_M_allFigures_17, s_M_allFigures_18, s_M_allFigures_19, s_M_allFigures_20, s_M_allFigures_21, s_M_allFigures_24, s_M_allFigures_27, s_M_allFigures_28, zlt, zle, zeq, zclamp, zinc, zdec, zdi, zdr, zdl, zdn, zpi, zpn, if_true, if_false, ite_not, Bool.false_eq_true, ne_eq, not_true_eq_false, not_false_eq_true, true_and, and_true, Nat.add_assoc, Nat.reduceAdd, hn, (hA j hj).2.1, zift, ziff]
  · rw [s_M_allFigures_4]
    simp (disch := first | assumption | omega | decide | exact zin_d (by assumption) (by omega) (by omega) | (simp only [zb01]; done)) only [s_M_allFigures_0, s_M_allFigures_1, s_M_allFigures_2, s_M_allFigures_3, s_M_allFigures_5, s_M_allFigures_6, s_M_allFigures_9, s_M_allFigures_12, s_M_allFigures_13, s_M_allFigures_14, s_M_allFigures_17, s_M_allFigures_18, s_M_allFigures_19, s_M_allFigures_20, s_M_allFigures_21, s_M_allFigures_24, s_M_allFigures_27, s_M_allFigures_28, zlt, zle, zeq, zclamp, zinc, zdec, zdi, zdr, zdl, zdn, zpi, zpn, if_true, if_false, ite_not, Bool.false_eq_true, ne_eq, not_true_eq_false, not_false_eq_true, true_and, and_true, Nat.add_assoc, Nat.reduceAdd, hn, zift, ziff]
theorem M_laidByNight (hW : WK σ n K F L) (hL : ∀ i, i < n → num 1 (L i)) : Ev zshM 257 0 [some (.ref 0), none, none] [] σ Q = Q (some (.int (laidB L 1 n))) σ := by
  obtain ⟨hN, hn, hA⟩ := hW
  have z4 : zshM 4 = 100 + 13 := rfl
  simp (disch := first | assumption | omega | decide | exact zin_d (by assumption) (by omega) (by omega) | (simp only [zb01]; done)) only [s_M_laidByNight_0, s_M_laidByNight_1, s_M_laidByNight_2, s_M_laidByNight_3, s_M_laidByNight_5, s_M_laidByNight_6, s_M_laidByNight_9, s_M_laidByNight_12, s_M_laidByNight_13, s_M_laidByNight_14, s_M_laidByNight_17, s_M_laidByNight_18, s_M_laidByNight_19, s_M_laidByNight_20, s_M_laidByNight_21, s_M_laidByNight_22, s_M_laidByNight_23, s_M_laidByNight_26, s_M_laidByNight_29, s_M_laidByNight_30, zlt, zle, zeq, zclamp, zinc, zdec, zdi, zdr, zdl, zdn, zpi, zpn, if_true, if_false, ite_not, Bool.false_eq_true, ne_eq, not_true_eq_false, not_false_eq_true, true_and, and_true, Nat.add_assoc, Nat.reduceAdd]
  refine loopE (N := n) (fun j => Ev zshM 257 4 [some (.ref 0), some (.int (laidB L 1 j)), some (.int (nI j))] [] σ Q) (fun j hj => ?_) ?_ 0 (by omega)
  · have hj13 : j < 13 := by omega
    obtain ⟨v, hv, ev⟩ := hL j hj
    rw [s_M_laidByNight_4, laidB, ev, ← shl_lay j hj13 v hv]
    simp (disch := first | assumption | omega | decide | exact zin_d (by assumption) (by omega) (by omega) | (simp only [zb01]; done)) only [s_M_laidByNight_0, s_M_laidByNight_1, s_M_laidByNight_2, s_M_laidByNight_3, s_M_laidByNight_5, s_M_laidByNight_6, s_M_laidByNight_9, s_M_laidByNight_12, s_M_laidByNight_13, s_M_laidByNight_14, s_M_laidByNight_17, s_M_laidByNight_18, s_M_laidByNight_19, s_M_laidByNight_20, s_M_laidByNight_21, s_M_laidByNight_22, s_M_laidByNight_23, s_M_laidByNight_26, s_M_laidByNight_29, s_M_laidByNight_30, zlt, zle, zeq, zclamp, zinc, zdec, zdi, zdr, zdl, zdn, zpi, zpn, if_true, if_false, ite_not, Bool.false_eq_true, ne_eq, not_true_eq_false, not_false_eq_true, true_and, and_true, Nat.add_assoc, Nat.reduceAdd, hn, (hA j hj).2.2, ev, zift, ziff]
  · rw [s_M_laidByNight_4]
    simp (disch := first | assumption | omega | decide | exact zin_d (by assumption) (by omega) (by omega) | (simp only [zb01]; done)) only [s_M_laidByNight_0, s_M_laidByNight_1, s_M_laidByNight_2, s_M_laidByNight_3, s_M_laidByNight_5, s_M_laidByNight_6, s_M_laidByNight_9, s_M_laidByNight_12, s_M_laidByNight_13, s_M_laidByNight_14, s_M_laidByNight_17, s_M_laidByNight_18, s_M_laidByNight_19, s_M_laidByNight_20, s_M_laidByNight_21, s_M_laidByNight_22, s_M_laidByNight_23, s_M_laidByNight_26, s_M_laidByNight_29, s_M_laidByNight_30, zlt, zle, zeq, zclamp, zinc, zdec, zdi, zdr, zdl, zdn, zpi, zpn, if_true, if_false, ite_not, Bool.false_eq_true, ne_eq, not_true_eq_false, not_false_eq_true, true_and, and_true, Nat.add_assoc, Nat.reduceAdd, hn, zift, ziff]
theorem M_keystone (hW : WK σ n K F L) : Ev zshM 230 0 [some (.ref 0), none, none] [] σ Q = Q (some (.int (strg K F n).1)) σ := by
  have hN := hW.1
  have hn := hW.2.1
  simp (disch := first | assumption | omega | decide | exact zin_d (by assumption) (by omega) (by omega) | (simp only [zb01]; done)) only [s_M_keystone_0, s_M_keystone_2, s_M_keystone_3, s_M_keystone_4, s_M_keystone_6, s_M_keystone_7, s_M_keystone_10, s_M_keystone_13, s_M_keystone_14, s_M_keystone_17, s_M_keystone_18, s_M_keystone_19, s_M_keystone_22, s_M_keystone_23, s_M_keystone_24, s_M_keystone_27, s_M_keystone_30, s_M_keystone_31, s_M_keystone_34, s_M_keystone_35, s_M_keystone_36, s_M_keystone_39, s_M_keystone_42, s_M_keystone_43, zlt, zle, zeq, zclamp, zinc, zdec, zdi, zdr, zdl, zdn, zpi, zpn, if_true, if_false, ite_not, Bool.false_eq_true, ne_eq, not_true_eq_false, not_false_eq_true, true_and, and_true, Nat.add_assoc, Nat.reduceAdd]
  refine loopE (N := n) (fun j => Ev zshM 230 5 [some (.ref 0), some (.int (strg K F j).1), some (.int (nI j))] [] σ Q) (fun j hj => ?_) ?_ 0 (by omega)
  · rw [s_M_keystone_5]
    cases j with
    | zero =>
      have e9 : (-9 : Int32) < 0 := by decide
      have e1 : (strg K F (0 + 1)).1 = nI 0 := by rw [strg, if_pos (Or.inl (show (strg K F 0).1 = -9 from rfl))]
      have e0 : (strg K F 0).1 = -9 := rfl
      rw [e1, e0]
      simp (disch := first | assumption | omega | decide | exact zin_d (by assumption) (by omega) (by omega) | (simp only [zb01]; done)) only [s_M_keystone_0, s_M_keystone_2, s_M_keystone_3, s_M_keystone_4, s_M_keystone_6, s_M_keystone_7, s_M_keystone_10, s_M_keystone_13, s_M_keystone_14, s_M_keystone_17, s_M_keystone_18, s_M_keystone_19, s_M_keystone_22, s_M_keystone_23, s_M_keystone_24, s_M_keystone_27, s_M_keystone_30, s_M_keystone_31, s_M_keystone_34, s_M_keystone_35, s_M_keystone_36, s_M_keystone_39, s_M_keystone_42, s_M_keystone_43, zlt, zle, zeq, zclamp, zinc, zdec, zdi, zdr, zdl, zdn, zpi, zpn, if_true, if_false, ite_not, Bool.false_eq_true, ne_eq, not_true_eq_false, not_false_eq_true, true_and, and_true, Nat.add_assoc, Nat.reduceAdd, hn, zift, ziff]
    | succ k =>
      obtain ⟨i, hi, e⟩ := strg_in (K := K) (F := F) k
      have p0 : ¬ nI i < 0 := nI_pos (by omega)
      have e9 : nI i ≠ -9 := nI_ne9 (by omega)
      have es : strg K F (k + 1 + 1) = if nI i = -9 ∨ hold (K i) (F i) < hold (K (k + 1)) (F (k + 1)) then (nI (k + 1), hold (K (k + 1)) (F (k + 1))) else strg K F (k + 1) := by rw [strg, e]
      by_cases h : hold (K i) (F i) < hold (K (k + 1)) (F (k + 1))
      · have h' := Int32.not_le.mpr h
        rw [es, if_pos (Or.inr h), e]
        simp (disch := first | assumption | omega | decide | exact zin_d (by assumption) (by omega) (by omega) | (simp only [zb01]; done)) only [s_M_keystone_0, s_M_keystone_2, s_M_keystone_3, s_M_keystone_4, s_M_keystone_6, s_M_keystone_7, s_M_keystone_10, s_M_keystone_13, s_M_keystone_14, s_M_keystone_17, s_M_keystone_18, s_M_keystone_19, s_M_keystone_22, s_M_keystone_23, s_M_keystone_24, s_M_keystone_27, s_M_keystone_30, s_M_keystone_31, s_M_keystone_34, s_M_keystone_35, s_M_keystone_36, s_M_keystone_39, s_M_keystone_42, s_M_keystone_43, zlt, zle, zeq, zclamp, zinc, zdec, zdi, zdr, zdl, zdn, zpi, zpn, if_true, if_false, ite_not, Bool.false_eq_true, ne_eq, not_true_eq_false, not_false_eq_true, true_and, and_true, Nat.add_assoc, Nat.reduceAdd, hn, M_holdsOf hW, zift, ziff]
      · have h' := Int32.not_lt.mp h
        rw [es, if_neg (fun z => z.elim e9 h), e]
        simp (disch := first | assumption | omega | decide | exact zin_d (by assumption) (by omega) (by omega) | (simp only [zb01]; done)) only [s_M_keystone_0, s_M_keystone_2, s_M_keystone_3, s_M_keystone_4, s_M_keystone_6, s_M_keystone_7, s_M_keystone_10, s_M_keystone_13, s_M_keystone_14, s_M_keystone_17, s_M_keystone_18, s_M_keystone_19, s_M_keystone_22, s_M_keystone_23, s_M_keystone_24, s_M_keystone_27, s_M_keystone_30, s_M_keystone_31, s_M_keystone_34, s_M_keystone_35, s_M_keystone_36, s_M_keystone_39, s_M_keystone_42, s_M_keystone_43, zlt, zle, zeq, zclamp, zinc, zdec, zdi, zdr, zdl, zdn, zpi, zpn, if_true, if_false, ite_not, Bool.false_eq_true, ne_eq, not_true_eq_false, not_false_eq_true, true_and, and_true, Nat.add_assoc, Nat.reduceAdd, hn, M_holdsOf hW, zift, ziff]
  · rw [s_M_keystone_5]
    simp (disch := first | assumption | omega | decide | exact zin_d (by assumption) (by omega) (by omega) | (simp only [zb01]; done)) only [s_M_keystone_0, s_M_keystone_2, s_M_keystone_3, s_M_keystone_4, s_M_keystone_6, s_M_keystone_7, s_M_keystone_10, s_M_keystone_13, s_M_keystone_14, s_M_keystone_17, s_M_keystone_18, s_M_keystone_19, s_M_keystone_22, s_M_keystone_23, s_M_keystone_24, s_M_keystone_27, s_M_keystone_30, s_M_keystone_31, s_M_keystone_34, s_M_keystone_35, s_M_keystone_36, s_M_keystone_39, s_M_keystone_42, s_M_keystone_43, zlt, zle, zeq, zclamp, zinc, zdec, zdi, zdr, zdl, zdn, zpi, zpn, if_true, if_false, ite_not, Bool.false_eq_true, ne_eq, not_true_eq_false, not_false_eq_true, true_and, and_true, Nat.add_assoc, Nat.reduceAdd, hn, zift, ziff]
end
