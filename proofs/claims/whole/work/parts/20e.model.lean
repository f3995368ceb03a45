def wS (n : Nat) (K F L : SF) : Nat → Nat
  | 0 => 0
  | k + 1 => if spare n K F L (k + 1) < spare n K F L (wS n K F L k) then k + 1 else wS n K F L k
theorem wS_le {n : Nat} {K F L : SF} : ∀ k, wS n K F L k ≤ k := by
  intro k
  induction k with
  | zero => exact Nat.le_refl _
  | succ k ih => rw [wS]; split <;> omega
theorem wS_min {n : Nat} {K F L : SF} : ∀ k, spare n K F L (wS n K F L k) = smin n K F L k := by
  intro k
  induction k with
  | zero => rfl
  | succ k ih =>
    rw [wS, smin, ← ih]
    split <;> rfl
theorem wS_first {n : Nat} {K F L : SF} : ∀ k i, i < wS n K F L k → ¬ spare n K F L i = smin n K F L k := by
  have key : ∀ k, (∀ i, i ≤ k → smin n K F L k ≤ spare n K F L i) ∧ ∀ i, i < wS n K F L k → ¬ spare n K F L i = smin n K F L k := by
    intro k
    induction k with
    | zero => exact ⟨fun i hi => by rw [show i = 0 by omega]; exact Int32.le_refl _, fun i hi => absurd hi (Nat.not_lt_zero i)⟩
    | succ k ih =>
      rw [wS, wS_min, smin]
      by_cases h : spare n K F L (k + 1) < smin n K F L k
      · rw [if_pos h, if_pos h]
        refine ⟨fun i hi => ?_, fun i hi e => ?_⟩
        · by_cases e : i = k + 1
          · subst e; exact Int32.le_refl _
          · exact Int32.le_of_lt (Int32.lt_of_lt_of_le h (ih.1 i (by omega)))
        · have h2 := ih.1 i (by omega)
          rw [e] at h2
          exact Int32.not_lt.mpr h2 h
      · rw [if_neg h, if_neg h]
        refine ⟨fun i hi => ?_, ih.2⟩
        by_cases e : i = k + 1
        · subst e; exact Int32.not_lt.mp h
        · exact ih.1 i (by omega)
  exact fun k => (key k).2
theorem wkj_eq {n : Nat} {K F L : SF} (hn : 2 ≤ n) : wkj n K F L = nI (wS n K F L (n - 2)) := by
  have h := wS_le (n := n) (K := K) (F := F) (L := L) (n - 2)
  have hl : lsp n K F L = smin n K F L (n - 2) := by rw [lsp, if_neg (by omega)]
  exact zf_at (n - 1) 0 _ (by omega) (by omega) (by rw [hl]; exact wS_min _) (fun i _ hi => by rw [hl]; exact wS_first _ i hi)
section
variable {σ : zG} {Q : Option Value → zG → Prop} {n i j c N o w : Nat} {K F L : SF} {x y z k f m : Int32} {β : Bt}
theorem M_weakest (hW : WK σ n K F L) (hF : Fok n F) : Ev zshM 199 0 [some (.ref 0), none, none] [] σ Q = Q (some (.int (wkj n K F L))) σ := by
  have hN := hW.1
  have hn := hW.2.1
  by_cases h2 : 2 ≤ n
  · rw [wkj_eq h2]
    simp (disch := first | assumption | omega | decide | exact zin_d (by assumption) (by omega) (by omega) | (simp only [zb01]; done)) only [s_M_weakest_0, s_M_weakest_2, s_M_weakest_3, s_M_weakest_4, s_M_weakest_6, s_M_weakest_7, s_M_weakest_8, s_M_weakest_9, s_M_weakest_12, s_M_weakest_15, s_M_weakest_16, s_M_weakest_19, s_M_weakest_20, s_M_weakest_21, s_M_weakest_24, s_M_weakest_25, s_M_weakest_26, s_M_weakest_29, s_M_weakest_32, s_M_weakest_33, s_M_weakest_36, s_M_weakest_37, s_M_weakest_38, s_M_weakest_41, s_M_weakest_44, s_M_weakest_45, zlt, zle, zeq, zclamp, zinc, zdec, zdi, zdr, zdl, zdn, zpi, zpn, if_true, if_false, ite_not, Bool.false_eq_true, ne_eq, not_true_eq_false, not_false_eq_true, true_and, and_true, Nat.add_assoc, Nat.reduceAdd]
    have h0 : Ev zshM 199 5 [some (.ref 0), some (.int (-9)), some (.int (nI 0))] [] σ Q = Ev zshM 199 5 [some (.ref 0), some (.int (nI (wS n K F L 0))), some (.int (nI (0 + 1)))] [] σ Q := by
      have e9 : (-9 : Int32) < 0 := by decide
      rw [s_M_weakest_5]
      simp (disch := first | assumption | omega | decide | exact zin_d (by assumption) (by omega) (by omega) | (simp only [zb01]; done)) only [s_M_weakest_0, s_M_weakest_2, s_M_weakest_3, s_M_weakest_4, s_M_weakest_6, s_M_weakest_7, s_M_weakest_8, s_M_weakest_9, s_M_weakest_12, s_M_weakest_15, s_M_weakest_16, s_M_weakest_19, s_M_weakest_20, s_M_weakest_21, s_M_weakest_24, s_M_weakest_25, s_M_weakest_26, s_M_weakest_29, s_M_weakest_32, s_M_weakest_33, s_M_weakest_36, s_M_weakest_37, s_M_weakest_38, s_M_weakest_41, s_M_weakest_44, s_M_weakest_45, zlt, zle, zeq, zclamp, zinc, zdec, zdi, zdr, zdl, zdn, zpi, zpn, if_true, if_false, ite_not, Bool.false_eq_true, ne_eq, not_true_eq_false, not_false_eq_true, true_and, and_true, Nat.add_assoc, Nat.reduceAdd, hn, zift, ziff, wS]
    refine h0.trans ?_
    refine loopE (N := n - 2) (fun j => Ev zshM 199 5 [some (.ref 0), some (.int (nI (wS n K F L j))), some (.int (nI (j + 1)))] [] σ Q) (fun j hj => ?_) ?_ 0 (by omega)
    · have hw := wS_le (n := n) (K := K) (F := F) (L := L) j
      have p0 : ¬ nI (wS n K F L j) < 0 := nI_pos (by omega)
      rw [s_M_weakest_5]
      by_cases h : spare n K F L (j + 1) < spare n K F L (wS n K F L j)
      · have h' := Int32.not_le.mpr h
        have e : wS n K F L (j + 1) = j + 1 := by rw [wS, if_pos h]
        rw [e]
        simp (disch := first | assumption | omega | decide | exact zin_d (by assumption) (by omega) (by omega) | (simp only [zb01]; done)) only [s_M_weakest_0, s_M_weakest_2, s_M_weakest_3, s_M_weakest_4, s_M_weakest_6, s_M_weakest_7, s_M_weakest_8, s_M_weakest_9, s_M_weakest_12, s_M_weakest_15, s_M_weakest_16, s_M_weakest_19, s_M_weakest_20, s_M_weakest_21, s_M_weakest_24, s_M_weakest_25, s_M_weakest_26, s_M_weakest_29, s_M_weakest_32, s_M_weakest_33, s_M_weakest_36, s_M_weakest_37, s_M_weakest_38, s_M_weakest_41, s_M_weakest_44, s_M_weakest_45, zlt, zle, zeq, zclamp, zinc, zdec, zdi, zdr, zdl, zdn, zpi, zpn, if_true, if_false, ite_not, Bool.false_eq_true, ne_eq, not_true_eq_false, not_false_eq_true, true_and, and_true, Nat.add_assoc, Nat.reduceAdd, hn, M_beyond hW hF, zift, ziff]
      · have h' := Int32.not_lt.mp h
        have e : wS n K F L (j + 1) = wS n K F L j := by rw [wS, if_neg h]
        rw [e]
        simp (disch := first | assumption | omega | decide | exact zin_d (by assumption) (by omega) (by omega) | (simp only [zb01]; done)) only [s_M_weakest_0, s_M_weakest_2, s_M_weakest_3, s_M_weakest_4, s_M_weakest_6, s_M_weakest_7, s_M_weakest_8, s_M_weakest_9, s_M_weakest_12, s_M_weakest_15, s_M_weakest_16, s_M_weakest_19, s_M_weakest_20, s_M_weakest_21, s_M_weakest_24, s_M_weakest_25, s_M_weakest_26, s_M_weakest_29, s_M_weakest_32, s_M_weakest_33, s_M_weakest_36, s_M_weakest_37, s_M_weakest_38, s_M_weakest_41, s_M_weakest_44, s_M_weakest_45, zlt, zle, zeq, zclamp, zinc, zdec, zdi, zdr, zdl, zdn, zpi, zpn, if_true, if_false, ite_not, Bool.false_eq_true, ne_eq, not_true_eq_false, not_false_eq_true, true_and, and_true, Nat.add_assoc, Nat.reduceAdd, hn, M_beyond hW hF, zift, ziff]
    · rw [s_M_weakest_5]
      simp (disch := first | assumption | omega | decide | exact zin_d (by assumption) (by omega) (by omega) | (simp only [zb01]; done)) only [s_M_weakest_0, s_M_weakest_2, s_M_weakest_3, s_M_weakest_4, s_M_weakest_6, s_M_weakest_7, s_M_weakest_8, s_M_weakest_9, s_M_weakest_12, s_M_weakest_15, s_M_weakest_16, s_M_weakest_19, s_M_weakest_20, s_M_weakest_21, s_M_weakest_24, s_M_weakest_25, s_M_weakest_26, s_M_weakest_29, s_M_weakest_32, s_M_weakest_33, s_M_weakest_36, s_M_weakest_37, s_M_weakest_38, s_M_weakest_41, s_M_weakest_44, s_M_weakest_45, zlt, zle, zeq, zclamp, zinc, zdec, zdi, zdr, zdl, zdn, zpi, zpn, if_true, if_false, ite_not, Bool.false_eq_true, ne_eq, not_true_eq_false, not_false_eq_true, true_and, and_true, Nat.add_assoc, Nat.reduceAdd, hn, zift, ziff]
  · have e : wkj n K F L = -9 := by rw [wkj, show n - 1 = 0 by omega]; rfl
    rw [e]
    have h0 : Ev zshM 199 5 [some (.ref 0), some (.int (-9)), some (.int (nI 0))] [] σ Q = Q (some (.int (-9))) σ := by
      rw [s_M_weakest_5]
      simp (disch := first | assumption | omega | decide | exact zin_d (by assumption) (by omega) (by omega) | (simp only [zb01]; done)) only [s_M_weakest_0, s_M_weakest_2, s_M_weakest_3, s_M_weakest_4, s_M_weakest_6, s_M_weakest_7, s_M_weakest_8, s_M_weakest_9, s_M_weakest_12, s_M_weakest_15, s_M_weakest_16, s_M_weakest_19, s_M_weakest_20, s_M_weakest_21, s_M_weakest_24, s_M_weakest_25, s_M_weakest_26, s_M_weakest_29, s_M_weakest_32, s_M_weakest_33, s_M_weakest_36, s_M_weakest_37, s_M_weakest_38, s_M_weakest_41, s_M_weakest_44, s_M_weakest_45, zlt, zle, zeq, zclamp, zinc, zdec, zdi, zdr, zdl, zdn, zpi, zpn, if_true, if_false, ite_not, Bool.false_eq_true, ne_eq, not_true_eq_false, not_false_eq_true, true_and, and_true, Nat.add_assoc, Nat.reduceAdd, hn, zift, ziff]
    simp (disch := first | assumption | omega | decide | exact zin_d (by assumption) (by omega) (by omega) | (simp only [zb01]; done)) only [s_M_weakest_0, s_M_weakest_2, s_M_weakest_3, s_M_weakest_4, s_M_weakest_6, s_M_weakest_7, s_M_weakest_8, s_M_weakest_9, s_M_weakest_12, s_M_weakest_15, s_M_weakest_16, s_M_weakest_19, s_M_weakest_20, s_M_weakest_21, s_M_weakest_24, s_M_weakest_25, s_M_weakest_26, s_M_weakest_29, s_M_weakest_32, s_M_weakest_33, s_M_weakest_36, s_M_weakest_37, s_M_weakest_38, s_M_weakest_41, s_M_weakest_44, s_M_weakest_45, zlt, zle, zeq, zclamp, zinc, zdec, zdi, zdr, zdl, zdn, zpi, zpn, if_true, if_false, ite_not, Bool.false_eq_true, ne_eq, not_true_eq_false, not_false_eq_true, true_and, and_true, Nat.add_assoc, Nat.reduceAdd]
    exact h0
theorem M_spareNow (hW : WK σ n K F L) (hF : Fok n F) : Ev zshM 200 0 [some (.ref 0)] [] σ Q = Q (some (.int (lsp n K F L))) σ := by
  have hN := hW.1
  have hn := hW.2.1
  by_cases h2 : 2 ≤ n
  · have hw := wS_le (n := n) (K := K) (F := F) (L := L) (n - 2)
    have e : spare n K F L (wS n K F L (n - 2)) = lsp n K F L := by rw [wS_min, lsp, if_neg (by omega)]
    simp (disch := first | assumption | omega | decide | exact zin_d (by assumption) (by omega) (by omega) | (simp only [zb01]; done)) only [s_M_spareNow_0, s_M_spareNow_1, s_M_spareNow_4, s_M_spareNow_5, s_M_spareNow_8, s_M_spareNow_9, s_M_spareNow_12, s_M_spareNow_13, s_M_spareNow_14, s_M_spareNow_17, s_M_spareNow_20, zlt, zle, zeq, zclamp, zinc, zdec, zdi, zdr, zdl, zdn, zpi, zpn, if_true, if_false, ite_not, Bool.false_eq_true, ne_eq, not_true_eq_false, not_false_eq_true, true_and, and_true, Nat.add_assoc, Nat.reduceAdd, zlL_2, zlR_2, zeL_2, zeR_2, zqL_2, zcl_2, hn, M_weakest hW hF, wkj_eq h2, M_beyond hW hF, e, zift]
  · have e : lsp n K F L = 0 := by rw [lsp, if_pos (by omega)]
    rw [e]
    simp (disch := first | assumption | omega | decide | exact zin_d (by assumption) (by omega) (by omega) | (simp only [zb01]; done)) only [s_M_spareNow_0, s_M_spareNow_1, s_M_spareNow_4, s_M_spareNow_5, s_M_spareNow_8, s_M_spareNow_9, s_M_spareNow_12, s_M_spareNow_13, s_M_spareNow_14, s_M_spareNow_17, s_M_spareNow_20, zlt, zle, zeq, zclamp, zinc, zdec, zdi, zdr, zdl, zdn, zpi, zpn, if_true, if_false, ite_not, Bool.false_eq_true, ne_eq, not_true_eq_false, not_false_eq_true, true_and, and_true, Nat.add_assoc, Nat.reduceAdd, zlL_2, zlR_2, zeL_2, zeR_2, zqL_2, zcl_2, hn, ziff]
end
