/-- all but the bridge and the thoughts is as it was -/
def frT (σ σ' : zG) : Prop := (∀ a, (a = 1 ∨ (8 ≤ a ∧ a ≠ 12)) → σ' a = σ a) ∧ (∀ k, (k < 7 ∨ 10 ≤ k) → k ≠ 19 → k ≠ 20 → σ' 0 k = σ 0 k) ∧ ∀ j, j < 96 → σ' 12 j = σ 12 j
theorem frT.rf {σ : zG} : frT σ σ := ⟨fun _ _ => rfl, fun _ _ _ _ => rfl, fun _ _ => rfl⟩
theorem frT.tr {σ σ1 σ2 : zG} (h : frT σ σ1) (h' : frT σ1 σ2) : frT σ σ2 := ⟨fun a ha => (h'.1 a ha).trans (h.1 a ha), fun k g1 g2 g3 => (h'.2.1 k g1 g2 g3).trans (h.2.1 k g1 g2 g3), fun j hj => (h'.2.2 j hj).trans (h.2.2 j hj)⟩
theorem frM.T {σ σ' : zG} (h : frM σ σ') : frT σ σ' := ⟨fun a g => h.1 a (by omega), fun k g _ _ => h.2 k g, fun j _ => congrFun (h.1 12 (by omega)) j⟩
theorem KP.keep {σ σ' : zG} {w : Nat} {β : Bt} (h : KP σ w β) (hk : σ' 12 = σ 12) : KP σ' w β := by
  rw [KP, hk]; exact h
theorem WMd.keep {σ σ' : zG} {β : Bt} (h : WMd σ β) (hk : ∀ a, 2 ≤ a → a ≤ 7 → σ' a = σ a) (h0 : ∀ k, 7 ≤ k → k ≤ 9 → σ' 0 k = σ 0 k) : WMd σ' β := by
  obtain ⟨hK, hm0, hm1, hq, hd⟩ := h
  refine ⟨hK.keep (h0 7 (by omega) (by omega)) (fun a g1 g2 => hk a g1 (by omega)), ?_, ?_, ?_, ?_⟩
  · rw [hk 5 (by omega) (by omega), hk 6 (by omega) (by omega), hk 7 (by omega) (by omega)]; exact hm0
  · rw [hk 5 (by omega) (by omega), hk 6 (by omega) (by omega), hk 7 (by omega) (by omega)]; exact hm1
  · rw [h0 8 (by omega) (by omega)]; exact hq
  · rw [h0 9 (by omega) (by omega)]; exact hd
section
variable {σ : zG} {Q : Option Value → zG → Prop} {n i j c N o w : Nat} {K F L : SF} {x y z k f m : Int32} {β : Bt}
theorem M_thinks (hW : WMd σ β) (hQ : ∀ σ', WMd σ' β → KP σ' 96 β → frT σ σ' → Q none σ') : Ev zshM 184 0 [some (.ref 0)] [] σ Q := by
  simp (disch := first | assumption | omega | decide | exact zin_d (by assumption) (by omega) (by omega) | (simp only [zb01]; done)) only [s_M_thinks_0, s_M_thinks_1, s_M_thinks_2, s_M_thinks_3, s_M_thinks_6, zlt, zle, zeq, zclamp, zinc, zdec, zdi, zdr, zdl, zdn, zpi, zpn, if_true, if_false, ite_not, Bool.false_eq_true, ne_eq, not_true_eq_false, not_false_eq_true, true_and, and_true, Nat.add_assoc, Nat.reduceAdd]
  refine M_keeps (w := 2) hW (by omega) (fun σ1 h1 f1 f2 f3 => ?_)
  simp (disch := first | assumption | omega | decide | exact zin_d (by assumption) (by omega) (by omega) | (simp only [zb01]; done)) only [s_M_thinks_0, s_M_thinks_1, s_M_thinks_2, s_M_thinks_3, s_M_thinks_6, zlt, zle, zeq, zclamp, zinc, zdec, zdi, zdr, zdl, zdn, zpi, zpn, if_true, if_false, ite_not, Bool.false_eq_true, ne_eq, not_true_eq_false, not_false_eq_true, true_and, and_true, Nat.add_assoc, Nat.reduceAdd]
  exact hQ σ1 (hW.keep (fun a g1 g2 => f1 a (by omega) (by omega)) (fun k g1 g2 => f2 k (by omega) (by omega))) h1 ⟨fun a g => f1 a (by omega) (by omega), fun k _ g2 g3 => f2 k g2 g3, fun j hj => f3 j (Or.inl (by omega))⟩
theorem M_forgets (hP : KP σ 96 β) (hQ : ∀ σ', WMd σ' β → frT σ σ' → Q none σ') : Ev zshM 185 0 [some (.ref 0)] [] σ Q := by
  simp (disch := first | assumption | omega | decide | exact zin_d (by assumption) (by omega) (by omega) | (simp only [zb01]; done)) only [s_M_forgets_0, s_M_forgets_1, s_M_forgets_2, s_M_forgets_3, s_M_forgets_6, zlt, zle, zeq, zclamp, zinc, zdec, zdi, zdr, zdl, zdn, zpi, zpn, if_true, if_false, ite_not, Bool.false_eq_true, ne_eq, not_true_eq_false, not_false_eq_true, true_and, and_true, Nat.add_assoc, Nat.reduceAdd]
  refine M_backs (w := 2) hP (by omega) (fun σ1 h1 f1 f2 => ?_)
  simp (disch := first | assumption | omega | decide | exact zin_d (by assumption) (by omega) (by omega) | (simp only [zb01]; done)) only [s_M_forgets_0, s_M_forgets_1, s_M_forgets_2, s_M_forgets_3, s_M_forgets_6, zlt, zle, zeq, zclamp, zinc, zdec, zdi, zdr, zdl, zdn, zpi, zpn, if_true, if_false, ite_not, Bool.false_eq_true, ne_eq, not_true_eq_false, not_false_eq_true, true_and, and_true, Nat.add_assoc, Nat.reduceAdd]
  exact hQ σ1 h1 ⟨fun a g => f1 a (by omega), fun k g1 g2 g3 => f2 k g1 g2 g3, fun j _ => congrFun (f1 12 (by omega)) j⟩
theorem M_quarrelsIn (hW : WMd σ β) (hB : Bok β) (hn : n ≤ 1000) (hQ : ∀ σ', WMd σ' β → frT σ σ' → Q (some (.int (daysS n β).2.2.2.1)) σ') : Ev zshM 232 0 [some (.ref 0), some (.int (nI n)), none] [] σ Q := by
  simp (disch := first | assumption | omega | decide | exact zin_d (by assumption) (by omega) (by omega) | (simp only [zb01]; done)) only [s_M_quarrelsIn_0, s_M_quarrelsIn_1, s_M_quarrelsIn_4, s_M_quarrelsIn_5, s_M_quarrelsIn_6, s_M_quarrelsIn_9, s_M_quarrelsIn_10, s_M_quarrelsIn_13, s_M_quarrelsIn_14, s_M_quarrelsIn_15, s_M_quarrelsIn_18, s_M_quarrelsIn_19, zlt, zle, zeq, zclamp, zinc, zdec, zdi, zdr, zdl, zdn, zpi, zpn, if_true, if_false, ite_not, Bool.false_eq_true, ne_eq, not_true_eq_false, not_false_eq_true, true_and, and_true, Nat.add_assoc, Nat.reduceAdd]
  refine M_thinks hW (fun σ1 h1 k1 f1 => ?_)
  simp (disch := first | assumption | omega | decide | exact zin_d (by assumption) (by omega) (by omega) | (simp only [zb01]; done)) only [s_M_quarrelsIn_0, s_M_quarrelsIn_1, s_M_quarrelsIn_4, s_M_quarrelsIn_5, s_M_quarrelsIn_6, s_M_quarrelsIn_9, s_M_quarrelsIn_10, s_M_quarrelsIn_13, s_M_quarrelsIn_14, s_M_quarrelsIn_15, s_M_quarrelsIn_18, s_M_quarrelsIn_19, zlt, zle, zeq, zclamp, zinc, zdec, zdi, zdr, zdl, zdn, zpi, zpn, if_true, if_false, ite_not, Bool.false_eq_true, ne_eq, not_true_eq_false, not_false_eq_true, true_and, and_true, Nat.add_assoc, Nat.reduceAdd]
  refine M_goes h1 hB hn (fun σ2 h2 f2 => ?_)
  have hq := h2.2.2.2.1
  simp (disch := first | assumption | omega | decide | exact zin_d (by assumption) (by omega) (by omega) | (simp only [zb01]; done)) only [s_M_quarrelsIn_0, s_M_quarrelsIn_1, s_M_quarrelsIn_4, s_M_quarrelsIn_5, s_M_quarrelsIn_6, s_M_quarrelsIn_9, s_M_quarrelsIn_10, s_M_quarrelsIn_13, s_M_quarrelsIn_14, s_M_quarrelsIn_15, s_M_quarrelsIn_18, s_M_quarrelsIn_19, zlt, zle, zeq, zclamp, zinc, zdec, zdi, zdr, zdl, zdn, zpi, zpn, if_true, if_false, ite_not, Bool.false_eq_true, ne_eq, not_true_eq_false, not_false_eq_true, true_and, and_true, Nat.add_assoc, Nat.reduceAdd, hq]
  refine M_forgets (k1.keep (f2.1 12 (by omega))) (fun σ3 h3 f3 => ?_)
  simp (disch := first | assumption | omega | decide | exact zin_d (by assumption) (by omega) (by omega) | (simp only [zb01]; done)) only [s_M_quarrelsIn_0, s_M_quarrelsIn_1, s_M_quarrelsIn_4, s_M_quarrelsIn_5, s_M_quarrelsIn_6, s_M_quarrelsIn_9, s_M_quarrelsIn_10, s_M_quarrelsIn_13, s_M_quarrelsIn_14, s_M_quarrelsIn_15, s_M_quarrelsIn_18, s_M_quarrelsIn_19, zlt, zle, zeq, zclamp, zinc, zdec, zdi, zdr, zdl, zdn, zpi, zpn, if_true, if_false, ite_not, Bool.false_eq_true, ne_eq, not_true_eq_false, not_false_eq_true, true_and, and_true, Nat.add_assoc, Nat.reduceAdd]
  exact hQ σ3 h3 ((f1.tr f2.T).tr f3)
theorem M_stonesIn (hW : WMd σ β) (hB : Bok β) (hn : n ≤ 1000) (hQ : ∀ σ', WMd σ' β → frT σ σ' → Q (some (.int (nI (daysS n β).1.1))) σ') : Ev zshM 238 0 [some (.ref 0), some (.int (nI n)), none] [] σ Q := by
  simp (disch := first | assumption | omega | decide | exact zin_d (by assumption) (by omega) (by omega) | (simp only [zb01]; done)) only [s_M_stonesIn_0, s_M_stonesIn_1, s_M_stonesIn_4, s_M_stonesIn_5, s_M_stonesIn_6, s_M_stonesIn_9, s_M_stonesIn_10, s_M_stonesIn_13, s_M_stonesIn_14, s_M_stonesIn_15, s_M_stonesIn_18, s_M_stonesIn_19, zlt, zle, zeq, zclamp, zinc, zdec, zdi, zdr, zdl, zdn, zpi, zpn, if_true, if_false, ite_not, Bool.false_eq_true, ne_eq, not_true_eq_false, not_false_eq_true, true_and, and_true, Nat.add_assoc, Nat.reduceAdd]
  refine M_thinks hW (fun σ1 h1 k1 f1 => ?_)
  simp (disch := first | assumption | omega | decide | exact zin_d (by assumption) (by omega) (by omega) | (simp only [zb01]; done)) only [s_M_stonesIn_0, s_M_stonesIn_1, s_M_stonesIn_4, s_M_stonesIn_5, s_M_stonesIn_6, s_M_stonesIn_9, s_M_stonesIn_10, s_M_stonesIn_13, s_M_stonesIn_14, s_M_stonesIn_15, s_M_stonesIn_18, s_M_stonesIn_19, zlt, zle, zeq, zclamp, zinc, zdec, zdi, zdr, zdl, zdn, zpi, zpn, if_true, if_false, ite_not, Bool.false_eq_true, ne_eq, not_true_eq_false, not_false_eq_true, true_and, and_true, Nat.add_assoc, Nat.reduceAdd]
  refine M_goes h1 hB hn (fun σ2 h2 f2 => ?_)
  have hq := h2.1.2.1
  simp (disch := first | assumption | omega | decide | exact zin_d (by assumption) (by omega) (by omega) | (simp only [zb01]; done)) only [s_M_stonesIn_0, s_M_stonesIn_1, s_M_stonesIn_4, s_M_stonesIn_5, s_M_stonesIn_6, s_M_stonesIn_9, s_M_stonesIn_10, s_M_stonesIn_13, s_M_stonesIn_14, s_M_stonesIn_15, s_M_stonesIn_18, s_M_stonesIn_19, zlt, zle, zeq, zclamp, zinc, zdec, zdi, zdr, zdl, zdn, zpi, zpn, if_true, if_false, ite_not, Bool.false_eq_true, ne_eq, not_true_eq_false, not_false_eq_true, true_and, and_true, Nat.add_assoc, Nat.reduceAdd, hq]
  refine M_forgets (k1.keep (f2.1 12 (by omega))) (fun σ3 h3 f3 => ?_)
  simp (disch := first | assumption | omega | decide | exact zin_d (by assumption) (by omega) (by omega) | (simp only [zb01]; done)) only [s_M_stonesIn_0, s_M_stonesIn_1, s_M_stonesIn_4, s_M_stonesIn_5, s_M_stonesIn_6, s_M_stonesIn_9, s_M_stonesIn_10, s_M_stonesIn_13, s_M_stonesIn_14, s_M_stonesIn_15, s_M_stonesIn_18, s_M_stonesIn_19, zlt, zle, zeq, zclamp, zinc, zdec, zdi, zdr, zdl, zdn, zpi, zpn, if_true, if_false, ite_not, Bool.false_eq_true, ne_eq, not_true_eq_false, not_false_eq_true, true_and, and_true, Nat.add_assoc, Nat.reduceAdd]
  exact hQ σ3 h3 ((f1.tr f2.T).tr f3)
end
