def imgM (σ : zG) : Option Bt → Prop
  | none => σ 0 18 = 0
  | some b => σ 0 18 = 1 ∧ KP σ 0 b ∧ Bok b ∧ num 999 b.2.2.2.2
/-- the reference's heap and the state -/
def WX (σ : zG) (a : At) : Prop := (WMd σ a.1 ∧ Bok a.1 ∧ num 999 a.1.2.2.2.2) ∧ imgM σ a.2.1 ∧ ((a.2.2.1.1 ≤ 96 ∧ σ 0 14 = nI a.2.2.1.1 ∧ ∀ i, i < a.2.2.1.1 → σ 8 i = a.2.2.1.2 i) ∧ Lok a.2.2.1.1 a.2.2.1.2) ∧ (a.2.2.2.1.1 ≤ 16 ∧ σ 0 25 = nI a.2.2.2.1.1 ∧ ∀ i, i < a.2.2.2.1.1 → σ 14 i = a.2.2.2.1.2 i) ∧ ∀ i, i < 7 → σ 1 i = a.2.2.2.2 i
theorem imgM.keep {σ σ' : zG} {o : Option Bt} (h : imgM σ o) (h0 : σ' 0 18 = σ 0 18) (hk : ∀ j, j < 48 → σ' 12 j = σ 12 j) : imgM σ' o := by
  cases o with
  | none => rw [imgM] at h ⊢; rw [h0]; exact h
  | some b =>
    rw [imgM] at h ⊢
    obtain ⟨g1, ⟨g2, g3, g4, g5, g6, g7, g8⟩, g9⟩ := h
    refine ⟨by rw [h0]; exact g1, ⟨g2, fun i hi => ?_, ?_, ?_, ?_, ?_, ?_⟩, g9⟩
    · rw [hk _ (by omega), hk _ (by omega), hk _ (by omega)]; exact g3 i hi
    · rw [hk _ (by omega), hk _ (by omega), hk _ (by omega)]; exact g4
    · rw [hk _ (by omega), hk _ (by omega), hk _ (by omega)]; exact g5
    · rw [hk _ (by omega)]; exact g6
    · rw [hk _ (by omega)]; exact g7
    · rw [hk _ (by omega)]; exact g8
/-- another bridge now -/
theorem WX.setB {σ σ' : zG} {a : At} (h : WX σ a) {β : Bt} (hB : WMd σ' β) (hk : Bok β) (hd : num 999 β.2.2.2.2) (f : frT σ σ') : WX σ' (setB a β) := by
  obtain ⟨-, h4, ⟨⟨h5, h5b, h5c⟩, h6⟩, ⟨h7, h7b, h7c⟩, h8⟩ := h
  obtain ⟨f1, f2, f3⟩ := f
  exact ⟨⟨hB, hk, hd⟩, h4.keep (f2 18 (by omega) (by omega) (by omega)) (fun j hj => f3 j (by omega)), ⟨⟨h5, by rw [f2 14 (by omega) (by omega) (by omega)]; exact h5b, fun i hi => by rw [f1 8 (by omega)]; exact h5c i hi⟩, h6⟩, ⟨h7, by rw [f2 25 (by omega) (by omega) (by omega)]; exact h7b, fun i hi => by rw [f1 14 (by omega)]; exact h7c i hi⟩, fun i hi => by rw [f1 1 (by omega)]; exact h8 i hi⟩
theorem WX.T {σ σ' : zG} {a : At} (h : WX σ a) (hB : WMd σ' a.1) (f : frT σ σ') : WX σ' a := h.setB hB h.1.2.1 h.1.2.2 f
section
variable {σ : zG} {Q : Option Value → zG → Prop} {a : At} {x y z m w n v o : Int32}
theorem WX_ref {k : Nat} (hR : WX σ a) (hk7 : k < 7) : WX (zup σ 1 k (σ 1 k + 1)) (refA k a) := by
  obtain ⟨⟨g1, g2, g3⟩, g4, ⟨⟨h5, h5b, h5c⟩, h6⟩, ⟨h7, h7b, h7c⟩, g8⟩ := hR
  have f0 : zup σ 1 k (σ 1 k + 1) 0 = σ 0 := zup_ne (by omega)
  refine ⟨⟨g1.keep (fun c q1 q2 => zup_ne (by omega)) (fun k _ _ => by rw [f0]), g2, g3⟩, g4.keep (by rw [f0]) (fun j _ => by rw [zup_ne (by omega)]), ⟨⟨h5, by rw [f0]; exact h5b, fun i hi => by rw [zup_ne (by omega)]; exact h5c i hi⟩, h6⟩, ⟨h7, by rw [f0]; exact h7b, fun i hi => by rw [zup_ne (by omega)]; exact h7c i hi⟩, fun i hi => ?_⟩
  rw [zup_self, g8 k hk7]
  by_cases e2 : i = k
  · subst e2; rw [pk_us]; exact (pk_us).symm
  · rw [pk_un e2]; exact (g8 i hi).trans (pk_un e2).symm
theorem M_no (hR : WX σ a) (ho : isRef o) (hQ : ∀ σ', WX σ' (refA (-o).toNatClampNeg a) → Q (some (.int o)) σ') : Ev zshM 160 0 [some (.ref 0), some (.int o)] [] σ Q := by
  obtain ⟨k, h1, h6, e⟩ := ho
  have hz : zshM 1 = 100 + 7 := rfl
  have hk7 : k < 7 := by omega
  rw [e, zclamp (by omega)] at hQ
  simp (disch := first | assumption | omega | decide | exact zin_d (by assumption) (by omega) (by omega) | (simp only [zb01]; done)) only [s_M_no_0, s_M_no_1, s_M_no_4, s_M_no_5, s_M_no_6, s_M_no_7, s_M_no_8, s_M_no_9, s_M_no_10, s_M_no_11, s_M_no_12, zlt, zle, zeq, zclamp, zinc, zdec, zdi, zdr, zdl, zdn, zpi, zpn, if_true, if_false, ite_not, Bool.false_eq_true, ne_eq, not_true_eq_false, not_false_eq_true, true_and, and_true, Nat.add_assoc, Nat.reduceAdd, e]
  exact hQ _ (WX_ref hR hk7)
theorem M_lower (hR : WX σ a) (ho : isRef o) (hQ : ∀ σ', WX σ' (refF o a).2 → Q (some (.int (refF o a).1)) σ') : Ev zshM 161 0 [some (.ref 0), some (.int o)] [] σ Q := by
  obtain ⟨k, h1, h6, e⟩ := ho
  have hz : zshM 1 = 100 + 7 := rfl
  have hk7 : k < 7 := by omega
  rw [refF, e, zclamp (by omega)] at hQ
  simp (disch := first | assumption | omega | decide | exact zin_d (by assumption) (by omega) (by omega) | (simp only [zb01]; done)) only [s_M_lower_0, s_M_lower_1, s_M_lower_4, s_M_lower_5, s_M_lower_6, s_M_lower_7, s_M_lower_8, s_M_lower_9, s_M_lower_10, s_M_lower_11, s_M_lower_13, s_M_lower_14, s_M_lower_15, zlt, zle, zeq, zclamp, zinc, zdec, zdi, zdr, zdl, zdn, zpi, zpn, if_true, if_false, ite_not, Bool.false_eq_true, ne_eq, not_true_eq_false, not_false_eq_true, true_and, and_true, Nat.add_assoc, Nat.reduceAdd, e]
  exact hQ _ (WX_ref hR hk7)
theorem M_lowestOf (hR : WX σ a) (ho : isRef o) (hQ : ∀ σ', WX σ' (refL o a).2 → Q (some (.long (refL o a).1)) σ') : Ev zshM 162 0 [some (.ref 0), some (.int o)] [] σ Q := by
  obtain ⟨k, h1, h6, e⟩ := ho
  have hz : zshM 1 = 100 + 7 := rfl
  have hk7 : k < 7 := by omega
  rw [refL, e, zclamp (by omega)] at hQ
  simp (disch := first | assumption | omega | decide | exact zin_d (by assumption) (by omega) (by omega) | (simp only [zb01]; done)) only [s_M_lowestOf_0, s_M_lowestOf_1, s_M_lowestOf_4, s_M_lowestOf_5, s_M_lowestOf_6, s_M_lowestOf_7, s_M_lowestOf_8, s_M_lowestOf_9, s_M_lowestOf_10, s_M_lowestOf_11, s_M_lowestOf_14, s_M_lowestOf_15, s_M_lowestOf_16, s_M_lowestOf_17, zlt, zle, zeq, zclamp, zinc, zdec, zdi, zdr, zdl, zdn, zpi, zpn, if_true, if_false, ite_not, Bool.false_eq_true, ne_eq, not_true_eq_false, not_false_eq_true, true_and, and_true, Nat.add_assoc, Nat.reduceAdd, e]
  exact hQ _ (WX_ref hR hk7)
end
