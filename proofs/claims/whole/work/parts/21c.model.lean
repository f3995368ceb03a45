section
variable {σ : zG} {Q : Option Value → zG → Prop} {a : At} {x y z m w n v o k f : Int32}
theorem M_takes (hR : WX σ a) (hQ : ∀ σ', WX σ' (c_takes a n).2 → Q (some (.int (c_takes a n).1)) σ') : Ev zshM 210 0 [some (.ref 0), some (.int n), none] [] σ Q := by
  have hK := hR.1.1.1
  have h12 := hR.1.2.1.1.1
  have hn := hK.2.1
  rw [c_takes] at hQ
  by_cases h1 : outs n 1 (nI a.1.1.1) = 0
  · rw [if_pos h1] at hQ
    obtain ⟨i, hi, rfl⟩ := in_le (by omega) (show 0 ≤ n ∧ n ≤ nI a.1.1.1 from ⟨Int32.le_trans (by decide : (0 : Int32) ≤ 1) (outs_in h1).1, (outs_in h1).2⟩)
    rw [zclamp (by omega)] at hQ
    have es : nI a.1.1.1 - nI i = nI (a.1.1.1 - i) := pk_sub hi
    simp (disch := first | assumption | omega | decide | exact zin_d (by assumption) (by omega) (by omega) | (simp only [zb01]; done)) only [s_M_takes_0, s_M_takes_1, s_M_takes_2, s_M_takes_3, s_M_takes_6, s_M_takes_9, s_M_takes_10, s_M_takes_11, s_M_takes_14, s_M_takes_15, s_M_takes_16, s_M_takes_19, s_M_takes_20, s_M_takes_21, s_M_takes_22, s_M_takes_25, s_M_takes_26, s_M_takes_27, s_M_takes_30, s_M_takes_31, s_M_takes_34, zlt, zle, zeq, zclamp, zinc, zdec, zdi, zdr, zdl, zdn, zpi, zpn, if_true, if_false, ite_not, Bool.false_eq_true, ne_eq, not_true_eq_false, not_false_eq_true, true_and, and_true, Nat.add_assoc, Nat.reduceAdd, zup_ne, zup_self, pk_us, pk_un, hn, M_bound, h1, es, zift, ziff]
    refine hQ _ (hR.setB ⟨⟨by show a.1.1.1 - i ≤ 13; omega, by rw [zup_self, pk_us], fun j hj => ?_⟩, ?_, ?_, ?_, ?_⟩ ⟨Sok_sub hR.1.2.1.1 i, hR.1.2.1.2⟩ hR.1.2.2 (frM.z0 (by omega)).T)
    · have hj' : j < a.1.1.1 - i := hj
      simp (disch := first | assumption | omega | decide | exact zin_d (by assumption) (by omega) (by omega) | (simp only [zb01]; done)) only [zup_ne, zup_self, pk_us, pk_un]
      exact hK.2.2 j (by omega)
    all_goals (simp (disch := first | assumption | omega | decide | exact zin_d (by assumption) (by omega) (by omega) | (simp only [zb01]; done)) only [zup_ne, zup_self, pk_us, pk_un])
    · exact hR.1.1.2.1
    · exact hR.1.1.2.2.1
    · exact hR.1.1.2.2.2.1
    · exact hR.1.1.2.2.2.2
  · rw [if_neg h1] at hQ
    simp (disch := first | assumption | omega | decide | exact zin_d (by assumption) (by omega) (by omega) | (simp only [zb01]; done)) only [s_M_takes_0, s_M_takes_1, s_M_takes_2, s_M_takes_3, s_M_takes_6, s_M_takes_9, s_M_takes_10, s_M_takes_11, s_M_takes_14, s_M_takes_15, s_M_takes_16, s_M_takes_19, s_M_takes_20, s_M_takes_21, s_M_takes_22, s_M_takes_25, s_M_takes_26, s_M_takes_27, s_M_takes_30, s_M_takes_31, s_M_takes_34, zlt, zle, zeq, zclamp, zinc, zdec, zdi, zdr, zdl, zdn, zpi, zpn, if_true, if_false, ite_not, Bool.false_eq_true, ne_eq, not_true_eq_false, not_false_eq_true, true_and, and_true, Nat.add_assoc, Nat.reduceAdd, hn, M_bound, zift, ziff]
    refine M_no hR (outs_ref h1) (fun σ' h => ?_)
    simp (disch := first | assumption | omega | decide | exact zin_d (by assumption) (by omega) (by omega) | (simp only [zb01]; done)) only [s_M_takes_0, s_M_takes_1, s_M_takes_2, s_M_takes_3, s_M_takes_6, s_M_takes_9, s_M_takes_10, s_M_takes_11, s_M_takes_14, s_M_takes_15, s_M_takes_16, s_M_takes_19, s_M_takes_20, s_M_takes_21, s_M_takes_22, s_M_takes_25, s_M_takes_26, s_M_takes_27, s_M_takes_30, s_M_takes_31, s_M_takes_34, zlt, zle, zeq, zclamp, zinc, zdec, zdi, zdr, zdl, zdn, zpi, zpn, if_true, if_false, ite_not, Bool.false_eq_true, ne_eq, not_true_eq_false, not_false_eq_true, true_and, and_true, Nat.add_assoc, Nat.reduceAdd]
    exact hQ σ' h
theorem M_on (hR : WX σ a) (hQ : ∀ σ', WX σ' (c_on a).2 → Q (some (.int (c_on a).1)) σ') : Ev zshM 187 0 [some (.ref 0)] [] σ Q := by
  have hi := hR.2.1
  rw [c_on] at hQ
  generalize ho : a.2.1 = o at *
  cases o with
  | none =>
    have e0 : σ 0 18 = 0 := hi
    simp (disch := first | assumption | omega | decide | exact zin_d (by assumption) (by omega) (by omega) | (simp only [zb01]; done)) only [s_M_on_0, s_M_on_1, s_M_on_4, s_M_on_7, s_M_on_8, s_M_on_10, s_M_on_13, s_M_on_14, s_M_on_15, s_M_on_16, s_M_on_17, s_M_on_20, s_M_on_21, s_M_on_24, zlt, zle, zeq, zclamp, zinc, zdec, zdi, zdr, zdl, zdn, zpi, zpn, if_true, if_false, ite_not, Bool.false_eq_true, ne_eq, not_true_eq_false, not_false_eq_true, true_and, and_true, Nat.add_assoc, Nat.reduceAdd, e0, zift, ziff]
    refine M_no hR ref3 (fun σ' h => ?_)
    simp (disch := first | assumption | omega | decide | exact zin_d (by assumption) (by omega) (by omega) | (simp only [zb01]; done)) only [s_M_on_0, s_M_on_1, s_M_on_4, s_M_on_7, s_M_on_8, s_M_on_10, s_M_on_13, s_M_on_14, s_M_on_15, s_M_on_16, s_M_on_17, s_M_on_20, s_M_on_21, s_M_on_24, zlt, zle, zeq, zclamp, zinc, zdec, zdi, zdr, zdl, zdn, zpi, zpn, if_true, if_false, ite_not, Bool.false_eq_true, ne_eq, not_true_eq_false, not_false_eq_true, true_and, and_true, Nat.add_assoc, Nat.reduceAdd]
    exact hQ σ' h
  | some b =>
    obtain ⟨e0, g1, g2, g3⟩ := hi
    simp (disch := first | assumption | omega | decide | exact zin_d (by assumption) (by omega) (by omega) | (simp only [zb01]; done)) only [s_M_on_0, s_M_on_1, s_M_on_4, s_M_on_7, s_M_on_8, s_M_on_10, s_M_on_13, s_M_on_14, s_M_on_15, s_M_on_16, s_M_on_17, s_M_on_20, s_M_on_21, s_M_on_24, zlt, zle, zeq, zclamp, zinc, zdec, zdi, zdr, zdl, zdn, zpi, zpn, if_true, if_false, ite_not, Bool.false_eq_true, ne_eq, not_true_eq_false, not_false_eq_true, true_and, and_true, Nat.add_assoc, Nat.reduceAdd, e0, zift, ziff]
    refine M_backs (w := 0) g1 (by omega) (fun σ1 h1 f1 f2 => ?_)
    simp (disch := first | assumption | omega | decide | exact zin_d (by assumption) (by omega) (by omega) | (simp only [zb01]; done)) only [s_M_on_0, s_M_on_1, s_M_on_4, s_M_on_7, s_M_on_8, s_M_on_10, s_M_on_13, s_M_on_14, s_M_on_15, s_M_on_16, s_M_on_17, s_M_on_20, s_M_on_21, s_M_on_24, zlt, zle, zeq, zclamp, zinc, zdec, zdi, zdr, zdl, zdn, zpi, zpn, if_true, if_false, ite_not, Bool.false_eq_true, ne_eq, not_true_eq_false, not_false_eq_true, true_and, and_true, Nat.add_assoc, Nat.reduceAdd, h1.2.2.2.2]
    exact hQ σ1 (hR.setB h1 g2 g3 ⟨fun a g => f1 a (by omega), fun k q1 q2 q3 => f2 k q1 q2 q3, fun j _ => by rw [f1 12 (by omega)]⟩)
theorem M_image (hR : WX σ a) (hQ : ∀ σ', WX σ' (c_image a).2 → Q (some (.int (c_image a).1)) σ') : Ev zshM 186 0 [some (.ref 0)] [] σ Q := by
  obtain ⟨⟨g1, g2, g3⟩, g4, ⟨⟨h5, h5b, h5c⟩, h6⟩, ⟨h7, h7b, h7c⟩, g8⟩ := hR
  have W1 : WMd (zup σ 0 18 1) a.1 := g1.keep (fun c _ _ => zup_ne (by omega)) (fun k _ _ => by rw [zup_self, pk_un (by omega)])
  simp (disch := first | assumption | omega | decide | exact zin_d (by assumption) (by omega) (by omega) | (simp only [zb01]; done)) only [s_M_image_0, s_M_image_1, s_M_image_2, s_M_image_5, s_M_image_6, s_M_image_7, s_M_image_8, s_M_image_11, s_M_image_12, s_M_image_15, zlt, zle, zeq, zclamp, zinc, zdec, zdi, zdr, zdl, zdn, zpi, zpn, if_true, if_false, ite_not, Bool.false_eq_true, ne_eq, not_true_eq_false, not_false_eq_true, true_and, and_true, Nat.add_assoc, Nat.reduceAdd]
  refine M_keeps (w := 0) W1 (by omega) (fun σ1 h1 f1 f2 f3 => ?_)
  have fa : ∀ b, b ≠ 0 → b ≠ 12 → σ1 b = σ b := fun b q1 q2 => (f1 b q1 q2).trans (zup_ne q1)
  have f0 : ∀ k, k ≠ 18 → k ≠ 19 → k ≠ 20 → σ1 0 k = σ 0 k := fun k q1 q2 q3 => (f2 k q2 q3).trans (by rw [zup_self, pk_un q1])
  have W2 : WMd σ1 a.1 := g1.keep (fun c _ _ => fa c (by omega) (by omega)) (fun k _ _ => f0 k (by omega) (by omega) (by omega))
  simp (disch := first | assumption | omega | decide | exact zin_d (by assumption) (by omega) (by omega) | (simp only [zb01]; done)) only [s_M_image_0, s_M_image_1, s_M_image_2, s_M_image_5, s_M_image_6, s_M_image_7, s_M_image_8, s_M_image_11, s_M_image_12, s_M_image_15, zlt, zle, zeq, zclamp, zinc, zdec, zdi, zdr, zdl, zdn, zpi, zpn, if_true, if_false, ite_not, Bool.false_eq_true, ne_eq, not_true_eq_false, not_false_eq_true, true_and, and_true, Nat.add_assoc, Nat.reduceAdd, W2.2.2.2.2]
  refine hQ σ1 ⟨⟨W2, g2, g3⟩, ⟨?_, h1, g2, g3⟩, ⟨⟨h5, ?_, fun i hi => ?_⟩, h6⟩, ⟨h7, ?_, fun i hi => ?_⟩, fun i hi => ?_⟩
  · rw [f2 18 (by omega) (by omega), zup_self, pk_us]
  · rw [f0 14 (by omega) (by omega) (by omega)]; exact h5b
  · rw [fa 8 (by omega) (by omega)]; exact h5c i hi
  · rw [f0 25 (by omega) (by omega) (by omega)]; exact h7b
  · rw [fa 14 (by omega) (by omega)]; exact h7c i hi
  · rw [fa 1 (by omega) (by omega)]; exact g8 i hi
end
