section
variable {σ : zG} {Q : Option Value → zG → Prop} {a : At} {x y z m w n v o k f : Int32}
theorem btw01 (h0 : ¬ w = 0) (h1 : ¬ w = 1) : ¬ btw w 0 1 = true := fun h => by
  obtain ⟨i, hi, rfl⟩ := btw_num (n := 1) (by omega) h
  rcases (show i = 0 ∨ i = 1 by omega) with rfl | rfl
  · exact h0 rfl
  · exact h1 rfl
theorem M_spare (hR : WX σ a) (hQ : ∀ σ', WX σ' (c_spare a w).2 → Q (some (.int (c_spare a w).1)) σ') : Ev zshM 216 0 [some (.ref 0), some (.int w)] [] σ Q := by
  have hK := hR.1.1.1
  have hF : Fok _ _ := hR.1.2.1.1.F
  rw [c_spare] at hQ
  by_cases w0 : w = 0
  · subst w0
    rw [if_pos rfl] at hQ
    have hb : btw 0 0 1 = true := rfl
    simp (disch := first | assumption | omega | decide | exact zin_d (by assumption) (by omega) (by omega) | (simp only [zb01]; done)) only [s_M_spare_0, s_M_spare_1, s_M_spare_2, s_M_spare_3, s_M_spare_6, s_M_spare_9, s_M_spare_10, s_M_spare_12, s_M_spare_15, s_M_spare_16, s_M_spare_17, s_M_spare_20, s_M_spare_21, s_M_spare_24, s_M_spare_27, s_M_spare_28, s_M_spare_31, zlt, zle, zeq, zclamp, zinc, zdec, zdi, zdr, zdl, zdn, zpi, zpn, if_true, if_false, ite_not, Bool.false_eq_true, ne_eq, not_true_eq_false, not_false_eq_true, true_and, and_true, Nat.add_assoc, Nat.reduceAdd, M_isIn, M_spareNow hK hF, zift, ziff]
    exact hQ σ hR
  rw [if_neg w0] at hQ
  by_cases w1 : w = 1
  · subst w1
    rw [if_pos rfl] at hQ
    have hb : btw 1 0 1 = true := rfl
    simp (disch := first | assumption | omega | decide | exact zin_d (by assumption) (by omega) (by omega) | (simp only [zb01]; done)) only [s_M_spare_0, s_M_spare_1, s_M_spare_2, s_M_spare_3, s_M_spare_6, s_M_spare_9, s_M_spare_10, s_M_spare_12, s_M_spare_15, s_M_spare_16, s_M_spare_17, s_M_spare_20, s_M_spare_21, s_M_spare_24, s_M_spare_27, s_M_spare_28, s_M_spare_31, zlt, zle, zeq, zclamp, zinc, zdec, zdi, zdr, zdl, zdn, zpi, zpn, if_true, if_false, ite_not, Bool.false_eq_true, ne_eq, not_true_eq_false, not_false_eq_true, true_and, and_true, Nat.add_assoc, Nat.reduceAdd, M_isIn, M_weakest hK hF, zift, ziff]
    exact hQ σ hR
  rw [if_neg w1] at hQ
  have hb := btw01 w0 w1
  simp (disch := first | assumption | omega | decide | exact zin_d (by assumption) (by omega) (by omega) | (simp only [zb01]; done)) only [s_M_spare_0, s_M_spare_1, s_M_spare_2, s_M_spare_3, s_M_spare_6, s_M_spare_9, s_M_spare_10, s_M_spare_12, s_M_spare_15, s_M_spare_16, s_M_spare_17, s_M_spare_20, s_M_spare_21, s_M_spare_24, s_M_spare_27, s_M_spare_28, s_M_spare_31, zlt, zle, zeq, zclamp, zinc, zdec, zdi, zdr, zdl, zdn, zpi, zpn, if_true, if_false, ite_not, Bool.false_eq_true, ne_eq, not_true_eq_false, not_false_eq_true, true_and, and_true, Nat.add_assoc, Nat.reduceAdd, M_isIn, zift, ziff]
  refine M_lower hR ref2 (fun σ' h => ?_)
  simp (disch := first | assumption | omega | decide | exact zin_d (by assumption) (by omega) (by omega) | (simp only [zb01]; done)) only [s_M_spare_0, s_M_spare_1, s_M_spare_2, s_M_spare_3, s_M_spare_6, s_M_spare_9, s_M_spare_10, s_M_spare_12, s_M_spare_15, s_M_spare_16, s_M_spare_17, s_M_spare_20, s_M_spare_21, s_M_spare_24, s_M_spare_27, s_M_spare_28, s_M_spare_31, zlt, zle, zeq, zclamp, zinc, zdec, zdi, zdr, zdl, zdn, zpi, zpn, if_true, if_false, ite_not, Bool.false_eq_true, ne_eq, not_true_eq_false, not_false_eq_true, true_and, and_true, Nat.add_assoc, Nat.reduceAdd]
  exact hQ σ' h
end
