def btw (v a b : Int32) : Bool := decide (a ≤ v) && decide (v ≤ b)
theorem btw_eq {v a b : Int32} : (btw v a b = true) = (a ≤ v ∧ v ≤ b) := by rw [btw, Bool.and_eq_true, decide_eq_true_eq, decide_eq_true_eq]
section
variable {σ : zG} {Q : Option Value → zG → Prop} {x : Int32}
theorem X_between {a b : Int32} : Ev zshX 150 0 [some (.int x), some (.int a), some (.int b)] [] σ Q = Q (some (.int (if btw x a b = true then 1 else 0))) σ := by
  by_cases h1 : x < a
  · have h : ¬ btw x a b = true := by rw [btw_eq]; exact fun h => absurd h1 (Int32.not_lt.mpr h.1)
    simp (disch := first | assumption | omega | decide | exact zin_d (by assumption) (by omega) (by omega) | (simp only [zb01]; done)) only [s_X_between_0, s_X_between_1, s_X_between_2, s_X_between_5, s_X_between_6, s_X_between_7, s_X_between_10, s_X_between_11, s_X_between_14, s_X_between_15, zlt, zle, zeq, zclamp, zinc, zdec, zdi, zdr, zdl, zdn, zpi, zpn, if_true, if_false, ite_not, Bool.false_eq_true, ne_eq, not_true_eq_false, not_false_eq_true, true_and, and_true, Nat.add_assoc, Nat.reduceAdd, ziff, zift]
  · by_cases h2 : b < x
    · have h : ¬ btw x a b = true := by rw [btw_eq]; exact fun h => absurd h2 (Int32.not_lt.mpr h.2)
      simp (disch := first | assumption | omega | decide | exact zin_d (by assumption) (by omega) (by omega) | (simp only [zb01]; done)) only [s_X_between_0, s_X_between_1, s_X_between_2, s_X_between_5, s_X_between_6, s_X_between_7, s_X_between_10, s_X_between_11, s_X_between_14, s_X_between_15, zlt, zle, zeq, zclamp, zinc, zdec, zdi, zdr, zdl, zdn, zpi, zpn, if_true, if_false, ite_not, Bool.false_eq_true, ne_eq, not_true_eq_false, not_false_eq_true, true_and, and_true, Nat.add_assoc, Nat.reduceAdd, ziff, zift]
    · have h : btw x a b = true := by rw [btw_eq]; exact ⟨Int32.not_lt.mp h1, Int32.not_lt.mp h2⟩
      simp (disch := first | assumption | omega | decide | exact zin_d (by assumption) (by omega) (by omega) | (simp only [zb01]; done)) only [s_X_between_0, s_X_between_1, s_X_between_2, s_X_between_5, s_X_between_6, s_X_between_7, s_X_between_10, s_X_between_11, s_X_between_14, s_X_between_15, zlt, zle, zeq, zclamp, zinc, zdec, zdi, zdr, zdl, zdn, zpi, zpn, if_true, if_false, ite_not, Bool.false_eq_true, ne_eq, not_true_eq_false, not_false_eq_true, true_and, and_true, Nat.add_assoc, Nat.reduceAdd, ziff, zift]
end
