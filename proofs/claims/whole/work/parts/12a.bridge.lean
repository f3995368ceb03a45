/-- all but these four objects stays -/
def frS (s : Nat) (σ σ' : zG) : Prop := ∀ a, (a < s ∨ s + 4 ≤ a) → σ' a = σ a
def frB (b : Nat) (σ σ' : zG) : Prop := ∀ a, (a < b ∨ b + 7 ≤ a) → σ' a = σ a
section
variable {s o n : Nat} {σ : zG} {Q : Option Value → zG → Prop} {i : Nat} {x : Int32} {K F L : SF} {k f m : Int32}
theorem Stones_add (hW : WS σ s n K F L) (hn12 : n ≤ 12) (hQ : ∀ σ', WS σ' s (n + 1) (upd K n k) (upd F n f) (upd L n m) → frS s σ σ' → Q none σ') : Ev zshX 64 0 [some (.ref s), some (.int k), some (.int f), some (.int m)] [] σ Q := by
  obtain ⟨⟨h7, ha, hb, hc⟩, hN, hn, hA⟩ := hW
  simp (disch := first | assumption | omega | decide | exact zin_d (by assumption) (by omega) (by omega) | (simp only [zb01]; done)) only [s_Stones_add_0, s_Stones_add_1, s_Stones_add_4, s_Stones_add_7, s_Stones_add_8, s_Stones_add_11, s_Stones_add_13, s_Stones_add_16, s_Stones_add_17, s_Stones_add_18, s_Stones_add_21, s_Stones_add_22, s_Stones_add_25, s_Stones_add_26, s_Stones_add_27, s_Stones_add_28, s_Stones_add_31, s_Stones_add_32, s_Stones_add_35, s_Stones_add_36, s_Stones_add_37, s_Stones_add_38, s_Stones_add_41, s_Stones_add_42, s_Stones_add_45, s_Stones_add_46, s_Stones_add_47, s_Stones_add_48, s_Stones_add_49, s_Stones_add_52, s_Stones_add_53, s_Stones_add_54, s_Stones_add_57, zlt, zle, zeq, zclamp, zinc, zdec, zdi, zdr, zdl, zdn, zpi, zpn, if_true, if_false, ite_not, Bool.false_eq_true, ne_eq, not_true_eq_false, not_false_eq_true, true_and, and_true, Nat.add_assoc, Nat.reduceAdd, zup_ne, zup_self, pk_us, pk_un, zlL_0, zlR_0, zeL_0, zeR_0, zqL_0, zcl_0, zlL_13, zlR_13, zeL_13, zeR_13, zqL_13, zcl_13, hn, zift, ziff]
  refine hQ _ ⟨⟨h7, ha, hb, hc⟩, by omega, ?_, fun i hi => ?_⟩ (fun a h => ?_)
  · simp (disch := first | assumption | omega | decide | exact zin_d (by assumption) (by omega) (by omega) | (simp only [zb01]; done)) only [zup_ne, zup_self, pk_us, pk_un]
  · by_cases e : i = n
    · subst e
      simp (disch := first | assumption | omega | decide | exact zin_d (by assumption) (by omega) (by omega) | (simp only [zb01]; done)) only [zup_ne, zup_self, pk_us, pk_un, true_and]
    · simp (disch := first | assumption | omega | decide | exact zin_d (by assumption) (by omega) (by omega) | (simp only [zb01]; done)) only [zup_ne, zup_self, pk_us, pk_un]
      exact hA i (by omega)
  · simp (disch := first | assumption | omega | decide | exact zin_d (by assumption) (by omega) (by omega) | (simp only [zb01]; done)) only [zup_ne, zup_self, pk_us, pk_un]
theorem Stones_add_full (hW : WS σ s n K F L) (hn13 : n = 13) : Ev zshX 64 0 [some (.ref s), some (.int k), some (.int f), some (.int m)] [] σ Q = Q none σ := by
  subst hn13
  obtain ⟨⟨h7, ha, hb, hc⟩, hN, hn, hA⟩ := hW
  simp (disch := first | assumption | omega | decide | exact zin_d (by assumption) (by omega) (by omega) | (simp only [zb01]; done)) only [s_Stones_add_0, s_Stones_add_1, s_Stones_add_4, s_Stones_add_7, s_Stones_add_8, s_Stones_add_11, s_Stones_add_13, s_Stones_add_16, s_Stones_add_17, s_Stones_add_18, s_Stones_add_21, s_Stones_add_22, s_Stones_add_25, s_Stones_add_26, s_Stones_add_27, s_Stones_add_28, s_Stones_add_31, s_Stones_add_32, s_Stones_add_35, s_Stones_add_36, s_Stones_add_37, s_Stones_add_38, s_Stones_add_41, s_Stones_add_42, s_Stones_add_45, s_Stones_add_46, s_Stones_add_47, s_Stones_add_48, s_Stones_add_49, s_Stones_add_52, s_Stones_add_53, s_Stones_add_54, s_Stones_add_57, zlt, zle, zeq, zclamp, zinc, zdec, zdi, zdr, zdl, zdn, zpi, zpn, if_true, if_false, ite_not, Bool.false_eq_true, ne_eq, not_true_eq_false, not_false_eq_true, true_and, and_true, Nat.add_assoc, Nat.reduceAdd, zup_ne, zup_self, pk_us, pk_un, zlL_0, zlR_0, zeL_0, zeR_0, zqL_0, zcl_0, zlL_13, zlR_13, zeL_13, zeR_13, zqL_13, zcl_13, hn, zift, ziff]
theorem Stones_remake (hW : WS σ s n K F L) (hi : i < n) (hQ : ∀ σ', WS σ' s n (upd K i k) (upd F i f) L → frS s σ σ' → Q none σ') : Ev zshX 65 0 [some (.ref s), some (.int (nI i)), some (.int k), some (.int f)] [] σ Q := by
  obtain ⟨⟨h7, ha, hb, hc⟩, hN, hn, hA⟩ := hW
  simp (disch := first | assumption | omega | decide | exact zin_d (by assumption) (by omega) (by omega) | (simp only [zb01]; done)) only [s_Stones_remake_0, s_Stones_remake_1, s_Stones_remake_2, s_Stones_remake_5, s_Stones_remake_8, s_Stones_remake_9, s_Stones_remake_12, s_Stones_remake_13, s_Stones_remake_14, s_Stones_remake_15, s_Stones_remake_16, s_Stones_remake_19, s_Stones_remake_20, s_Stones_remake_21, s_Stones_remake_22, zlt, zle, zeq, zclamp, zinc, zdec, zdi, zdr, zdl, zdn, zpi, zpn, if_true, if_false, ite_not, Bool.false_eq_true, ne_eq, not_true_eq_false, not_false_eq_true, true_and, and_true, Nat.add_assoc, Nat.reduceAdd, zup_ne, zup_self, pk_us, pk_un, zlL_0, zlR_0, zeL_0, zeR_0, zqL_0, zcl_0, zlL_1, zlR_1, zeL_1, zeR_1, zqL_1, zcl_1, Stones_has_in h7 hn hN, zift, ziff]
  refine hQ _ ⟨⟨h7, ha, hb, hc⟩, by omega, ?_, fun j hj => ?_⟩ (fun a h => ?_)
  · simp (disch := first | assumption | omega | decide | exact zin_d (by assumption) (by omega) (by omega) | (simp only [zb01]; done)) only [zup_ne, zup_self, pk_us, pk_un, hn]
  · by_cases e : j = i
    · subst e
      simp (disch := first | assumption | omega | decide | exact zin_d (by assumption) (by omega) (by omega) | (simp only [zb01]; done)) only [zup_ne, zup_self, pk_us, pk_un, true_and]
      exact (hA j hj).2.2
    · simp (disch := first | assumption | omega | decide | exact zin_d (by assumption) (by omega) (by omega) | (simp only [zb01]; done)) only [zup_ne, zup_self, pk_us, pk_un]
      exact hA j hj
  · simp (disch := first | assumption | omega | decide | exact zin_d (by assumption) (by omega) (by omega) | (simp only [zb01]; done)) only [zup_ne, zup_self, pk_us, pk_un]
theorem Stones_creditTo (hW : WS σ s n K F L) (hi : i < n) (hQ : ∀ σ', WS σ' s n K F (upd L i m) → frS s σ σ' → Q none σ') : Ev zshX 66 0 [some (.ref s), some (.int (nI i)), some (.int m)] [] σ Q := by
  obtain ⟨⟨h7, ha, hb, hc⟩, hN, hn, hA⟩ := hW
  simp (disch := first | assumption | omega | decide | exact zin_d (by assumption) (by omega) (by omega) | (simp only [zb01]; done)) only [s_Stones_creditTo_0, s_Stones_creditTo_1, s_Stones_creditTo_2, s_Stones_creditTo_5, s_Stones_creditTo_8, s_Stones_creditTo_9, s_Stones_creditTo_12, s_Stones_creditTo_13, s_Stones_creditTo_14, s_Stones_creditTo_15, zlt, zle, zeq, zclamp, zinc, zdec, zdi, zdr, zdl, zdn, zpi, zpn, if_true, if_false, ite_not, Bool.false_eq_true, ne_eq, not_true_eq_false, not_false_eq_true, true_and, and_true, Nat.add_assoc, Nat.reduceAdd, zup_ne, zup_self, pk_us, pk_un, zlL_0, zlR_0, zeL_0, zeR_0, zqL_0, zcl_0, zlL_1, zlR_1, zeL_1, zeR_1, zqL_1, zcl_1, Stones_has_in h7 hn hN, zift, ziff]
  refine hQ _ ⟨⟨h7, ha, hb, hc⟩, by omega, ?_, fun j hj => ?_⟩ (fun a h => ?_)
  · simp (disch := first | assumption | omega | decide | exact zin_d (by assumption) (by omega) (by omega) | (simp only [zb01]; done)) only [zup_ne, zup_self, pk_us, pk_un, hn]
  · by_cases e : j = i
    · subst e
      simp (disch := first | assumption | omega | decide | exact zin_d (by assumption) (by omega) (by omega) | (simp only [zb01]; done)) only [zup_ne, zup_self, pk_us, pk_un, and_true]
      exact ⟨(hA j hj).1, (hA j hj).2.1⟩
    · simp (disch := first | assumption | omega | decide | exact zin_d (by assumption) (by omega) (by omega) | (simp only [zb01]; done)) only [zup_ne, zup_self, pk_us, pk_un]
      exact hA j hj
  · simp (disch := first | assumption | omega | decide | exact zin_d (by assumption) (by omega) (by omega) | (simp only [zb01]; done)) only [zup_ne, zup_self, pk_us, pk_un]
theorem Stones_takeAway (hW : WS σ s n K F L) (hi : i ≤ n) (hQ : ∀ σ', WS σ' s (n - i) K F L → frS s σ σ' → Q none σ') : Ev zshX 67 0 [some (.ref s), some (.int (nI i))] [] σ Q := by
  obtain ⟨⟨h7, ha, hb, hc⟩, hN, hn, hA⟩ := hW
  have e : (if nI (n - i) < (0 : Int32) then (0 : Int32) else nI (n - i)) = nI (n - i) := if_neg (nI_pos (by omega))
  simp (disch := first | assumption | omega | decide | exact zin_d (by assumption) (by omega) (by omega) | (simp only [zb01]; done)) only [s_Stones_takeAway_0, s_Stones_takeAway_1, s_Stones_takeAway_2, s_Stones_takeAway_5, s_Stones_takeAway_6, s_Stones_takeAway_7, s_Stones_takeAway_8, s_Stones_takeAway_11, s_Stones_takeAway_14, zlt, zle, zeq, zclamp, zinc, zdec, zdi, zdr, zdl, zdn, zpi, zpn, if_true, if_false, ite_not, Bool.false_eq_true, ne_eq, not_true_eq_false, not_false_eq_true, true_and, and_true, Nat.add_assoc, Nat.reduceAdd, zup_ne, zup_self, pk_us, pk_un, hn, pk_sub hi, e]
  refine hQ _ ⟨⟨h7, ha, hb, hc⟩, by omega, ?_, fun j hj => ?_⟩ (fun a h => ?_)
  · simp (disch := first | assumption | omega | decide | exact zin_d (by assumption) (by omega) (by omega) | (simp only [zb01]; done)) only [zup_ne, zup_self, pk_us, pk_un]
  · simp (disch := first | assumption | omega | decide | exact zin_d (by assumption) (by omega) (by omega) | (simp only [zb01]; done)) only [zup_ne, zup_self, pk_us, pk_un]
    exact hA j (by omega)
  · simp (disch := first | assumption | omega | decide | exact zin_d (by assumption) (by omega) (by omega) | (simp only [zb01]; done)) only [zup_ne, zup_self, pk_us, pk_un]
theorem Stones_remakeLast (hW : WS σ s n K F L) (h0 : 0 < n) (hQ : ∀ σ', WS σ' s n (upd K (n - 1) k) (upd F (n - 1) f) (upd L (n - 1) m) → frS s σ σ' → Q none σ') : Ev zshX 69 0 [some (.ref s), some (.int k), some (.int f), some (.int m), none] [] σ Q := by
  obtain ⟨⟨h7, ha, hb, hc⟩, hN, hn, hA⟩ := hW
  simp (disch := first | assumption | omega | decide | exact zin_d (by assumption) (by omega) (by omega) | (simp only [zb01]; done)) only [s_Stones_remakeLast_0, s_Stones_remakeLast_1, s_Stones_remakeLast_4, s_Stones_remakeLast_5, s_Stones_remakeLast_6, s_Stones_remakeLast_8, s_Stones_remakeLast_10, s_Stones_remakeLast_13, s_Stones_remakeLast_15, s_Stones_remakeLast_17, s_Stones_remakeLast_20, s_Stones_remakeLast_21, s_Stones_remakeLast_24, s_Stones_remakeLast_26, s_Stones_remakeLast_27, s_Stones_remakeLast_28, s_Stones_remakeLast_29, s_Stones_remakeLast_32, s_Stones_remakeLast_34, s_Stones_remakeLast_35, s_Stones_remakeLast_36, s_Stones_remakeLast_37, s_Stones_remakeLast_40, s_Stones_remakeLast_42, s_Stones_remakeLast_43, s_Stones_remakeLast_44, zlt, zle, zeq, zclamp, zinc, zdec, zdi, zdr, zdl, zdn, zpi, zpn, if_true, if_false, ite_not, Bool.false_eq_true, ne_eq, not_true_eq_false, not_false_eq_true, true_and, and_true, Nat.add_assoc, Nat.reduceAdd, zup_ne, zup_self, pk_us, pk_un, zlL_0, zlR_0, zeL_0, zeR_0, zqL_0, zcl_0, zlL_13, zlR_13, zeL_13, zeR_13, zqL_13, zcl_13, hn, zift, ziff]
  refine hQ _ ⟨⟨h7, ha, hb, hc⟩, by omega, ?_, fun j hj => ?_⟩ (fun a h => ?_)
  · simp (disch := first | assumption | omega | decide | exact zin_d (by assumption) (by omega) (by omega) | (simp only [zb01]; done)) only [zup_ne, zup_self, pk_us, pk_un, hn]
  · by_cases e : j = n - 1
    · subst e
      simp (disch := first | assumption | omega | decide | exact zin_d (by assumption) (by omega) (by omega) | (simp only [zb01]; done)) only [zup_ne, zup_self, pk_us, pk_un, true_and]
    · simp (disch := first | assumption | omega | decide | exact zin_d (by assumption) (by omega) (by omega) | (simp only [zb01]; done)) only [zup_ne, zup_self, pk_us, pk_un]
      exact hA j hj
  · simp (disch := first | assumption | omega | decide | exact zin_d (by assumption) (by omega) (by omega) | (simp only [zb01]; done)) only [zup_ne, zup_self, pk_us, pk_un]
theorem Stones_become (hS : isS s) (hW : WS σ o n K F L) (hd : o + 4 ≤ s ∨ s + 4 ≤ o) (hQ : ∀ σ', WS σ' s n K F L → frS s σ σ' → Q none σ') : Ev zshX 63 0 [some (.ref s), some (.ref o), none] [] σ Q := by
  obtain ⟨g7, ga, gb, gc⟩ := hS
  obtain ⟨⟨h7, ha, hb, hc⟩, hN, hn, hA⟩ := hW
  simp (disch := first | assumption | omega | decide | exact zin_d (by assumption) (by omega) (by omega) | (simp only [zb01]; done)) only [s_Stones_become_0, s_Stones_become_1, s_Stones_become_3, s_Stones_become_4, s_Stones_become_7, s_Stones_become_10, s_Stones_become_11, s_Stones_become_13, s_Stones_become_16, s_Stones_become_17, s_Stones_become_20, s_Stones_become_21, s_Stones_become_22, s_Stones_become_25, s_Stones_become_26, s_Stones_become_27, s_Stones_become_28, s_Stones_become_29, s_Stones_become_32, s_Stones_become_33, s_Stones_become_34, s_Stones_become_37, s_Stones_become_38, s_Stones_become_39, s_Stones_become_40, s_Stones_become_41, s_Stones_become_44, s_Stones_become_45, s_Stones_become_46, s_Stones_become_49, s_Stones_become_50, s_Stones_become_51, s_Stones_become_52, s_Stones_become_55, s_Stones_become_58, s_Stones_become_59, s_Stones_become_60, s_Stones_become_63, s_Stones_become_66, zlt, zle, zeq, zclamp, zinc, zdec, zdi, zdr, zdl, zdn, zpi, zpn, if_true, if_false, ite_not, Bool.false_eq_true, ne_eq, not_true_eq_false, not_false_eq_true, true_and, and_true, Nat.add_assoc, Nat.reduceAdd]
  refine loopI (α := Unit) (N := n) (fun _ σ1 j => Ev zshX 63 2 [some (.ref s), some (.ref o), some (.int (nI j))] [] σ1 Q) (fun j σ1 => frS s σ σ1 ∧ ∀ i, i < j → σ1 (s + 1) i = K i ∧ σ1 (s + 2) i = F i ∧ σ1 (s + 3) i = L i) (fun _ j σ1 hj hp kk => ?_) (fun _ σ1 hp => ?_) 0 () σ (Nat.zero_le _) ⟨fun a h => rfl, fun i hi => by omega⟩
  · obtain ⟨hfr, hcp⟩ := hp
    have e0 : σ1 o 3 = nI n := by rw [hfr o (by omega)]; exact hn
    have e1 := hA j hj
    rw [← hfr (o + 1) (by omega), ← hfr (o + 2) (by omega), ← hfr (o + 3) (by omega)] at e1
    rw [s_Stones_become_2]
    simp (disch := first | assumption | omega | decide | exact zin_d (by assumption) (by omega) (by omega) | (simp only [zb01]; done)) only [s_Stones_become_0, s_Stones_become_1, s_Stones_become_3, s_Stones_become_4, s_Stones_become_7, s_Stones_become_10, s_Stones_become_11, s_Stones_become_13, s_Stones_become_16, s_Stones_become_17, s_Stones_become_20, s_Stones_become_21, s_Stones_become_22, s_Stones_become_25, s_Stones_become_26, s_Stones_become_27, s_Stones_become_28, s_Stones_become_29, s_Stones_become_32, s_Stones_become_33, s_Stones_become_34, s_Stones_become_37, s_Stones_become_38, s_Stones_become_39, s_Stones_become_40, s_Stones_become_41, s_Stones_become_44, s_Stones_become_45, s_Stones_become_46, s_Stones_become_49, s_Stones_become_50, s_Stones_become_51, s_Stones_become_52, s_Stones_become_55, s_Stones_become_58, s_Stones_become_59, s_Stones_become_60, s_Stones_become_63, s_Stones_become_66, zlt, zle, zeq, zclamp, zinc, zdec, zdi, zdr, zdl, zdn, zpi, zpn, if_true, if_false, ite_not, Bool.false_eq_true, ne_eq, not_true_eq_false, not_false_eq_true, true_and, and_true, Nat.add_assoc, Nat.reduceAdd, zup_ne, zup_self, pk_us, pk_un, zlL_13, zlR_13, zeL_13, zeR_13, zqL_13, zcl_13, e0, e1.1, e1.2.1, e1.2.2, ziff]
    refine kk () _ ⟨fun a h => ?_, fun i hi => ?_⟩
    · simp (disch := first | assumption | omega | decide | exact zin_d (by assumption) (by omega) (by omega) | (simp only [zb01]; done)) only [zup_ne, zup_self, pk_us, pk_un]
      exact hfr a h
    · by_cases e : i = j
      · subst e
        simp (disch := first | assumption | omega | decide | exact zin_d (by assumption) (by omega) (by omega) | (simp only [zb01]; done)) only [zup_ne, zup_self, pk_us, pk_un, true_and]
      · simp (disch := first | assumption | omega | decide | exact zin_d (by assumption) (by omega) (by omega) | (simp only [zb01]; done)) only [zup_ne, zup_self, pk_us, pk_un]
        exact hcp i (by omega)
  · obtain ⟨hfr, hcp⟩ := hp
    have e0 : σ1 o 3 = nI n := by rw [hfr o (by omega)]; exact hn
    rw [s_Stones_become_2]
    simp (disch := first | assumption | omega | decide | exact zin_d (by assumption) (by omega) (by omega) | (simp only [zb01]; done)) only [s_Stones_become_0, s_Stones_become_1, s_Stones_become_3, s_Stones_become_4, s_Stones_become_7, s_Stones_become_10, s_Stones_become_11, s_Stones_become_13, s_Stones_become_16, s_Stones_become_17, s_Stones_become_20, s_Stones_become_21, s_Stones_become_22, s_Stones_become_25, s_Stones_become_26, s_Stones_become_27, s_Stones_become_28, s_Stones_become_29, s_Stones_become_32, s_Stones_become_33, s_Stones_become_34, s_Stones_become_37, s_Stones_become_38, s_Stones_become_39, s_Stones_become_40, s_Stones_become_41, s_Stones_become_44, s_Stones_become_45, s_Stones_become_46, s_Stones_become_49, s_Stones_become_50, s_Stones_become_51, s_Stones_become_52, s_Stones_become_55, s_Stones_become_58, s_Stones_become_59, s_Stones_become_60, s_Stones_become_63, s_Stones_become_66, zlt, zle, zeq, zclamp, zinc, zdec, zdi, zdr, zdl, zdn, zpi, zpn, if_true, if_false, ite_not, Bool.false_eq_true, ne_eq, not_true_eq_false, not_false_eq_true, true_and, and_true, Nat.add_assoc, Nat.reduceAdd, zup_ne, zup_self, pk_us, pk_un, e0, zift]
    refine hQ _ ⟨⟨g7, ga, gb, gc⟩, hN, ?_, fun i hi => ?_⟩ (fun a h => ?_)
    · simp (disch := first | assumption | omega | decide | exact zin_d (by assumption) (by omega) (by omega) | (simp only [zb01]; done)) only [zup_ne, zup_self, pk_us, pk_un]
    · simp (disch := first | assumption | omega | decide | exact zin_d (by assumption) (by omega) (by omega) | (simp only [zb01]; done)) only [zup_ne, zup_self, pk_us, pk_un]
      exact hcp i hi
    · simp (disch := first | assumption | omega | decide | exact zin_d (by assumption) (by omega) (by omega) | (simp only [zb01]; done)) only [zup_ne, zup_self, pk_us, pk_un]
      exact hfr a h
end
