def lnw (ln : Nat) (L : SF) (p : Nat) : Int32 := if p < ln then L p else -1
def WLm (σ : zG) (ln : Nat) (L : SF) : Prop := ln ≤ 96 ∧ σ 0 14 = nI ln ∧ ∀ i, i < ln → σ 8 i = L i
/-- a letter of that form lies there -/
def cj (ln : Nat) (L : SF) (q : Nat) (ch : Int32) : Prop := q < ln ∧ okF ch (lat ln L q) = true
/-- what a statement tells -/
def tlv (ln : Nat) (L : SF) (s : Nat) : Nat → Int32 := fun i => match frm (lat ln L s), i with
  | 0, 0 => kndv (lat ln L (s + 1))
  | 0, 1 => nI (dg ln L (s + 2))
  | 0, 2 => nI (dg ln L (s + 3))
  | 1, 0 => nI (dg ln L (s + 1))
  | 1, 1 => kndv (lat ln L (s + 2))
  | 1, 2 => nI (dg ln L (s + 3))
  | 2, 0 => nI (dg ln L (s + 1))
  | 2, 1 => kndv (lat ln L (s + 2))
  | 2, 2 => nI (dg ln L (s + 3))
  | 2, 3 => nI (dg ln L (s + 4))
  | 3, 0 => nI (dg ln L (s + 1))
  | 4, 0 => nI (10 * dg ln L (s + 1) + dg ln L (s + 2))
  | _, _ => 0
/-- while a statement is read: σ0 as it was, k statements before, at q, j numbers told -/
def RS (σ0 σ1 : zG) (T : Nat → Int32) (k s q j : Nat) (b : Int32) : Prop := (∀ c, c ≠ 0 → c ≠ 9 → c ≠ 10 → c ≠ 11 → σ1 c = σ0 c) ∧ (∀ i, i ≠ 15 → i ≠ 16 → σ1 0 i = σ0 0 i) ∧ σ1 0 15 = nI q ∧ σ1 0 16 = nI k ∧ (∀ i, i < j → σ1 11 (4 * k + i) = T i) ∧ (∀ i, i < 4 * k → σ1 11 i = σ0 11 i) ∧ (∀ i, i < k → σ1 9 i = σ0 9 i ∧ σ1 10 i = σ0 10 i) ∧ σ1 9 k = b ∧ σ1 10 k = nI s
theorem dig_c : ∀ v, v ≤ 255 → btw (nI v) 48 57 = okF 100 (nI v) := by decide +kernel
theorem knd_c : ∀ v, v ≤ 255 → (okF 107 (nI v) = true ↔ ¬ kndv (nI v) < 0) := by decide +kernel
section
variable {σ σ0 σ1 : zG} {Q : Option Value → zG → Prop} {x y z w b : Int32} {ln k s q j p n i : Nat} {L : SF} {T : Nat → Int32}
theorem lnw_in (h : q < ln) : lnw ln L q = L q := if_pos h
theorem lat_in (h : q < ln) : lat ln L q = L q := if_pos h
theorem lnw_no (h : ¬ q < ln) : lnw ln L q = -1 := if_neg h
theorem M_letterNow (hW : WLm σ ln L) (hat : σ 0 15 = nI q) (hq : q < 1000) : Ev zshM 171 0 [some (.ref 0)] [] σ Q = Q (some (.int (lnw ln L q))) σ := by
  obtain ⟨h96, hn, hA⟩ := hW
  have z8 : zshM 8 = 100 + 96 := rfl
  by_cases h : q < ln
  · have h' : ¬ ln ≤ q := by omega
    have hq96 : q < 96 := by omega
    have e := hA q h
    rw [lnw_in h]
    simp (disch := first | assumption | omega | decide | exact zin_d (by assumption) (by omega) (by omega) | (simp only [zb01]; done)) only [s_M_letterNow_0, s_M_letterNow_1, s_M_letterNow_4, s_M_letterNow_5, s_M_letterNow_8, s_M_letterNow_11, s_M_letterNow_12, s_M_letterNow_15, s_M_letterNow_16, s_M_letterNow_19, s_M_letterNow_20, s_M_letterNow_23, s_M_letterNow_24, zlt, zle, zeq, zclamp, zinc, zdec, zdi, zdr, zdl, zdn, zpi, zpn, if_true, if_false, ite_not, Bool.false_eq_true, ne_eq, not_true_eq_false, not_false_eq_true, true_and, and_true, Nat.add_assoc, Nat.reduceAdd, hn, hat, e, zift, ziff]
  · have h' : ln ≤ q := by omega
    rw [lnw_no h]
    simp (disch := first | assumption | omega | decide | exact zin_d (by assumption) (by omega) (by omega) | (simp only [zb01]; done)) only [s_M_letterNow_0, s_M_letterNow_1, s_M_letterNow_4, s_M_letterNow_5, s_M_letterNow_8, s_M_letterNow_11, s_M_letterNow_12, s_M_letterNow_15, s_M_letterNow_16, s_M_letterNow_19, s_M_letterNow_20, s_M_letterNow_23, s_M_letterNow_24, zlt, zle, zeq, zclamp, zinc, zdec, zdi, zdr, zdl, zdn, zpi, zpn, if_true, if_false, ite_not, Bool.false_eq_true, ne_eq, not_true_eq_false, not_false_eq_true, true_and, and_true, Nat.add_assoc, Nat.reduceAdd, hn, hat, zift, ziff]
theorem M_kindOf : Ev zshM 173 0 [some (.int x)] [] σ Q = Q (some (.int (kndv x))) σ := by
  simp (disch := first | assumption | omega | decide | exact zin_d (by assumption) (by omega) (by omega) | (simp only [zb01]; done)) only [s_M_kindOf_0, s_M_kindOf_1, s_M_kindOf_3, s_M_kindOf_6, s_M_kindOf_7, s_M_kindOf_10, s_M_kindOf_11, s_M_kindOf_13, s_M_kindOf_16, s_M_kindOf_17, s_M_kindOf_20, s_M_kindOf_21, s_M_kindOf_23, s_M_kindOf_26, s_M_kindOf_27, s_M_kindOf_30, s_M_kindOf_31, s_M_kindOf_33, s_M_kindOf_36, s_M_kindOf_37, s_M_kindOf_40, s_M_kindOf_41, s_M_kindOf_43, s_M_kindOf_46, s_M_kindOf_47, s_M_kindOf_50, s_M_kindOf_51, s_M_kindOf_53, s_M_kindOf_56, s_M_kindOf_57, s_M_kindOf_60, s_M_kindOf_61, zlt, zle, zeq, zclamp, zinc, zdec, zdi, zdr, zdl, zdn, zpi, zpn, if_true, if_false, ite_not, Bool.false_eq_true, ne_eq, not_true_eq_false, not_false_eq_true, true_and, and_true, Nat.add_assoc, Nat.reduceAdd, kndv, zQi (Q := Q)]
theorem dig_lnw (hL : Lok ln L) : (btw (lnw ln L q) 48 57 = true) = cj ln L q 100 := by
  rw [cj]
  by_cases h : q < ln
  · obtain ⟨v, hv, ev⟩ := hL q h
    rw [lnw_in h, lat_in h, ev, dig_c v hv]
    exact propext ⟨fun z => ⟨h, z⟩, fun z => z.2⟩
  · rw [lnw_no h]
    exact propext ⟨fun z => absurd z (by decide), fun z => absurd z.1 h⟩
theorem knd_lnw (hL : Lok ln L) : (¬ kndv (lnw ln L q) < 0) = cj ln L q 107 := by
  rw [cj]
  by_cases h : q < ln
  · obtain ⟨v, hv, ev⟩ := hL q h
    rw [lnw_in h, lat_in h, ev]
    exact propext ⟨fun z => ⟨h, (knd_c v hv).mpr z⟩, fun z => (knd_c v hv).mp z.2⟩
  · rw [lnw_no h]
    exact propext ⟨fun z => absurd (by decide) z, fun z => absurd z.1 h⟩
/-- one more letter read -/
theorem RS.at1 (h : RS σ0 σ1 T k s q j b) : RS σ0 (zup σ1 0 15 (nI (q + 1))) T k s (q + 1) j b := by
  obtain ⟨h1, h2, h3, h4, h5, h6, h7, h8, h9⟩ := h
  refine ⟨fun c g0 g1 g2 g3 => by rw [zup_ne g0]; exact h1 c g0 g1 g2 g3, fun i g1 g2 => by rw [zup_self, pk_un g1]; exact h2 i g1 g2, by rw [zup_self, pk_us], by rw [zup_self, pk_un (by omega)]; exact h4, fun i hi => by rw [zup_ne (by omega)]; exact h5 i hi, fun i hi => by rw [zup_ne (by omega)]; exact h6 i hi, fun i hi => by rw [zup_ne (by omega), zup_ne (by omega)]; exact h7 i hi, by rw [zup_ne (by omega)]; exact h8, by rw [zup_ne (by omega)]; exact h9⟩
/-- one more number told -/
theorem RS.tell (h : RS σ0 σ1 T k s q j b) : RS σ0 (zup σ1 11 (4 * k + j) x) T k s q j b := by
  obtain ⟨h1, h2, h3, h4, h5, h6, h7, h8, h9⟩ := h
  refine ⟨fun c g0 g1 g2 g3 => by rw [zup_ne g3]; exact h1 c g0 g1 g2 g3, fun i g1 g2 => by rw [zup_ne (by omega)]; exact h2 i g1 g2, by rw [zup_ne (by omega)]; exact h3, by rw [zup_ne (by omega)]; exact h4, fun i hi => by rw [zup_self, pk_un (by omega)]; exact h5 i hi, fun i hi => by rw [zup_self, pk_un (by omega)]; exact h6 i hi, fun i hi => by rw [zup_ne (by omega), zup_ne (by omega)]; exact h7 i hi, by rw [zup_ne (by omega)]; exact h8, by rw [zup_ne (by omega)]; exact h9⟩
theorem RS.more (h : RS σ0 σ1 T k s q j b) (hx : σ1 11 (4 * k + j) = T j) : RS σ0 σ1 T k s q (j + 1) b := by
  obtain ⟨h1, h2, h3, h4, h5, h6⟩ := h
  refine ⟨h1, h2, h3, h4, fun i hi => ?_, h6⟩
  by_cases e : i = j
  · subst e; exact hx
  · exact h5 i (by omega)
theorem RS.lt (h : RS σ0 σ1 T k s q j b) (hW : WLm σ0 ln L) : WLm σ1 ln L := ⟨hW.1, by rw [h.2.1 14 (by omega) (by omega)]; exact hW.2.1, fun i hi => by rw [h.1 8 (by omega) (by omega) (by omega) (by omega)]; exact hW.2.2 i hi⟩
theorem M_readsKind (hL : Lok ln L) (hW : WLm σ0 ln L) (hR : RS σ0 σ1 T k s q j b) (hq : q < 1000) (hp : p = 4 * k + j) (hp1 : p < 192) (hok : cj ln L q 107 → T j = kndv (lat ln L q)) (hQ1 : cj ln L q 107 → ∀ σ2, RS σ0 σ2 T k s (q + 1) (j + 1) b → Q (some (.int 1)) σ2) (hQ0 : ¬ cj ln L q 107 → ∀ σ2, RS σ0 σ2 T k s q j b → Q (some (.int 0)) σ2) : Ev zshM 174 0 [some (.ref 0), some (.int (nI p))] [] σ1 Q := by
  have hW1 := hR.lt hW
  have hat := hR.2.2.1
  have z11 : zshM 11 = 100 + 192 := rfl
  have hc := knd_lnw (q := q) hL
  subst hp
  have hat2 : zup σ1 11 (4 * k + j) (kndv (lnw ln L q)) 0 15 = nI q := by rw [zup_ne (by omega)]; exact hat
  by_cases h : cj ln L q 107
  · have hge : ¬ kndv (lnw ln L q) < 0 := hc ▸ h
    have hge' := Int32.not_lt.mp hge
    simp (disch := first | assumption | omega | decide | exact zin_d (by assumption) (by omega) (by omega) | (simp only [zb01]; done)) only [s_M_readsKind_0, s_M_readsKind_1, s_M_readsKind_4, s_M_readsKind_5, s_M_readsKind_6, s_M_readsKind_9, s_M_readsKind_12, s_M_readsKind_13, s_M_readsKind_14, s_M_readsKind_17, s_M_readsKind_18, s_M_readsKind_19, s_M_readsKind_22, s_M_readsKind_23, s_M_readsKind_24, s_M_readsKind_25, s_M_readsKind_26, s_M_readsKind_29, s_M_readsKind_30, s_M_readsKind_31, s_M_readsKind_34, s_M_readsKind_35, zlt, zle, zeq, zclamp, zinc, zdec, zdi, zdr, zdl, zdn, zpi, zpn, if_true, if_false, ite_not, Bool.false_eq_true, ne_eq, not_true_eq_false, not_false_eq_true, true_and, and_true, Nat.add_assoc, Nat.reduceAdd, zup_ne, zup_self, pk_us, pk_un, M_letterNow hW1 hat hq, M_kindOf, hat, zift, ziff]
    refine hQ1 h _ ?_
    have r1 := ((hR.tell (x := kndv (lnw ln L q))).more (by rw [zup_self, pk_us, hok h, lnw_in h.1, lat_in h.1])).at1
    exact r1
  · have hlt : kndv (lnw ln L q) < 0 := Decidable.not_not.mp (fun z => h (hc ▸ z))
    have hlt' := Int32.not_le.mpr hlt
    simp (disch := first | assumption | omega | decide | exact zin_d (by assumption) (by omega) (by omega) | (simp only [zb01]; done)) only [s_M_readsKind_0, s_M_readsKind_1, s_M_readsKind_4, s_M_readsKind_5, s_M_readsKind_6, s_M_readsKind_9, s_M_readsKind_12, s_M_readsKind_13, s_M_readsKind_14, s_M_readsKind_17, s_M_readsKind_18, s_M_readsKind_19, s_M_readsKind_22, s_M_readsKind_23, s_M_readsKind_24, s_M_readsKind_25, s_M_readsKind_26, s_M_readsKind_29, s_M_readsKind_30, s_M_readsKind_31, s_M_readsKind_34, s_M_readsKind_35, zlt, zle, zeq, zclamp, zinc, zdec, zdi, zdr, zdl, zdn, zpi, zpn, if_true, if_false, ite_not, Bool.false_eq_true, ne_eq, not_true_eq_false, not_false_eq_true, true_and, and_true, Nat.add_assoc, Nat.reduceAdd, zup_ne, zup_self, pk_us, pk_un, M_letterNow hW1 hat hq, M_kindOf, zift, ziff]
    exact hQ0 h _ hR.tell
theorem M_readsStep (hL : Lok ln L) (hW : WLm σ0 ln L) (hR : RS σ0 σ1 T k s q j b) (hq : q < 1000) (hi : i < n) (hn : n < 10) {v : Int32} : Ev zshM 172 5 [some (.ref 0), some (.int (nI p)), some (.int (nI n)), some (.int v), some (.int (nI i))] [] σ1 Q = ((cj ln L q 100 → Ev zshM 172 5 [some (.ref 0), some (.int (nI p)), some (.int (nI n)), some (.int (10 * v + lat ln L q - 48)), some (.int (nI (i + 1)))] [] (zup σ1 0 15 (nI (q + 1))) Q) ∧ (¬ cj ln L q 100 → Q (some (.int 0)) σ1)) := by
  have hW1 := hR.lt hW
  have hat := hR.2.2.1
  have hc := dig_lnw (q := q) hL
  rw [s_M_readsDigits_5]
  by_cases h : cj ln L q 100
  · have hb : btw (lnw ln L q) 48 57 = true := hc ▸ h
    have e : lnw ln L q = lat ln L q := by rw [lnw_in h.1, lat_in h.1]
    simp (disch := first | assumption | omega | decide | exact zin_d (by assumption) (by omega) (by omega) | (simp only [zb01]; done)) only [s_M_readsDigits_0, s_M_readsDigits_1, s_M_readsDigits_2, s_M_readsDigits_3, s_M_readsDigits_7, s_M_readsDigits_8, s_M_readsDigits_11, s_M_readsDigits_12, s_M_readsDigits_15, s_M_readsDigits_17, s_M_readsDigits_19, s_M_readsDigits_22, s_M_readsDigits_25, s_M_readsDigits_26, s_M_readsDigits_27, s_M_readsDigits_29, s_M_readsDigits_30, s_M_readsDigits_31, s_M_readsDigits_32, s_M_readsDigits_35, s_M_readsDigits_36, s_M_readsDigits_38, s_M_readsDigits_39, s_M_readsDigits_40, s_M_readsDigits_41, s_M_readsDigits_42, s_M_readsDigits_45, s_M_readsDigits_46, s_M_readsDigits_47, s_M_readsDigits_50, s_M_readsDigits_53, s_M_readsDigits_56, s_M_readsDigits_57, s_M_readsDigits_60, s_M_readsDigits_61, s_M_readsDigits_62, s_M_readsDigits_63, s_M_readsDigits_64, zlt, zle, zeq, zclamp, zinc, zdec, zdi, zdr, zdl, zdn, zpi, zpn, if_true, if_false, ite_not, Bool.false_eq_true, ne_eq, not_true_eq_false, not_false_eq_true, true_and, and_true, Nat.add_assoc, Nat.reduceAdd, M_letterNow hW1 hat hq, M_isIn, hat, zift, ziff]
    rw [e]
    exact propext ⟨fun g => ⟨fun _ => g, fun z => absurd h z⟩, fun g => g.1 h⟩
  · have hb : ¬ btw (lnw ln L q) 48 57 = true := by rw [hc]; exact h
    simp (disch := first | assumption | omega | decide | exact zin_d (by assumption) (by omega) (by omega) | (simp only [zb01]; done)) only [s_M_readsDigits_0, s_M_readsDigits_1, s_M_readsDigits_2, s_M_readsDigits_3, s_M_readsDigits_7, s_M_readsDigits_8, s_M_readsDigits_11, s_M_readsDigits_12, s_M_readsDigits_15, s_M_readsDigits_17, s_M_readsDigits_19, s_M_readsDigits_22, s_M_readsDigits_25, s_M_readsDigits_26, s_M_readsDigits_27, s_M_readsDigits_29, s_M_readsDigits_30, s_M_readsDigits_31, s_M_readsDigits_32, s_M_readsDigits_35, s_M_readsDigits_36, s_M_readsDigits_38, s_M_readsDigits_39, s_M_readsDigits_40, s_M_readsDigits_41, s_M_readsDigits_42, s_M_readsDigits_45, s_M_readsDigits_46, s_M_readsDigits_47, s_M_readsDigits_50, s_M_readsDigits_53, s_M_readsDigits_56, s_M_readsDigits_57, s_M_readsDigits_60, s_M_readsDigits_61, s_M_readsDigits_62, s_M_readsDigits_63, s_M_readsDigits_64, zlt, zle, zeq, zclamp, zinc, zdec, zdi, zdr, zdl, zdn, zpi, zpn, if_true, if_false, ite_not, Bool.false_eq_true, ne_eq, not_true_eq_false, not_false_eq_true, true_and, and_true, Nat.add_assoc, Nat.reduceAdd, M_letterNow hW1 hat hq, M_isIn, zift, ziff]
    exact propext ⟨fun g => ⟨fun z => absurd z h, fun _ => g⟩, fun g => g.2 h⟩
theorem M_readsEnd (hp1 : p < 192) (hn : n < 10) {v : Int32} : Ev zshM 172 5 [some (.ref 0), some (.int (nI p)), some (.int (nI n)), some (.int v), some (.int (nI n))] [] σ1 Q = Q (some (.int 1)) (zup σ1 11 p v) := by
  have z11 : zshM 11 = 100 + 192 := rfl
  rw [s_M_readsDigits_5]
  simp (disch := first | assumption | omega | decide | exact zin_d (by assumption) (by omega) (by omega) | (simp only [zb01]; done)) only [s_M_readsDigits_0, s_M_readsDigits_1, s_M_readsDigits_2, s_M_readsDigits_3, s_M_readsDigits_7, s_M_readsDigits_8, s_M_readsDigits_11, s_M_readsDigits_12, s_M_readsDigits_15, s_M_readsDigits_17, s_M_readsDigits_19, s_M_readsDigits_22, s_M_readsDigits_25, s_M_readsDigits_26, s_M_readsDigits_27, s_M_readsDigits_29, s_M_readsDigits_30, s_M_readsDigits_31, s_M_readsDigits_32, s_M_readsDigits_35, s_M_readsDigits_36, s_M_readsDigits_38, s_M_readsDigits_39, s_M_readsDigits_40, s_M_readsDigits_41, s_M_readsDigits_42, s_M_readsDigits_45, s_M_readsDigits_46, s_M_readsDigits_47, s_M_readsDigits_50, s_M_readsDigits_53, s_M_readsDigits_56, s_M_readsDigits_57, s_M_readsDigits_60, s_M_readsDigits_61, s_M_readsDigits_62, s_M_readsDigits_63, s_M_readsDigits_64, zlt, zle, zeq, zclamp, zinc, zdec, zdi, zdr, zdl, zdn, zpi, zpn, if_true, if_false, ite_not, Bool.false_eq_true, ne_eq, not_true_eq_false, not_false_eq_true, true_and, and_true, Nat.add_assoc, Nat.reduceAdd, zift]
theorem dig_1 : ∀ d, d ≤ 9 → ∀ c, c ≤ 255 → nI c - 48 = nI d → (10 : Int32) * 0 + nI c - 48 = nI d := by
  intro d _ c _ h
  rw [Int32.mul_zero, Int32.zero_add, h]
theorem M_readsDigit (hL : Lok ln L) (hW : WLm σ0 ln L) (hR : RS σ0 σ1 T k s q j b) (hq : q < 1000) (hp : p = 4 * k + j) (hp1 : p < 192) (hok : cj ln L q 100 → T j = nI (dg ln L q)) (hQ1 : cj ln L q 100 → ∀ σ2, RS σ0 σ2 T k s (q + 1) (j + 1) b → Q (some (.int 1)) σ2) (hQ0 : ¬ cj ln L q 100 → ∀ σ2, RS σ0 σ2 T k s q j b → Q (some (.int 0)) σ2) : Ev zshM 172 0 [some (.ref 0), some (.int (nI p)), some (.int 1), none, none] [] σ1 Q := by
  subst hp
  simp (disch := first | assumption | omega | decide | exact zin_d (by assumption) (by omega) (by omega) | (simp only [zb01]; done)) only [s_M_readsDigits_0, s_M_readsDigits_1, s_M_readsDigits_2, s_M_readsDigits_3, s_M_readsDigits_7, s_M_readsDigits_8, s_M_readsDigits_11, s_M_readsDigits_12, s_M_readsDigits_15, s_M_readsDigits_17, s_M_readsDigits_19, s_M_readsDigits_22, s_M_readsDigits_25, s_M_readsDigits_26, s_M_readsDigits_27, s_M_readsDigits_29, s_M_readsDigits_30, s_M_readsDigits_31, s_M_readsDigits_32, s_M_readsDigits_35, s_M_readsDigits_36, s_M_readsDigits_38, s_M_readsDigits_39, s_M_readsDigits_40, s_M_readsDigits_41, s_M_readsDigits_42, s_M_readsDigits_45, s_M_readsDigits_46, s_M_readsDigits_47, s_M_readsDigits_50, s_M_readsDigits_53, s_M_readsDigits_56, s_M_readsDigits_57, s_M_readsDigits_60, s_M_readsDigits_61, s_M_readsDigits_62, s_M_readsDigits_63, s_M_readsDigits_64, zlt, zle, zeq, zclamp, zinc, zdec, zdi, zdr, zdl, zdn, zpi, zpn, if_true, if_false, ite_not, Bool.false_eq_true, ne_eq, not_true_eq_false, not_false_eq_true, true_and, and_true, Nat.add_assoc, Nat.reduceAdd]
  show Ev zshM 172 5 [some (.ref 0), some (.int (nI (4 * k + j))), some (.int (nI 1)), some (.int 0), some (.int (nI 0))] [] σ1 Q
  rw [M_readsStep hL hW hR hq (by omega) (by omega)]
  refine ⟨fun h => ?_, fun h => hQ0 h σ1 hR⟩
  obtain ⟨d1, d2⟩ := dg_ok hL h.2
  have e : (10 : Int32) * 0 + lat ln L q - 48 = nI (dg ln L q) := by rw [Int32.mul_zero, Int32.zero_add, d2]
  rw [e, M_readsEnd hp1 (by omega)]
  refine hQ1 h _ ?_
  exact (hR.at1.tell (x := nI (dg ln L q))).more (by rw [zup_self, pk_us, hok h])
theorem M_readsTwo (hL : Lok ln L) (hW : WLm σ0 ln L) (hR : RS σ0 σ1 T k s q j b) (hq : q < 900) (hp : p = 4 * k + j) (hp1 : p < 192) (hok : T j = nI (10 * dg ln L q + dg ln L (q + 1))) (hQ1 : cj ln L q 100 → cj ln L (q + 1) 100 → ∀ σ2, RS σ0 σ2 T k s (q + 2) (j + 1) b → Q (some (.int 1)) σ2) (hQ0 : ¬ cj ln L q 100 → ∀ σ2, RS σ0 σ2 T k s q j b → Q (some (.int 0)) σ2) (hQ2 : cj ln L q 100 → ¬ cj ln L (q + 1) 100 → ∀ σ2, RS σ0 σ2 T k s (q + 1) j b → Q (some (.int 0)) σ2) : Ev zshM 172 0 [some (.ref 0), some (.int (nI p)), some (.int 2), none, none] [] σ1 Q := by
  subst hp
  simp (disch := first | assumption | omega | decide | exact zin_d (by assumption) (by omega) (by omega) | (simp only [zb01]; done)) only [s_M_readsDigits_0, s_M_readsDigits_1, s_M_readsDigits_2, s_M_readsDigits_3, s_M_readsDigits_7, s_M_readsDigits_8, s_M_readsDigits_11, s_M_readsDigits_12, s_M_readsDigits_15, s_M_readsDigits_17, s_M_readsDigits_19, s_M_readsDigits_22, s_M_readsDigits_25, s_M_readsDigits_26, s_M_readsDigits_27, s_M_readsDigits_29, s_M_readsDigits_30, s_M_readsDigits_31, s_M_readsDigits_32, s_M_readsDigits_35, s_M_readsDigits_36, s_M_readsDigits_38, s_M_readsDigits_39, s_M_readsDigits_40, s_M_readsDigits_41, s_M_readsDigits_42, s_M_readsDigits_45, s_M_readsDigits_46, s_M_readsDigits_47, s_M_readsDigits_50, s_M_readsDigits_53, s_M_readsDigits_56, s_M_readsDigits_57, s_M_readsDigits_60, s_M_readsDigits_61, s_M_readsDigits_62, s_M_readsDigits_63, s_M_readsDigits_64, zlt, zle, zeq, zclamp, zinc, zdec, zdi, zdr, zdl, zdn, zpi, zpn, if_true, if_false, ite_not, Bool.false_eq_true, ne_eq, not_true_eq_false, not_false_eq_true, true_and, and_true, Nat.add_assoc, Nat.reduceAdd]
  show Ev zshM 172 5 [some (.ref 0), some (.int (nI (4 * k + j))), some (.int (nI 2)), some (.int 0), some (.int (nI 0))] [] σ1 Q
  rw [M_readsStep hL hW hR (by omega) (by omega) (by omega)]
  refine ⟨fun h => ?_, fun h => hQ0 h σ1 hR⟩
  obtain ⟨d1, d2⟩ := dg_ok hL h.2
  have e : (10 : Int32) * 0 + lat ln L q - 48 = nI (dg ln L q) := by rw [Int32.mul_zero, Int32.zero_add, d2]
  rw [e, M_readsStep hL hW hR.at1 (by omega) (by omega) (by omega)]
  refine ⟨fun h2 => ?_, fun h2 => hQ2 h h2 _ hR.at1⟩
  obtain ⟨d3, d4⟩ := dg_ok hL h2.2
  have e2 : (10 : Int32) * nI (dg ln L q) + lat ln L (q + 1) - 48 = nI (10 * dg ln L q + dg ln L (q + 1)) := by
    rw [Int32.sub_eq_add_neg, Int32.add_assoc, ← Int32.sub_eq_add_neg, d4, show (10 : Int32) = nI 10 from rfl, pk_mul, nI_add]
  rw [e2, M_readsEnd hp1 (by omega)]
  refine hQ1 h h2 _ ?_
  exact (hR.at1.at1.tell (x := nI (10 * dg ln L q + dg ln L (q + 1)))).more (by rw [zup_self, pk_us, hok])
end
