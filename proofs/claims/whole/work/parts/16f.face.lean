def setT (a : At) (rn : Nat) (rf : SF) : At := (a.1, a.2.1, a.2.2.1, (rn, rf), a.2.2.2.2)
def setI (a : At) (o : Option Bt) : At := (a.1, o, a.2.2)
def c_row (a : At) (v : Int32) : Int32 × At := if outs v 0 99 = 0 then (if a.2.2.2.1.1 = 16 then refO (-6) a else (nI (a.2.2.2.1.1 + 1), setT a (a.2.2.2.1.1 + 1) (upd a.2.2.2.1.2 a.2.2.2.1.1 v))) else refO (outs v 0 99) a
def c_judge (a : At) : Int32 × At := (jdg a.1.1.1 a.1.1.2.1 a.1.1.2.2.1 a.2.2.2.1.1 a.2.2.2.1.2, setT a 0 a.2.2.2.1.2)
def c_clear (a : At) : Int32 × At := (nI a.2.2.2.1.1, setT a 0 a.2.2.2.1.2)
def c_image (a : At) : Int32 × At := (a.1.2.2.2.2, setI a (some a.1))
def c_on (a : At) : Int32 × At := match a.2.1 with
  | none => refO (-3) a
  | some b => (b.2.2.2.2, setB a b)
def c_whoLaid (a : At) (x : Int32) : Int32 × At := if 0 ≤ x ∧ x < nI a.1.1.1 then (fitS (fun v => tellB a.1.1.1 a.1.1.2.1 a.1.1.2.2.1 (upd a.1.1.2.2.2 x.toNatClampNeg (nI v)) a.2.2.2.1.1 a.2.2.2.1.2) 2, a) else refO (-1) a
def c_whatIs (a : At) (x w : Int32) : Int32 × At := if 0 ≤ x ∧ x < nI a.1.1.1 then (if w = 0 then (fitS (fun v => tellB a.1.1.1 (upd a.1.1.2.1 x.toNatClampNeg (nI v)) a.1.1.2.2.1 a.1.1.2.2.2 a.2.2.2.1.1 a.2.2.2.1.2) 6, a) else if w = 1 then (fitS (fun v => tellB a.1.1.1 a.1.1.2.1 (upd a.1.1.2.2.1 x.toNatClampNeg (nI v)) a.1.1.2.2.2 a.2.2.2.1.1 a.2.2.2.1.2) 10, a) else refO (-2) a) else refO (-1) a
def c_count (a : At) (w : Int32) : Int32 × At := if w = 0 then (nI a.1.1.1, a) else if w = 1 then (a.1.2.2.2.1, a) else if w = 2 then (a.1.2.2.2.2, a) else if w = 3 then (fsum a.1.1.2.2.1 a.1.1.1, a) else if w = 4 then (laidB a.1.1.2.2.2 1 a.1.1.1, a) else if w = 5 then (lackB a.1.1.1 a.1.1.2.1 a.1.1.2.2.1 a.1.1.2.2.2 (a.1.1.1 - 1), a) else if w = 6 then (nI a.2.2.2.1.1, a) else if w = 7 then (nI a.2.2.1.1, a) else if btw w 11 16 = true then (a.2.2.2.2 (w - 10).toNatClampNeg, a) else (-9, a)
theorem RX_setT {σ σ' : zG} {a : At} {rn : Nat} {rf : SF} (h : RX σ a) (hW : WR σ' rn rf) (f : ∀ c, c ≠ 24 → c ≠ 25 → σ' c = σ c) : RX σ' (setT a rn rf) := by
  obtain ⟨⟨h1, h2, h3⟩, h4, ⟨h5, h6⟩, h7, h8⟩ := h
  exact ⟨⟨h1.keep (fun c g1 g2 => f c (by omega) (by omega)), h2, h3⟩, h4.keep (fun c g => f c (by omega) (by omega)), ⟨h5.keep (f 22 (by omega) (by omega)) (f 23 (by omega) (by omega)), h6⟩, hW, fun i hi => by rw [f 41 (by omega) (by omega)]; exact h8 i hi⟩
section
variable {σ : zG} {Q : Option Value → zG → Prop} {a : At} {x y z m w n v : Int32}
theorem X_row (hR : RX σ a) (hQ : ∀ σ', RX σ' (c_row a v).2 → Q (some (.int (c_row a v).1)) σ') : Ev zshX 138 0 [some (.ref 0), some (.int v), none] [] σ Q := by
  have hT := hR.2.2.2.1
  have h16 := hT.1
  rw [c_row] at hQ
  by_cases h1 : outs v 0 99 = 0
  · rw [if_pos h1] at hQ
    by_cases h2 : a.2.2.2.1.1 = 16
    · rw [if_pos h2] at hQ
      simp (disch := first | assumption | omega | decide | exact zin_d (by assumption) (by omega) (by omega) | (simp only [zb01]; done)) only [s_X_row_0, s_X_row_1, s_X_row_2, s_X_row_4, s_X_row_7, s_X_row_8, s_X_row_9, s_X_row_12, s_X_row_13, s_X_row_14, s_X_row_17, s_X_row_18, s_X_row_19, s_X_row_22, s_X_row_25, s_X_row_28, s_X_row_29, s_X_row_31, s_X_row_34, s_X_row_35, s_X_row_36, s_X_row_39, s_X_row_40, s_X_row_43, s_X_row_44, s_X_row_47, s_X_row_50, zlt, zle, zeq, zclamp, zinc, zdec, zdi, zdr, zdl, zdn, zpi, zpn, if_true, if_false, ite_not, Bool.false_eq_true, ne_eq, not_true_eq_false, not_false_eq_true, true_and, and_true, Nat.add_assoc, Nat.reduceAdd, X_outside, h1, Row_isFull hT, zift, ziff]
      refine X_refuse hR ref6 (fun σ' h => ?_)
      simp (disch := first | assumption | omega | decide | exact zin_d (by assumption) (by omega) (by omega) | (simp only [zb01]; done)) only [s_X_row_0, s_X_row_1, s_X_row_2, s_X_row_4, s_X_row_7, s_X_row_8, s_X_row_9, s_X_row_12, s_X_row_13, s_X_row_14, s_X_row_17, s_X_row_18, s_X_row_19, s_X_row_22, s_X_row_25, s_X_row_28, s_X_row_29, s_X_row_31, s_X_row_34, s_X_row_35, s_X_row_36, s_X_row_39, s_X_row_40, s_X_row_43, s_X_row_44, s_X_row_47, s_X_row_50, zlt, zle, zeq, zclamp, zinc, zdec, zdi, zdr, zdl, zdn, zpi, zpn, if_true, if_false, ite_not, Bool.false_eq_true, ne_eq, not_true_eq_false, not_false_eq_true, true_and, and_true, Nat.add_assoc, Nat.reduceAdd]
      exact hQ σ' h
    · rw [if_neg h2] at hQ
      simp (disch := first | assumption | omega | decide | exact zin_d (by assumption) (by omega) (by omega) | (simp only [zb01]; done)) only [s_X_row_0, s_X_row_1, s_X_row_2, s_X_row_4, s_X_row_7, s_X_row_8, s_X_row_9, s_X_row_12, s_X_row_13, s_X_row_14, s_X_row_17, s_X_row_18, s_X_row_19, s_X_row_22, s_X_row_25, s_X_row_28, s_X_row_29, s_X_row_31, s_X_row_34, s_X_row_35, s_X_row_36, s_X_row_39, s_X_row_40, s_X_row_43, s_X_row_44, s_X_row_47, s_X_row_50, zlt, zle, zeq, zclamp, zinc, zdec, zdi, zdr, zdl, zdn, zpi, zpn, if_true, if_false, ite_not, Bool.false_eq_true, ne_eq, not_true_eq_false, not_false_eq_true, true_and, and_true, Nat.add_assoc, Nat.reduceAdd, X_outside, h1, Row_isFull hT, zift, ziff]
      refine Row_add hT (by omega) (fun σ1 g1 f1 => ?_)
      simp (disch := first | assumption | omega | decide | exact zin_d (by assumption) (by omega) (by omega) | (simp only [zb01]; done)) only [s_X_row_0, s_X_row_1, s_X_row_2, s_X_row_4, s_X_row_7, s_X_row_8, s_X_row_9, s_X_row_12, s_X_row_13, s_X_row_14, s_X_row_17, s_X_row_18, s_X_row_19, s_X_row_22, s_X_row_25, s_X_row_28, s_X_row_29, s_X_row_31, s_X_row_34, s_X_row_35, s_X_row_36, s_X_row_39, s_X_row_40, s_X_row_43, s_X_row_44, s_X_row_47, s_X_row_50, zlt, zle, zeq, zclamp, zinc, zdec, zdi, zdr, zdl, zdn, zpi, zpn, if_true, if_false, ite_not, Bool.false_eq_true, ne_eq, not_true_eq_false, not_false_eq_true, true_and, and_true, Nat.add_assoc, Nat.reduceAdd, Row_number, g1.2.1]
      exact hQ σ1 (RX_setT hR g1 f1)
  · rw [if_neg h1] at hQ
    simp (disch := first | assumption | omega | decide | exact zin_d (by assumption) (by omega) (by omega) | (simp only [zb01]; done)) only [s_X_row_0, s_X_row_1, s_X_row_2, s_X_row_4, s_X_row_7, s_X_row_8, s_X_row_9, s_X_row_12, s_X_row_13, s_X_row_14, s_X_row_17, s_X_row_18, s_X_row_19, s_X_row_22, s_X_row_25, s_X_row_28, s_X_row_29, s_X_row_31, s_X_row_34, s_X_row_35, s_X_row_36, s_X_row_39, s_X_row_40, s_X_row_43, s_X_row_44, s_X_row_47, s_X_row_50, zlt, zle, zeq, zclamp, zinc, zdec, zdi, zdr, zdl, zdn, zpi, zpn, if_true, if_false, ite_not, Bool.false_eq_true, ne_eq, not_true_eq_false, not_false_eq_true, true_and, and_true, Nat.add_assoc, Nat.reduceAdd, X_outside, zift, ziff]
    refine X_refuse hR (outs_ref h1) (fun σ' h => ?_)
    simp (disch := first | assumption | omega | decide | exact zin_d (by assumption) (by omega) (by omega) | (simp only [zb01]; done)) only [s_X_row_0, s_X_row_1, s_X_row_2, s_X_row_4, s_X_row_7, s_X_row_8, s_X_row_9, s_X_row_12, s_X_row_13, s_X_row_14, s_X_row_17, s_X_row_18, s_X_row_19, s_X_row_22, s_X_row_25, s_X_row_28, s_X_row_29, s_X_row_31, s_X_row_34, s_X_row_35, s_X_row_36, s_X_row_39, s_X_row_40, s_X_row_43, s_X_row_44, s_X_row_47, s_X_row_50, zlt, zle, zeq, zclamp, zinc, zdec, zdi, zdr, zdl, zdn, zpi, zpn, if_true, if_false, ite_not, Bool.false_eq_true, ne_eq, not_true_eq_false, not_false_eq_true, true_and, and_true, Nat.add_assoc, Nat.reduceAdd]
    exact hQ σ' h
theorem X_judge (hR : RX σ a) (hQ : ∀ σ', RX σ' (c_judge a).2 → Q (some (.int (c_judge a).1)) σ') : Ev zshX 139 0 [some (.ref 0), none] [] σ Q := by
  have hT := hR.2.2.2.1
  have hS : WS σ 2 _ _ _ _ := hR.1.1.2.1
  simp (disch := first | assumption | omega | decide | exact zin_d (by assumption) (by omega) (by omega) | (simp only [zb01]; done)) only [s_X_judge_0, s_X_judge_1, s_X_judge_4, s_X_judge_5, s_X_judge_8, s_X_judge_11, s_X_judge_14, s_X_judge_15, s_X_judge_16, s_X_judge_19, s_X_judge_22, s_X_judge_23, zlt, zle, zeq, zclamp, zinc, zdec, zdi, zdr, zdl, zdn, zpi, zpn, if_true, if_false, ite_not, Bool.false_eq_true, ne_eq, not_true_eq_false, not_false_eq_true, true_and, and_true, Nat.add_assoc, Nat.reduceAdd, Row_firstFalseLean hS hT]
  refine Row_forget (rf := a.2.2.2.1.2) (fun σ1 g1 f1 => ?_)
  simp (disch := first | assumption | omega | decide | exact zin_d (by assumption) (by omega) (by omega) | (simp only [zb01]; done)) only [s_X_judge_0, s_X_judge_1, s_X_judge_4, s_X_judge_5, s_X_judge_8, s_X_judge_11, s_X_judge_14, s_X_judge_15, s_X_judge_16, s_X_judge_19, s_X_judge_22, s_X_judge_23, zlt, zle, zeq, zclamp, zinc, zdec, zdi, zdr, zdl, zdn, zpi, zpn, if_true, if_false, ite_not, Bool.false_eq_true, ne_eq, not_true_eq_false, not_false_eq_true, true_and, and_true, Nat.add_assoc, Nat.reduceAdd]
  exact hQ σ1 (RX_setT hR g1 (fun c g _ => f1 c g))
theorem X_clear (hR : RX σ a) (hQ : ∀ σ', RX σ' (c_clear a).2 → Q (some (.int (c_clear a).1)) σ') : Ev zshX 140 0 [some (.ref 0), none] [] σ Q := by
  have hT := hR.2.2.2.1
  simp (disch := first | assumption | omega | decide | exact zin_d (by assumption) (by omega) (by omega) | (simp only [zb01]; done)) only [s_X_clear_0, s_X_clear_1, s_X_clear_4, s_X_clear_7, s_X_clear_8, s_X_clear_9, s_X_clear_12, s_X_clear_15, s_X_clear_16, zlt, zle, zeq, zclamp, zinc, zdec, zdi, zdr, zdl, zdn, zpi, zpn, if_true, if_false, ite_not, Bool.false_eq_true, ne_eq, not_true_eq_false, not_false_eq_true, true_and, and_true, Nat.add_assoc, Nat.reduceAdd, Row_number, hT.2.1]
  refine Row_forget (rf := a.2.2.2.1.2) (fun σ1 g1 f1 => ?_)
  simp (disch := first | assumption | omega | decide | exact zin_d (by assumption) (by omega) (by omega) | (simp only [zb01]; done)) only [s_X_clear_0, s_X_clear_1, s_X_clear_4, s_X_clear_7, s_X_clear_8, s_X_clear_9, s_X_clear_12, s_X_clear_15, s_X_clear_16, zlt, zle, zeq, zclamp, zinc, zdec, zdi, zdr, zdl, zdn, zpi, zpn, if_true, if_false, ite_not, Bool.false_eq_true, ne_eq, not_true_eq_false, not_false_eq_true, true_and, and_true, Nat.add_assoc, Nat.reduceAdd]
  exact hQ σ1 (RX_setT hR g1 (fun c g _ => f1 c g))
theorem isB8 : isB 8 := ⟨rfl, ⟨rfl, rfl, rfl, rfl⟩, rfl, rfl⟩
theorem X_image (hR : RX σ a) (hQ : ∀ σ', RX σ' (c_image a).2 → Q (some (.int (c_image a).1)) σ') : Ev zshX 142 0 [some (.ref 0)] [] σ Q := by
  simp (disch := first | assumption | omega | decide | exact zin_d (by assumption) (by omega) (by omega) | (simp only [zb01]; done)) only [s_X_image_0, s_X_image_1, s_X_image_4, s_X_image_5, s_X_image_8, s_X_image_11, s_X_image_12, s_X_image_13, s_X_image_16, s_X_image_17, s_X_image_20, s_X_image_23, zlt, zle, zeq, zclamp, zinc, zdec, zdi, zdr, zdl, zdn, zpi, zpn, if_true, if_false, ite_not, Bool.false_eq_true, ne_eq, not_true_eq_false, not_false_eq_true, true_and, and_true, Nat.add_assoc, Nat.reduceAdd]
  refine Bridge_become (b := 8) (o := 1) isB8 hR.1.1 (by omega) (fun σ1 g1 f1 => ?_)
  have e4 : σ1 1 4 = a.1.2.2.2.2 := by rw [f1 1 (by omega)]; exact hR.1.1.2.2.2.2.2
  simp (disch := first | assumption | omega | decide | exact zin_d (by assumption) (by omega) (by omega) | (simp only [zb01]; done)) only [s_X_image_0, s_X_image_1, s_X_image_4, s_X_image_5, s_X_image_8, s_X_image_11, s_X_image_12, s_X_image_13, s_X_image_16, s_X_image_17, s_X_image_20, s_X_image_23, zlt, zle, zeq, zclamp, zinc, zdec, zdi, zdr, zdl, zdn, zpi, zpn, if_true, if_false, ite_not, Bool.false_eq_true, ne_eq, not_true_eq_false, not_false_eq_true, true_and, and_true, Nat.add_assoc, Nat.reduceAdd, zup_ne, zup_self, pk_us, pk_un, e4]
  refine hQ _ ?_
  have hf : ∀ c, (c < 8 ∨ 15 ≤ c) → c ≠ 0 → zup σ1 0 2 1 c = σ c := fun c g g0 => (zup_ne g0).trans (f1 c (by omega))
  obtain ⟨⟨h1, h2, h3⟩, h4, ⟨h5, h6⟩, h7, h8⟩ := hR
  refine ⟨⟨h1.keep (fun c g1 g2 => hf c (by omega) (by omega)), h2, h3⟩, ⟨by rw [zup_self, pk_us], g1.keep (fun c g1 g2 => zup_ne (by omega)), h2, h3⟩, ⟨h5.keep (hf 22 (by omega) (by omega)) (hf 23 (by omega) (by omega)), h6⟩, h7.keep (hf 24 (by omega) (by omega)) (hf 25 (by omega) (by omega)), fun i hi => by rw [hf 41 (by omega) (by omega)]; exact h8 i hi⟩
theorem X_on (hR : RX σ a) (hQ : ∀ σ', RX σ' (c_on a).2 → Q (some (.int (c_on a).1)) σ') : Ev zshX 143 0 [some (.ref 0)] [] σ Q := by
  have hi := hR.2.1
  rw [c_on] at hQ
  generalize ho : a.2.1 = o at *
  cases o with
  | none =>
    have e0 : σ 0 2 = 0 := hi
    simp (disch := first | assumption | omega | decide | exact zin_d (by assumption) (by omega) (by omega) | (simp only [zb01]; done)) only [s_X_on_0, s_X_on_1, s_X_on_4, s_X_on_7, s_X_on_8, s_X_on_10, s_X_on_13, s_X_on_14, s_X_on_15, s_X_on_18, s_X_on_19, s_X_on_22, s_X_on_25, s_X_on_26, s_X_on_29, s_X_on_32, zlt, zle, zeq, zclamp, zinc, zdec, zdi, zdr, zdl, zdn, zpi, zpn, if_true, if_false, ite_not, Bool.false_eq_true, ne_eq, not_true_eq_false, not_false_eq_true, true_and, and_true, Nat.add_assoc, Nat.reduceAdd, e0, zift, ziff]
    refine X_refuse hR ref3 (fun σ' h => ?_)
    simp (disch := first | assumption | omega | decide | exact zin_d (by assumption) (by omega) (by omega) | (simp only [zb01]; done)) only [s_X_on_0, s_X_on_1, s_X_on_4, s_X_on_7, s_X_on_8, s_X_on_10, s_X_on_13, s_X_on_14, s_X_on_15, s_X_on_18, s_X_on_19, s_X_on_22, s_X_on_25, s_X_on_26, s_X_on_29, s_X_on_32, zlt, zle, zeq, zclamp, zinc, zdec, zdi, zdr, zdl, zdn, zpi, zpn, if_true, if_false, ite_not, Bool.false_eq_true, ne_eq, not_true_eq_false, not_false_eq_true, true_and, and_true, Nat.add_assoc, Nat.reduceAdd]
    exact hQ σ' h
  | some b =>
    obtain ⟨e0, g1, g2, g3⟩ := hi
    simp (disch := first | assumption | omega | decide | exact zin_d (by assumption) (by omega) (by omega) | (simp only [zb01]; done)) only [s_X_on_0, s_X_on_1, s_X_on_4, s_X_on_7, s_X_on_8, s_X_on_10, s_X_on_13, s_X_on_14, s_X_on_15, s_X_on_18, s_X_on_19, s_X_on_22, s_X_on_25, s_X_on_26, s_X_on_29, s_X_on_32, zlt, zle, zeq, zclamp, zinc, zdec, zdi, zdr, zdl, zdn, zpi, zpn, if_true, if_false, ite_not, Bool.false_eq_true, ne_eq, not_true_eq_false, not_false_eq_true, true_and, and_true, Nat.add_assoc, Nat.reduceAdd, e0, zift, ziff]
    refine Bridge_become (b := 1) (o := 8) hR.1.1.is g1 (by omega) (fun σ1 h1 f1 => ?_)
    have e4 : σ1 1 4 = b.2.2.2.2 := h1.2.2.2.2.2
    simp (disch := first | assumption | omega | decide | exact zin_d (by assumption) (by omega) (by omega) | (simp only [zb01]; done)) only [s_X_on_0, s_X_on_1, s_X_on_4, s_X_on_7, s_X_on_8, s_X_on_10, s_X_on_13, s_X_on_14, s_X_on_15, s_X_on_18, s_X_on_19, s_X_on_22, s_X_on_25, s_X_on_26, s_X_on_29, s_X_on_32, zlt, zle, zeq, zclamp, zinc, zdec, zdi, zdr, zdl, zdn, zpi, zpn, if_true, if_false, ite_not, Bool.false_eq_true, ne_eq, not_true_eq_false, not_false_eq_true, true_and, and_true, Nat.add_assoc, Nat.reduceAdd, e4]
    exact hQ σ1 (hR.setB h1 g2 g3 (fun c g => f1 c (by omega)))
theorem X_whoLaid (hR : RX σ a) (hQ : ∀ σ', RX σ' (c_whoLaid a x).2 → Q (some (.int (c_whoLaid a x).1)) σ') : Ev zshX 136 0 [some (.ref 0), some (.int x)] [] σ Q := by
  have hT := hR.2.2.2.1
  have hS : WS σ 2 _ _ _ _ := hR.1.1.2.1
  have h12 := hR.1.2.1.1.1
  rw [c_whoLaid] at hQ
  by_cases h0 : 0 ≤ x ∧ x < nI a.1.1.1
  · rw [if_pos h0] at hQ
    obtain ⟨i, hi, rfl⟩ := in_nI (by omega) h0
    rw [zclamp (by omega)] at hQ
    simp (disch := first | assumption | omega | decide | exact zin_d (by assumption) (by omega) (by omega) | (simp only [zb01]; done)) only [s_X_whoLaid_0, s_X_whoLaid_1, s_X_whoLaid_4, s_X_whoLaid_7, s_X_whoLaid_8, s_X_whoLaid_11, s_X_whoLaid_14, s_X_whoLaid_15, s_X_whoLaid_16, s_X_whoLaid_19, s_X_whoLaid_20, s_X_whoLaid_21, s_X_whoLaid_24, s_X_whoLaid_25, s_X_whoLaid_26, s_X_whoLaid_29, s_X_whoLaid_32, zlt, zle, zeq, zclamp, zinc, zdec, zdi, zdr, zdl, zdn, zpi, zpn, if_true, if_false, ite_not, Bool.false_eq_true, ne_eq, not_true_eq_false, not_false_eq_true, true_and, and_true, Nat.add_assoc, Nat.reduceAdd, Stones_has_in hS.1.1 hS.2.2.1 hS.2.1, zift, ziff]
    refine Remedies_layersThatFit hS hT hi (fun σ1 f1 => ?_)
    simp (disch := first | assumption | omega | decide | exact zin_d (by assumption) (by omega) (by omega) | (simp only [zb01]; done)) only [s_X_whoLaid_0, s_X_whoLaid_1, s_X_whoLaid_4, s_X_whoLaid_7, s_X_whoLaid_8, s_X_whoLaid_11, s_X_whoLaid_14, s_X_whoLaid_15, s_X_whoLaid_16, s_X_whoLaid_19, s_X_whoLaid_20, s_X_whoLaid_21, s_X_whoLaid_24, s_X_whoLaid_25, s_X_whoLaid_26, s_X_whoLaid_29, s_X_whoLaid_32, zlt, zle, zeq, zclamp, zinc, zdec, zdi, zdr, zdl, zdn, zpi, zpn, if_true, if_false, ite_not, Bool.false_eq_true, ne_eq, not_true_eq_false, not_false_eq_true, true_and, and_true, Nat.add_assoc, Nat.reduceAdd]
    exact hQ σ1 (hR.keep (fun c g => f1 c (by omega)))
  · rw [if_neg h0] at hQ
    simp (disch := first | assumption | omega | decide | exact zin_d (by assumption) (by omega) (by omega) | (simp only [zb01]; done)) only [s_X_whoLaid_0, s_X_whoLaid_1, s_X_whoLaid_4, s_X_whoLaid_7, s_X_whoLaid_8, s_X_whoLaid_11, s_X_whoLaid_14, s_X_whoLaid_15, s_X_whoLaid_16, s_X_whoLaid_19, s_X_whoLaid_20, s_X_whoLaid_21, s_X_whoLaid_24, s_X_whoLaid_25, s_X_whoLaid_26, s_X_whoLaid_29, s_X_whoLaid_32, zlt, zle, zeq, zclamp, zinc, zdec, zdi, zdr, zdl, zdn, zpi, zpn, if_true, if_false, ite_not, Bool.false_eq_true, ne_eq, not_true_eq_false, not_false_eq_true, true_and, and_true, Nat.add_assoc, Nat.reduceAdd, Stones_has hS, zift, ziff]
    refine X_refuse hR ref1 (fun σ' h => ?_)
    simp (disch := first | assumption | omega | decide | exact zin_d (by assumption) (by omega) (by omega) | (simp only [zb01]; done)) only [s_X_whoLaid_0, s_X_whoLaid_1, s_X_whoLaid_4, s_X_whoLaid_7, s_X_whoLaid_8, s_X_whoLaid_11, s_X_whoLaid_14, s_X_whoLaid_15, s_X_whoLaid_16, s_X_whoLaid_19, s_X_whoLaid_20, s_X_whoLaid_21, s_X_whoLaid_24, s_X_whoLaid_25, s_X_whoLaid_26, s_X_whoLaid_29, s_X_whoLaid_32, zlt, zle, zeq, zclamp, zinc, zdec, zdi, zdr, zdl, zdn, zpi, zpn, if_true, if_false, ite_not, Bool.false_eq_true, ne_eq, not_true_eq_false, not_false_eq_true, true_and, and_true, Nat.add_assoc, Nat.reduceAdd]
    exact hQ σ' h
theorem X_whatIs (hR : RX σ a) (hQ : ∀ σ', RX σ' (c_whatIs a x w).2 → Q (some (.int (c_whatIs a x w).1)) σ') : Ev zshX 137 0 [some (.ref 0), some (.int x), some (.int w)] [] σ Q := by
  have hT := hR.2.2.2.1
  have hS : WS σ 2 _ _ _ _ := hR.1.1.2.1
  have h12 := hR.1.2.1.1.1
  rw [c_whatIs] at hQ
  by_cases h0 : 0 ≤ x ∧ x < nI a.1.1.1
  · rw [if_pos h0] at hQ
    obtain ⟨i, hi, rfl⟩ := in_nI (by omega) h0
    rw [zclamp (by omega)] at hQ
    by_cases w0 : w = 0
    · subst w0
      rw [if_pos rfl] at hQ
      simp (disch := first | assumption | omega | decide | exact zin_d (by assumption) (by omega) (by omega) | (simp only [zb01]; done)) only [s_X_whatIs_0, s_X_whatIs_1, s_X_whatIs_4, s_X_whatIs_7, s_X_whatIs_8, s_X_whatIs_11, s_X_whatIs_14, s_X_whatIs_15, s_X_whatIs_16, s_X_whatIs_19, s_X_whatIs_20, s_X_whatIs_21, s_X_whatIs_48, s_X_whatIs_49, s_X_whatIs_52, s_X_whatIs_53, s_X_whatIs_54, s_X_whatIs_57, s_X_whatIs_60, s_X_whatIs_61, s_X_whatIs_62, s_X_whatIs_65, s_X_whatIs_66, s_X_whatIs_67, s_X_whatIs_70, s_X_whatIs_73, s_X_whatIs_74, s_X_whatIs_75, s_X_whatIs_77, s_X_whatIs_80, zlt, zle, zeq, zclamp, zinc, zdec, zdi, zdr, zdl, zdn, zpi, zpn, if_true, if_false, ite_not, Bool.false_eq_true, ne_eq, not_true_eq_false, not_false_eq_true, true_and, and_true, Nat.add_assoc, Nat.reduceAdd, Stones_has_in hS.1.1 hS.2.2.1 hS.2.1, zift, ziff]
      refine Remedies_kindsThatFit hS hT hi (fun σ1 f1 => ?_)
      simp (disch := first | assumption | omega | decide | exact zin_d (by assumption) (by omega) (by omega) | (simp only [zb01]; done)) only [s_X_whatIs_0, s_X_whatIs_1, s_X_whatIs_4, s_X_whatIs_7, s_X_whatIs_8, s_X_whatIs_11, s_X_whatIs_14, s_X_whatIs_15, s_X_whatIs_16, s_X_whatIs_19, s_X_whatIs_20, s_X_whatIs_21, s_X_whatIs_48, s_X_whatIs_49, s_X_whatIs_52, s_X_whatIs_53, s_X_whatIs_54, s_X_whatIs_57, s_X_whatIs_60, s_X_whatIs_61, s_X_whatIs_62, s_X_whatIs_65, s_X_whatIs_66, s_X_whatIs_67, s_X_whatIs_70, s_X_whatIs_73, s_X_whatIs_74, s_X_whatIs_75, s_X_whatIs_77, s_X_whatIs_80, zlt, zle, zeq, zclamp, zinc, zdec, zdi, zdr, zdl, zdn, zpi, zpn, if_true, if_false, ite_not, Bool.false_eq_true, ne_eq, not_true_eq_false, not_false_eq_true, true_and, and_true, Nat.add_assoc, Nat.reduceAdd]
      exact hQ σ1 (hR.keep (fun c g => f1 c (by omega)))
    rw [if_neg w0] at hQ
    by_cases w1 : w = 1
    · subst w1
      rw [if_pos rfl] at hQ
      simp (disch := first | assumption | omega | decide | exact zin_d (by assumption) (by omega) (by omega) | (simp only [zb01]; done)) only [s_X_whatIs_0, s_X_whatIs_1, s_X_whatIs_4, s_X_whatIs_7, s_X_whatIs_8, s_X_whatIs_11, s_X_whatIs_14, s_X_whatIs_15, s_X_whatIs_16, s_X_whatIs_19, s_X_whatIs_20, s_X_whatIs_21, s_X_whatIs_48, s_X_whatIs_49, s_X_whatIs_52, s_X_whatIs_53, s_X_whatIs_54, s_X_whatIs_57, s_X_whatIs_60, s_X_whatIs_61, s_X_whatIs_62, s_X_whatIs_65, s_X_whatIs_66, s_X_whatIs_67, s_X_whatIs_70, s_X_whatIs_73, s_X_whatIs_74, s_X_whatIs_75, s_X_whatIs_77, s_X_whatIs_80, zlt, zle, zeq, zclamp, zinc, zdec, zdi, zdr, zdl, zdn, zpi, zpn, if_true, if_false, ite_not, Bool.false_eq_true, ne_eq, not_true_eq_false, not_false_eq_true, true_and, and_true, Nat.add_assoc, Nat.reduceAdd, Stones_has_in hS.1.1 hS.2.2.1 hS.2.1, zift, ziff]
      refine Remedies_figuresThatFit hS hT hi (fun σ1 f1 => ?_)
      simp (disch := first | assumption | omega | decide | exact zin_d (by assumption) (by omega) (by omega) | (simp only [zb01]; done)) only [s_X_whatIs_0, s_X_whatIs_1, s_X_whatIs_4, s_X_whatIs_7, s_X_whatIs_8, s_X_whatIs_11, s_X_whatIs_14, s_X_whatIs_15, s_X_whatIs_16, s_X_whatIs_19, s_X_whatIs_20, s_X_whatIs_21, s_X_whatIs_48, s_X_whatIs_49, s_X_whatIs_52, s_X_whatIs_53, s_X_whatIs_54, s_X_whatIs_57, s_X_whatIs_60, s_X_whatIs_61, s_X_whatIs_62, s_X_whatIs_65, s_X_whatIs_66, s_X_whatIs_67, s_X_whatIs_70, s_X_whatIs_73, s_X_whatIs_74, s_X_whatIs_75, s_X_whatIs_77, s_X_whatIs_80, zlt, zle, zeq, zclamp, zinc, zdec, zdi, zdr, zdl, zdn, zpi, zpn, if_true, if_false, ite_not, Bool.false_eq_true, ne_eq, not_true_eq_false, not_false_eq_true, true_and, and_true, Nat.add_assoc, Nat.reduceAdd]
      exact hQ σ1 (hR.keep (fun c g => f1 c (by omega)))
    rw [if_neg w1] at hQ
    simp (disch := first | assumption | omega | decide | exact zin_d (by assumption) (by omega) (by omega) | (simp only [zb01]; done)) only [s_X_whatIs_0, s_X_whatIs_1, s_X_whatIs_4, s_X_whatIs_7, s_X_whatIs_8, s_X_whatIs_11, s_X_whatIs_14, s_X_whatIs_15, s_X_whatIs_16, s_X_whatIs_19, s_X_whatIs_20, s_X_whatIs_21, s_X_whatIs_48, s_X_whatIs_49, s_X_whatIs_52, s_X_whatIs_53, s_X_whatIs_54, s_X_whatIs_57, s_X_whatIs_60, s_X_whatIs_61, s_X_whatIs_62, s_X_whatIs_65, s_X_whatIs_66, s_X_whatIs_67, s_X_whatIs_70, s_X_whatIs_73, s_X_whatIs_74, s_X_whatIs_75, s_X_whatIs_77, s_X_whatIs_80, zlt, zle, zeq, zclamp, zinc, zdec, zdi, zdr, zdl, zdn, zpi, zpn, if_true, if_false, ite_not, Bool.false_eq_true, ne_eq, not_true_eq_false, not_false_eq_true, true_and, and_true, Nat.add_assoc, Nat.reduceAdd, Stones_has_in hS.1.1 hS.2.2.1 hS.2.1, zift, ziff]
    refine X_refuse hR ref2 (fun σ' h => ?_)
    simp (disch := first | assumption | omega | decide | exact zin_d (by assumption) (by omega) (by omega) | (simp only [zb01]; done)) only [s_X_whatIs_0, s_X_whatIs_1, s_X_whatIs_4, s_X_whatIs_7, s_X_whatIs_8, s_X_whatIs_11, s_X_whatIs_14, s_X_whatIs_15, s_X_whatIs_16, s_X_whatIs_19, s_X_whatIs_20, s_X_whatIs_21, s_X_whatIs_48, s_X_whatIs_49, s_X_whatIs_52, s_X_whatIs_53, s_X_whatIs_54, s_X_whatIs_57, s_X_whatIs_60, s_X_whatIs_61, s_X_whatIs_62, s_X_whatIs_65, s_X_whatIs_66, s_X_whatIs_67, s_X_whatIs_70, s_X_whatIs_73, s_X_whatIs_74, s_X_whatIs_75, s_X_whatIs_77, s_X_whatIs_80, zlt, zle, zeq, zclamp, zinc, zdec, zdi, zdr, zdl, zdn, zpi, zpn, if_true, if_false, ite_not, Bool.false_eq_true, ne_eq, not_true_eq_false, not_false_eq_true, true_and, and_true, Nat.add_assoc, Nat.reduceAdd]
    exact hQ σ' h
  · rw [if_neg h0] at hQ
    simp (disch := first | assumption | omega | decide | exact zin_d (by assumption) (by omega) (by omega) | (simp only [zb01]; done)) only [s_X_whatIs_0, s_X_whatIs_1, s_X_whatIs_4, s_X_whatIs_7, s_X_whatIs_8, s_X_whatIs_11, s_X_whatIs_14, s_X_whatIs_15, s_X_whatIs_16, s_X_whatIs_19, s_X_whatIs_20, s_X_whatIs_21, s_X_whatIs_48, s_X_whatIs_49, s_X_whatIs_52, s_X_whatIs_53, s_X_whatIs_54, s_X_whatIs_57, s_X_whatIs_60, s_X_whatIs_61, s_X_whatIs_62, s_X_whatIs_65, s_X_whatIs_66, s_X_whatIs_67, s_X_whatIs_70, s_X_whatIs_73, s_X_whatIs_74, s_X_whatIs_75, s_X_whatIs_77, s_X_whatIs_80, zlt, zle, zeq, zclamp, zinc, zdec, zdi, zdr, zdl, zdn, zpi, zpn, if_true, if_false, ite_not, Bool.false_eq_true, ne_eq, not_true_eq_false, not_false_eq_true, true_and, and_true, Nat.add_assoc, Nat.reduceAdd, Stones_has hS, zift, ziff]
    refine X_refuse hR ref1 (fun σ' h => ?_)
    simp (disch := first | assumption | omega | decide | exact zin_d (by assumption) (by omega) (by omega) | (simp only [zb01]; done)) only [s_X_whatIs_0, s_X_whatIs_1, s_X_whatIs_4, s_X_whatIs_7, s_X_whatIs_8, s_X_whatIs_11, s_X_whatIs_14, s_X_whatIs_15, s_X_whatIs_16, s_X_whatIs_19, s_X_whatIs_20, s_X_whatIs_21, s_X_whatIs_48, s_X_whatIs_49, s_X_whatIs_52, s_X_whatIs_53, s_X_whatIs_54, s_X_whatIs_57, s_X_whatIs_60, s_X_whatIs_61, s_X_whatIs_62, s_X_whatIs_65, s_X_whatIs_66, s_X_whatIs_67, s_X_whatIs_70, s_X_whatIs_73, s_X_whatIs_74, s_X_whatIs_75, s_X_whatIs_77, s_X_whatIs_80, zlt, zle, zeq, zclamp, zinc, zdec, zdi, zdr, zdl, zdn, zpi, zpn, if_true, if_false, ite_not, Bool.false_eq_true, ne_eq, not_true_eq_false, not_false_eq_true, true_and, and_true, Nat.add_assoc, Nat.reduceAdd]
    exact hQ σ' h
theorem X_count (hR : RX σ a) (hQ : ∀ σ', RX σ' (c_count a w).2 → Q (some (.int (c_count a w).1)) σ') : Ev zshX 144 0 [some (.ref 0), some (.int w)] [] σ Q := by
  have hT := hR.2.2.2.1
  have hS : WS σ 2 _ _ _ _ := hR.1.1.2.1
  have h12 := hR.1.2.1.1.1
  rw [c_count] at hQ
  by_cases w0 : w = 0
  · subst w0
    rw [if_pos rfl] at hQ
    simp (disch := first | assumption | omega | decide | exact zin_d (by assumption) (by omega) (by omega) | (simp only [zb01]; done)) only [s_X_count_0, s_X_count_1, s_X_count_48, s_X_count_49, s_X_count_52, s_X_count_55, s_X_count_58, s_X_count_59, s_X_count_60, s_X_count_63, s_X_count_66, s_X_count_67, s_X_count_68, s_X_count_71, s_X_count_74, s_X_count_75, s_X_count_76, s_X_count_79, s_X_count_82, s_X_count_85, s_X_count_86, s_X_count_87, s_X_count_90, s_X_count_93, s_X_count_94, s_X_count_97, s_X_count_98, s_X_count_99, s_X_count_102, s_X_count_105, s_X_count_108, s_X_count_109, s_X_count_110, s_X_count_113, s_X_count_116, s_X_count_117, s_X_count_118, s_X_count_121, s_X_count_124, s_X_count_125, s_X_count_126, s_X_count_128, s_X_count_130, s_X_count_133, s_X_count_136, s_X_count_137, s_X_count_140, s_X_count_141, s_X_count_143, s_X_count_144, s_X_count_145, s_X_count_148, s_X_count_150, zlt, zle, zeq, zclamp, zinc, zdec, zdi, zdr, zdl, zdn, zpi, zpn, if_true, if_false, ite_not, Bool.false_eq_true, ne_eq, not_true_eq_false, not_false_eq_true, true_and, and_true, Nat.add_assoc, Nat.reduceAdd, Stones_number hS.1.1, hS.2.2.1, zift, ziff]
    exact hQ σ hR
  rw [if_neg w0] at hQ
  by_cases w1 : w = 1
  · subst w1
    rw [if_pos rfl] at hQ
    simp (disch := first | assumption | omega | decide | exact zin_d (by assumption) (by omega) (by omega) | (simp only [zb01]; done)) only [s_X_count_0, s_X_count_1, s_X_count_48, s_X_count_49, s_X_count_52, s_X_count_55, s_X_count_58, s_X_count_59, s_X_count_60, s_X_count_63, s_X_count_66, s_X_count_67, s_X_count_68, s_X_count_71, s_X_count_74, s_X_count_75, s_X_count_76, s_X_count_79, s_X_count_82, s_X_count_85, s_X_count_86, s_X_count_87, s_X_count_90, s_X_count_93, s_X_count_94, s_X_count_97, s_X_count_98, s_X_count_99, s_X_count_102, s_X_count_105, s_X_count_108, s_X_count_109, s_X_count_110, s_X_count_113, s_X_count_116, s_X_count_117, s_X_count_118, s_X_count_121, s_X_count_124, s_X_count_125, s_X_count_126, s_X_count_128, s_X_count_130, s_X_count_133, s_X_count_136, s_X_count_137, s_X_count_140, s_X_count_141, s_X_count_143, s_X_count_144, s_X_count_145, s_X_count_148, s_X_count_150, zlt, zle, zeq, zclamp, zinc, zdec, zdi, zdr, zdl, zdn, zpi, zpn, if_true, if_false, ite_not, Bool.false_eq_true, ne_eq, not_true_eq_false, not_false_eq_true, true_and, and_true, Nat.add_assoc, Nat.reduceAdd, hR.1.1.2.2.2.2.1, zift, ziff]
    exact hQ σ hR
  rw [if_neg w1] at hQ
  by_cases w2 : w = 2
  · subst w2
    rw [if_pos rfl] at hQ
    simp (disch := first | assumption | omega | decide | exact zin_d (by assumption) (by omega) (by omega) | (simp only [zb01]; done)) only [s_X_count_0, s_X_count_1, s_X_count_48, s_X_count_49, s_X_count_52, s_X_count_55, s_X_count_58, s_X_count_59, s_X_count_60, s_X_count_63, s_X_count_66, s_X_count_67, s_X_count_68, s_X_count_71, s_X_count_74, s_X_count_75, s_X_count_76, s_X_count_79, s_X_count_82, s_X_count_85, s_X_count_86, s_X_count_87, s_X_count_90, s_X_count_93, s_X_count_94, s_X_count_97, s_X_count_98, s_X_count_99, s_X_count_102, s_X_count_105, s_X_count_108, s_X_count_109, s_X_count_110, s_X_count_113, s_X_count_116, s_X_count_117, s_X_count_118, s_X_count_121, s_X_count_124, s_X_count_125, s_X_count_126, s_X_count_128, s_X_count_130, s_X_count_133, s_X_count_136, s_X_count_137, s_X_count_140, s_X_count_141, s_X_count_143, s_X_count_144, s_X_count_145, s_X_count_148, s_X_count_150, zlt, zle, zeq, zclamp, zinc, zdec, zdi, zdr, zdl, zdn, zpi, zpn, if_true, if_false, ite_not, Bool.false_eq_true, ne_eq, not_true_eq_false, not_false_eq_true, true_and, and_true, Nat.add_assoc, Nat.reduceAdd, hR.1.1.2.2.2.2.2, zift, ziff]
    exact hQ σ hR
  rw [if_neg w2] at hQ
  by_cases w3 : w = 3
  · subst w3
    rw [if_pos rfl] at hQ
    simp (disch := first | assumption | omega | decide | exact zin_d (by assumption) (by omega) (by omega) | (simp only [zb01]; done)) only [s_X_count_0, s_X_count_1, s_X_count_48, s_X_count_49, s_X_count_52, s_X_count_55, s_X_count_58, s_X_count_59, s_X_count_60, s_X_count_63, s_X_count_66, s_X_count_67, s_X_count_68, s_X_count_71, s_X_count_74, s_X_count_75, s_X_count_76, s_X_count_79, s_X_count_82, s_X_count_85, s_X_count_86, s_X_count_87, s_X_count_90, s_X_count_93, s_X_count_94, s_X_count_97, s_X_count_98, s_X_count_99, s_X_count_102, s_X_count_105, s_X_count_108, s_X_count_109, s_X_count_110, s_X_count_113, s_X_count_116, s_X_count_117, s_X_count_118, s_X_count_121, s_X_count_124, s_X_count_125, s_X_count_126, s_X_count_128, s_X_count_130, s_X_count_133, s_X_count_136, s_X_count_137, s_X_count_140, s_X_count_141, s_X_count_143, s_X_count_144, s_X_count_145, s_X_count_148, s_X_count_150, zlt, zle, zeq, zclamp, zinc, zdec, zdi, zdr, zdl, zdn, zpi, zpn, if_true, if_false, ite_not, Bool.false_eq_true, ne_eq, not_true_eq_false, not_false_eq_true, true_and, and_true, Nat.add_assoc, Nat.reduceAdd, Stones_sumOfFigures hS, zift, ziff]
    exact hQ σ hR
  rw [if_neg w3] at hQ
  by_cases w4 : w = 4
  · subst w4
    rw [if_pos rfl] at hQ
    simp (disch := first | assumption | omega | decide | exact zin_d (by assumption) (by omega) (by omega) | (simp only [zb01]; done)) only [s_X_count_0, s_X_count_1, s_X_count_48, s_X_count_49, s_X_count_52, s_X_count_55, s_X_count_58, s_X_count_59, s_X_count_60, s_X_count_63, s_X_count_66, s_X_count_67, s_X_count_68, s_X_count_71, s_X_count_74, s_X_count_75, s_X_count_76, s_X_count_79, s_X_count_82, s_X_count_85, s_X_count_86, s_X_count_87, s_X_count_90, s_X_count_93, s_X_count_94, s_X_count_97, s_X_count_98, s_X_count_99, s_X_count_102, s_X_count_105, s_X_count_108, s_X_count_109, s_X_count_110, s_X_count_113, s_X_count_116, s_X_count_117, s_X_count_118, s_X_count_121, s_X_count_124, s_X_count_125, s_X_count_126, s_X_count_128, s_X_count_130, s_X_count_133, s_X_count_136, s_X_count_137, s_X_count_140, s_X_count_141, s_X_count_143, s_X_count_144, s_X_count_145, s_X_count_148, s_X_count_150, zlt, zle, zeq, zclamp, zinc, zdec, zdi, zdr, zdl, zdn, zpi, zpn, if_true, if_false, ite_not, Bool.false_eq_true, ne_eq, not_true_eq_false, not_false_eq_true, true_and, and_true, Nat.add_assoc, Nat.reduceAdd, Stones_bitsLaidBy hS, zift, ziff]
    exact hQ σ hR
  rw [if_neg w4] at hQ
  by_cases w5 : w = 5
  · subst w5
    rw [if_pos rfl] at hQ
    simp (disch := first | assumption | omega | decide | exact zin_d (by assumption) (by omega) (by omega) | (simp only [zb01]; done)) only [s_X_count_0, s_X_count_1, s_X_count_48, s_X_count_49, s_X_count_52, s_X_count_55, s_X_count_58, s_X_count_59, s_X_count_60, s_X_count_63, s_X_count_66, s_X_count_67, s_X_count_68, s_X_count_71, s_X_count_74, s_X_count_75, s_X_count_76, s_X_count_79, s_X_count_82, s_X_count_85, s_X_count_86, s_X_count_87, s_X_count_90, s_X_count_93, s_X_count_94, s_X_count_97, s_X_count_98, s_X_count_99, s_X_count_102, s_X_count_105, s_X_count_108, s_X_count_109, s_X_count_110, s_X_count_113, s_X_count_116, s_X_count_117, s_X_count_118, s_X_count_121, s_X_count_124, s_X_count_125, s_X_count_126, s_X_count_128, s_X_count_130, s_X_count_133, s_X_count_136, s_X_count_137, s_X_count_140, s_X_count_141, s_X_count_143, s_X_count_144, s_X_count_145, s_X_count_148, s_X_count_150, zlt, zle, zeq, zclamp, zinc, zdec, zdi, zdr, zdl, zdn, zpi, zpn, if_true, if_false, ite_not, Bool.false_eq_true, ne_eq, not_true_eq_false, not_false_eq_true, true_and, and_true, Nat.add_assoc, Nat.reduceAdd, Stones_bitsOfLacking hS, zift, ziff]
    exact hQ σ hR
  rw [if_neg w5] at hQ
  by_cases w6 : w = 6
  · subst w6
    rw [if_pos rfl] at hQ
    simp (disch := first | assumption | omega | decide | exact zin_d (by assumption) (by omega) (by omega) | (simp only [zb01]; done)) only [s_X_count_0, s_X_count_1, s_X_count_48, s_X_count_49, s_X_count_52, s_X_count_55, s_X_count_58, s_X_count_59, s_X_count_60, s_X_count_63, s_X_count_66, s_X_count_67, s_X_count_68, s_X_count_71, s_X_count_74, s_X_count_75, s_X_count_76, s_X_count_79, s_X_count_82, s_X_count_85, s_X_count_86, s_X_count_87, s_X_count_90, s_X_count_93, s_X_count_94, s_X_count_97, s_X_count_98, s_X_count_99, s_X_count_102, s_X_count_105, s_X_count_108, s_X_count_109, s_X_count_110, s_X_count_113, s_X_count_116, s_X_count_117, s_X_count_118, s_X_count_121, s_X_count_124, s_X_count_125, s_X_count_126, s_X_count_128, s_X_count_130, s_X_count_133, s_X_count_136, s_X_count_137, s_X_count_140, s_X_count_141, s_X_count_143, s_X_count_144, s_X_count_145, s_X_count_148, s_X_count_150, zlt, zle, zeq, zclamp, zinc, zdec, zdi, zdr, zdl, zdn, zpi, zpn, if_true, if_false, ite_not, Bool.false_eq_true, ne_eq, not_true_eq_false, not_false_eq_true, true_and, and_true, Nat.add_assoc, Nat.reduceAdd, Row_number, hT.2.1, zift, ziff]
    exact hQ σ hR
  rw [if_neg w6] at hQ
  by_cases w7 : w = 7
  · subst w7
    rw [if_pos rfl] at hQ
    simp (disch := first | assumption | omega | decide | exact zin_d (by assumption) (by omega) (by omega) | (simp only [zb01]; done)) only [s_X_count_0, s_X_count_1, s_X_count_48, s_X_count_49, s_X_count_52, s_X_count_55, s_X_count_58, s_X_count_59, s_X_count_60, s_X_count_63, s_X_count_66, s_X_count_67, s_X_count_68, s_X_count_71, s_X_count_74, s_X_count_75, s_X_count_76, s_X_count_79, s_X_count_82, s_X_count_85, s_X_count_86, s_X_count_87, s_X_count_90, s_X_count_93, s_X_count_94, s_X_count_97, s_X_count_98, s_X_count_99, s_X_count_102, s_X_count_105, s_X_count_108, s_X_count_109, s_X_count_110, s_X_count_113, s_X_count_116, s_X_count_117, s_X_count_118, s_X_count_121, s_X_count_124, s_X_count_125, s_X_count_126, s_X_count_128, s_X_count_130, s_X_count_133, s_X_count_136, s_X_count_137, s_X_count_140, s_X_count_141, s_X_count_143, s_X_count_144, s_X_count_145, s_X_count_148, s_X_count_150, s_Letters_number_0, s_Letters_number_1, s_Letters_number_4, zlt, zle, zeq, zclamp, zinc, zdec, zdi, zdr, zdl, zdn, zpi, zpn, if_true, if_false, ite_not, Bool.false_eq_true, ne_eq, not_true_eq_false, not_false_eq_true, true_and, and_true, Nat.add_assoc, Nat.reduceAdd, hR.2.2.1.1.2.1, zift, ziff]
    exact hQ σ hR
  rw [if_neg w7] at hQ
  by_cases h : btw w 11 16 = true
  · rw [if_pos h] at hQ
    have hb := btw_eq.mp h
    obtain ⟨i, hi, rfl⟩ := in_le (n := 16) (by omega) (show 0 ≤ w ∧ w ≤ nI 16 from ⟨Int32.le_trans (by decide : (0 : Int32) ≤ 11) hb.1, hb.2⟩)
    have hi11 : 11 ≤ i := by
      have h11 := hb.1
      rw [show (11 : Int32) = nI 11 from rfl, zle (by omega) (by omega)] at h11
      exact h11
    have e10 : nI i - 10 = nI (i - 10) := pk_sub (b := 10) (by omega)
    have hz : zshX 41 = 100 + 7 := rfl
    have hk : i - 10 < 7 := by omega
    rw [e10, zclamp (by omega)] at hQ
    simp (disch := first | assumption | omega | decide | exact zin_d (by assumption) (by omega) (by omega) | (simp only [zb01]; done)) only [s_X_count_0, s_X_count_1, s_X_count_48, s_X_count_49, s_X_count_52, s_X_count_55, s_X_count_58, s_X_count_59, s_X_count_60, s_X_count_63, s_X_count_66, s_X_count_67, s_X_count_68, s_X_count_71, s_X_count_74, s_X_count_75, s_X_count_76, s_X_count_79, s_X_count_82, s_X_count_85, s_X_count_86, s_X_count_87, s_X_count_90, s_X_count_93, s_X_count_94, s_X_count_97, s_X_count_98, s_X_count_99, s_X_count_102, s_X_count_105, s_X_count_108, s_X_count_109, s_X_count_110, s_X_count_113, s_X_count_116, s_X_count_117, s_X_count_118, s_X_count_121, s_X_count_124, s_X_count_125, s_X_count_126, s_X_count_128, s_X_count_130, s_X_count_133, s_X_count_136, s_X_count_137, s_X_count_140, s_X_count_141, s_X_count_143, s_X_count_144, s_X_count_145, s_X_count_148, s_X_count_150, zlt, zle, zeq, zclamp, zinc, zdec, zdi, zdr, zdl, zdn, zpi, zpn, if_true, if_false, ite_not, Bool.false_eq_true, ne_eq, not_true_eq_false, not_false_eq_true, true_and, and_true, Nat.add_assoc, Nat.reduceAdd, X_between, e10, hR.2.2.2.2 (i - 10) hk, zift, ziff]
    exact hQ σ hR
  · rw [if_neg h] at hQ
    simp (disch := first | assumption | omega | decide | exact zin_d (by assumption) (by omega) (by omega) | (simp only [zb01]; done)) only [s_X_count_0, s_X_count_1, s_X_count_48, s_X_count_49, s_X_count_52, s_X_count_55, s_X_count_58, s_X_count_59, s_X_count_60, s_X_count_63, s_X_count_66, s_X_count_67, s_X_count_68, s_X_count_71, s_X_count_74, s_X_count_75, s_X_count_76, s_X_count_79, s_X_count_82, s_X_count_85, s_X_count_86, s_X_count_87, s_X_count_90, s_X_count_93, s_X_count_94, s_X_count_97, s_X_count_98, s_X_count_99, s_X_count_102, s_X_count_105, s_X_count_108, s_X_count_109, s_X_count_110, s_X_count_113, s_X_count_116, s_X_count_117, s_X_count_118, s_X_count_121, s_X_count_124, s_X_count_125, s_X_count_126, s_X_count_128, s_X_count_130, s_X_count_133, s_X_count_136, s_X_count_137, s_X_count_140, s_X_count_141, s_X_count_143, s_X_count_144, s_X_count_145, s_X_count_148, s_X_count_150, zlt, zle, zeq, zclamp, zinc, zdec, zdi, zdr, zdl, zdn, zpi, zpn, if_true, if_false, ite_not, Bool.false_eq_true, ne_eq, not_true_eq_false, not_false_eq_true, true_and, and_true, Nat.add_assoc, Nat.reduceAdd, X_between, zift, ziff]
    exact hQ σ hR
end
