def strayZ (ln : Nat) (L : SF) (k s : Nat) : Int32 := zf (fun j => ¬ (s + (1 + j) < ln ∧ okF (fch k j) (lat ln L (s + (1 + j))) = true)) 0 (fln k)
def strayS (ln : Nat) (L : SF) (s : Nat) : Int32 := if fln (frm (lat ln L s)) = 0 then nI s else if strayZ ln L (frm (lat ln L s)) s = -9 then -9 else nI (s + 1) + strayZ ln L (frm (lat ln L s)) s
def nxt (ln : Nat) (L : SF) (s : Nat) : Nat := s + (1 + fln (frm (lat ln L s)))
def fstS (ln : Nat) (L : SF) : Nat → Nat → Int32
  | 0, _ => -9
  | f + 1, s => if s < ln then (if strayS ln L s = -9 then fstS ln L f (nxt ln L s) else strayS ln L s) else -9
def cntS (ln : Nat) (L : SF) : Nat → Nat → Nat
  | 0, _ => 0
  | f + 1, s => if s < ln then cntS ln L f (nxt ln L s) + 1 else 0
def dg (ln : Nat) (L : SF) (p : Nat) : Nat := (lat ln L p - 48).toNatClampNeg
def stm0 (ln : Nat) (L : SF) (s : Nat) (β : Bt) : Option Bt := if dg ln L (s + 3) ≤ 1 ∧ β.1.1 < 12 then some (addS β.1 (kndv (lat ln L (s + 1))) (nI (dg ln L (s + 2))) (nI (dg ln L (s + 3))), β.2) else none
def stm1 (ln : Nat) (L : SF) (s : Nat) (β : Bt) : Option Bt := if dg ln L (s + 1) < β.1.1 then some ((β.1.1, upd β.1.2.1 (dg ln L (s + 1)) (kndv (lat ln L (s + 2))), upd β.1.2.2.1 (dg ln L (s + 1)) (nI (dg ln L (s + 3))), β.1.2.2.2), β.2) else none
def stm2 (ln : Nat) (L : SF) (s : Nat) (β : Bt) : Option Bt := if dg ln L (s + 1) ≤ 1 then some (if nI (dg ln L (s + 1)) = 1 then (β.1, β.2.1, (kndv (lat ln L (s + 2)), nI (dg ln L (s + 3)), nI (dg ln L (s + 4))), β.2.2.2) else (β.1, (kndv (lat ln L (s + 2)), nI (dg ln L (s + 3)), nI (dg ln L (s + 4))), β.2.2)) else none
def stm3 (ln : Nat) (L : SF) (s : Nat) (β : Bt) : Option Bt := if 1 ≤ dg ln L (s + 1) ∧ dg ln L (s + 1) ≤ β.1.1 then some ((β.1.1 - dg ln L (s + 1), β.1.2), β.2) else none
def stm4 (ln : Nat) (L : SF) (s : Nat) (β : Bt) : Option Bt := if (1 ≤ 10 * dg ln L (s + 1) + dg ln L (s + 2) ∧ 10 * dg ln L (s + 1) + dg ln L (s + 2) ≤ 60) ∧ β.2.2.2.2.toNatClampNeg + (10 * dg ln L (s + 1) + dg ln L (s + 2)) ≤ 999 then some (daysS (10 * dg ln L (s + 1) + dg ln L (s + 2)) β) else none
def stm (ln : Nat) (L : SF) (s : Nat) (β : Bt) : Option Bt := if frm (lat ln L s) = 0 then stm0 ln L s β else if frm (lat ln L s) = 1 then stm1 ln L s β else if frm (lat ln L s) = 2 then stm2 ln L s β else if frm (lat ln L s) = 3 then stm3 ln L s β else if frm (lat ln L s) = 4 then stm4 ln L s β else none
def wrgS (ln : Nat) (L : SF) : Nat → Nat → Bt → Int32 × Bt
  | 0, _, β => (-9, β)
  | f + 1, s, β => if s < ln then (match stm ln L s β with
    | some β' => wrgS ln L f (nxt ln L s) β'
    | none => (nI s, β)) else (-9, β)
theorem zf_all {p : Nat → Prop} [DecidablePred p] : ∀ (k a : Nat), a + k < 1000 → zf p a k = -9 → ∀ i, a ≤ i → i < a + k → ¬ p i := by
  intro k
  induction k with
  | zero => intro a _ _ i h1 h2; omega
  | succ k ih =>
    intro a hk h i h1 h2
    rw [zf] at h
    by_cases hp : p a
    · rw [if_pos hp] at h; exact absurd h (nI_ne9 (by omega))
    · rw [if_neg hp] at h
      by_cases e : i = a
      · subst e; exact hp
      · exact ih (a + 1) (by omega) h i (by omega) (by omega)
theorem stray_ok {ln : Nat} {L : SF} {s : Nat} (hs : s < 1000) (h : strayS ln L s = -9) : frm (lat ln L s) ≠ 5 ∧ ∀ j, j < fln (frm (lat ln L s)) → s + (1 + j) < ln ∧ okF (fch (frm (lat ln L s)) j) (lat ln L (s + (1 + j))) = true := by
  have hk := frm_le (lat ln L s)
  have h6 := fln_le _ (Nat.le_succ_of_le hk)
  rw [strayS] at h
  by_cases h0 : fln (frm (lat ln L s)) = 0
  · rw [if_pos h0] at h; exact absurd h (nI_ne9 (by omega))
  · rw [if_neg h0] at h
    refine ⟨fun e => h0 (by rw [e]; rfl), ?_⟩
    by_cases h1 : strayZ ln L (frm (lat ln L s)) s = -9
    · intro j hj
      exact Decidable.not_not.mp (zf_all _ 0 (by omega) h1 j (by omega) (by omega))
    · rw [if_neg h1] at h
      rcases zf_in (p := fun j => ¬ (s + (1 + j) < ln ∧ okF (fch (frm (lat ln L s)) j) (lat ln L (s + (1 + j))) = true)) (fln (frm (lat ln L s))) 0 with h2 | ⟨j, -, h3, h4, -⟩
      · exact absurd h2 h1
      · rw [strayZ, h4, nI_add] at h
        exact absurd h (nI_ne9 (by omega))
theorem dig_ok : ∀ v, v ≤ 255 → okF 100 (nI v) = true → (nI v - 48).toNatClampNeg ≤ 9 ∧ nI v - 48 = nI (nI v - 48).toNatClampNeg := by decide +kernel
theorem dg_ok {ln : Nat} {L : SF} (hL : Lok ln L) {p : Nat} (h : okF 100 (lat ln L p) = true) : dg ln L p ≤ 9 ∧ lat ln L p - 48 = nI (dg ln L p) := by
  obtain ⟨v, hv, e⟩ := lat_ok hL p
  rw [e] at h
  rw [dg, e]
  exact dig_ok v hv h
theorem knd_ok : ∀ v, v ≤ 255 → okF 107 (nI v) = true → ∃ w, w ≤ 5 ∧ kndv (nI v) = nI w := by decide +kernel
theorem kd_ok {ln : Nat} {L : SF} (hL : Lok ln L) {p : Nat} (h : okF 107 (lat ln L p) = true) : num 5 (kndv (lat ln L p)) := by
  obtain ⟨v, hv, e⟩ := lat_ok hL p
  rw [e] at h ⊢
  exact knd_ok v hv h
section
variable {σ : zG} {Q : Option Value → zG → Prop} {ln k i p s : Nat} {L : SF} {x y z : Int32} {β : Bt}
theorem Letters_strayOf (hW : WL σ ln L) (hL : Lok ln L) (hs : s ≤ 110) : Ev zshX 36 0 [some (.ref 22), some (.int (nI s)), none, none, none] [] σ Q = Q (some (.int (strayS ln L s))) σ := by
  have hk := frm_le (lat ln L s)
  have hk6 : frm (lat ln L s) ≤ 6 := by omega
  have h6 := fln_le _ hk6
  have hn : σ 22 1 = nI ln := hW.2.1
  have h96 := hW.1
  rw [strayS]
  by_cases h0 : fln (frm (lat ln L s)) = 0
  · simp (disch := first | assumption | omega | decide | exact zin_d (by assumption) (by omega) (by omega) | (simp only [zb01]; done)) only [s_Letters_strayOf_0, s_Letters_strayOf_1, s_Letters_strayOf_2, s_Letters_strayOf_5, s_Letters_strayOf_8, s_Letters_strayOf_9, s_Letters_strayOf_10, s_Letters_strayOf_13, s_Letters_strayOf_16, s_Letters_strayOf_17, s_Letters_strayOf_18, s_Letters_strayOf_19, s_Letters_strayOf_21, s_Letters_strayOf_22, s_Letters_strayOf_25, s_Letters_strayOf_28, s_Letters_strayOf_29, s_Letters_strayOf_30, s_Letters_strayOf_31, s_Letters_strayOf_32, s_Letters_strayOf_33, s_Letters_strayOf_35, s_Letters_strayOf_37, s_Letters_strayOf_38, s_Letters_strayOf_41, s_Letters_strayOf_44, s_Letters_strayOf_45, s_Letters_strayOf_47, s_Letters_strayOf_48, s_Letters_strayOf_49, s_Letters_strayOf_52, s_Letters_strayOf_55, s_Letters_strayOf_58, s_Letters_strayOf_60, s_Letters_strayOf_61, s_Letters_strayOf_64, s_Letters_strayOf_67, s_Letters_strayOf_69, zlt, zle, zeq, zclamp, zinc, zdec, zdi, zdr, zdl, zdn, zpi, zpn, if_true, if_false, ite_not, Bool.false_eq_true, ne_eq, not_true_eq_false, not_false_eq_true, true_and, and_true, Nat.add_assoc, Nat.reduceAdd, Letters_letterAt hW, Letters_formBehind, String_isEmpty, h0, ziff, zift]
  · simp (disch := first | assumption | omega | decide | exact zin_d (by assumption) (by omega) (by omega) | (simp only [zb01]; done)) only [s_Letters_strayOf_0, s_Letters_strayOf_1, s_Letters_strayOf_2, s_Letters_strayOf_5, s_Letters_strayOf_8, s_Letters_strayOf_9, s_Letters_strayOf_10, s_Letters_strayOf_13, s_Letters_strayOf_16, s_Letters_strayOf_17, s_Letters_strayOf_18, s_Letters_strayOf_19, s_Letters_strayOf_21, s_Letters_strayOf_22, s_Letters_strayOf_25, s_Letters_strayOf_28, s_Letters_strayOf_29, s_Letters_strayOf_30, s_Letters_strayOf_31, s_Letters_strayOf_32, s_Letters_strayOf_33, s_Letters_strayOf_35, s_Letters_strayOf_37, s_Letters_strayOf_38, s_Letters_strayOf_41, s_Letters_strayOf_44, s_Letters_strayOf_45, s_Letters_strayOf_47, s_Letters_strayOf_48, s_Letters_strayOf_49, s_Letters_strayOf_52, s_Letters_strayOf_55, s_Letters_strayOf_58, s_Letters_strayOf_60, s_Letters_strayOf_61, s_Letters_strayOf_64, s_Letters_strayOf_67, s_Letters_strayOf_69, zlt, zle, zeq, zclamp, zinc, zdec, zdi, zdr, zdl, zdn, zpi, zpn, if_true, if_false, ite_not, Bool.false_eq_true, ne_eq, not_true_eq_false, not_false_eq_true, true_and, and_true, Nat.add_assoc, Nat.reduceAdd, Letters_letterAt hW, Letters_formBehind, String_isEmpty, h0, ziff, zift]
    generalize hkk : frm (lat ln L s) = k at *
    refine (loopF (α := Option Value) (N := fln k) (p := fun j => ¬ (s + (1 + j) < ln ∧ okF (fch k j) (lat ln L (s + (1 + j))) = true)) (fun w j => Ev zshX 36 20 [some (.ref 22), some (.int (nI s)), some (.ref (1000 + k)), some (.int (nI j)), w] [] σ Q) (G := fun v => Q (some (.int (if v = -9 then -9 else nI (s + 1) + v))) σ) (fun w j hj => ⟨some (.int (nI (s + (1 + j)))), ?_⟩) (fun w => ?_) 0 none (by omega))
    · rw [s_Letters_strayOf_20]
      have h9 : ¬ nI j = -9 := nI_ne9 (by omega)
      have ea : nI (s + 1) + nI j = nI (s + (1 + j)) := by rw [nI_add, Nat.add_assoc]
      by_cases h1 : s + (1 + j) < ln
      · by_cases h2 : okF (fch k j) (lat ln L (s + (1 + j))) = true
        · have h3 : ¬ ¬ (s + (1 + j) < ln ∧ okF (fch k j) (lat ln L (s + (1 + j))) = true) := fun h => h ⟨h1, h2⟩
          rw [if_neg h3]
          simp (disch := first | assumption | omega | decide | exact zin_d (by assumption) (by omega) (by omega) | (simp only [zb01]; done)) only [s_Letters_strayOf_0, s_Letters_strayOf_1, s_Letters_strayOf_2, s_Letters_strayOf_5, s_Letters_strayOf_8, s_Letters_strayOf_9, s_Letters_strayOf_10, s_Letters_strayOf_13, s_Letters_strayOf_16, s_Letters_strayOf_17, s_Letters_strayOf_18, s_Letters_strayOf_19, s_Letters_strayOf_21, s_Letters_strayOf_22, s_Letters_strayOf_25, s_Letters_strayOf_28, s_Letters_strayOf_29, s_Letters_strayOf_30, s_Letters_strayOf_31, s_Letters_strayOf_32, s_Letters_strayOf_33, s_Letters_strayOf_35, s_Letters_strayOf_37, s_Letters_strayOf_38, s_Letters_strayOf_41, s_Letters_strayOf_44, s_Letters_strayOf_45, s_Letters_strayOf_47, s_Letters_strayOf_48, s_Letters_strayOf_49, s_Letters_strayOf_52, s_Letters_strayOf_55, s_Letters_strayOf_58, s_Letters_strayOf_60, s_Letters_strayOf_61, s_Letters_strayOf_64, s_Letters_strayOf_67, s_Letters_strayOf_69, zlt, zle, zeq, zclamp, zinc, zdec, zdi, zdr, zdl, zdn, zpi, zpn, if_true, if_false, ite_not, Bool.false_eq_true, ne_eq, not_true_eq_false, not_false_eq_true, true_and, and_true, Nat.add_assoc, Nat.reduceAdd, zlL_0, zlR_0, zeL_0, zeR_0, zqL_0, zcl_0, String_length, hn, ea, String_charAt, Letters_isOfForm hW hL, ziff, zift]
        · have h3 : ¬ (s + (1 + j) < ln ∧ okF (fch k j) (lat ln L (s + (1 + j))) = true) := fun h => h2 h.2
          rw [if_pos h3]
          simp (disch := first | assumption | omega | decide | exact zin_d (by assumption) (by omega) (by omega) | (simp only [zb01]; done)) only [s_Letters_strayOf_0, s_Letters_strayOf_1, s_Letters_strayOf_2, s_Letters_strayOf_5, s_Letters_strayOf_8, s_Letters_strayOf_9, s_Letters_strayOf_10, s_Letters_strayOf_13, s_Letters_strayOf_16, s_Letters_strayOf_17, s_Letters_strayOf_18, s_Letters_strayOf_19, s_Letters_strayOf_21, s_Letters_strayOf_22, s_Letters_strayOf_25, s_Letters_strayOf_28, s_Letters_strayOf_29, s_Letters_strayOf_30, s_Letters_strayOf_31, s_Letters_strayOf_32, s_Letters_strayOf_33, s_Letters_strayOf_35, s_Letters_strayOf_37, s_Letters_strayOf_38, s_Letters_strayOf_41, s_Letters_strayOf_44, s_Letters_strayOf_45, s_Letters_strayOf_47, s_Letters_strayOf_48, s_Letters_strayOf_49, s_Letters_strayOf_52, s_Letters_strayOf_55, s_Letters_strayOf_58, s_Letters_strayOf_60, s_Letters_strayOf_61, s_Letters_strayOf_64, s_Letters_strayOf_67, s_Letters_strayOf_69, zlt, zle, zeq, zclamp, zinc, zdec, zdi, zdr, zdl, zdn, zpi, zpn, if_true, if_false, ite_not, Bool.false_eq_true, ne_eq, not_true_eq_false, not_false_eq_true, true_and, and_true, Nat.add_assoc, Nat.reduceAdd, zlL_0, zlR_0, zeL_0, zeR_0, zqL_0, zcl_0, String_length, hn, ea, String_charAt, Letters_isOfForm hW hL, ziff, zift]
      · have h3 : ¬ (s + (1 + j) < ln ∧ okF (fch k j) (lat ln L (s + (1 + j))) = true) := fun h => h1 h.1
        rw [if_pos h3]
        simp (disch := first | assumption | omega | decide | exact zin_d (by assumption) (by omega) (by omega) | (simp only [zb01]; done)) only [s_Letters_strayOf_0, s_Letters_strayOf_1, s_Letters_strayOf_2, s_Letters_strayOf_5, s_Letters_strayOf_8, s_Letters_strayOf_9, s_Letters_strayOf_10, s_Letters_strayOf_13, s_Letters_strayOf_16, s_Letters_strayOf_17, s_Letters_strayOf_18, s_Letters_strayOf_19, s_Letters_strayOf_21, s_Letters_strayOf_22, s_Letters_strayOf_25, s_Letters_strayOf_28, s_Letters_strayOf_29, s_Letters_strayOf_30, s_Letters_strayOf_31, s_Letters_strayOf_32, s_Letters_strayOf_33, s_Letters_strayOf_35, s_Letters_strayOf_37, s_Letters_strayOf_38, s_Letters_strayOf_41, s_Letters_strayOf_44, s_Letters_strayOf_45, s_Letters_strayOf_47, s_Letters_strayOf_48, s_Letters_strayOf_49, s_Letters_strayOf_52, s_Letters_strayOf_55, s_Letters_strayOf_58, s_Letters_strayOf_60, s_Letters_strayOf_61, s_Letters_strayOf_64, s_Letters_strayOf_67, s_Letters_strayOf_69, zlt, zle, zeq, zclamp, zinc, zdec, zdi, zdr, zdl, zdn, zpi, zpn, if_true, if_false, ite_not, Bool.false_eq_true, ne_eq, not_true_eq_false, not_false_eq_true, true_and, and_true, Nat.add_assoc, Nat.reduceAdd, zlL_0, zlR_0, zeL_0, zeR_0, zqL_0, zcl_0, String_length, hn, ea, ziff, zift]
    · rw [s_Letters_strayOf_20]
      simp (disch := first | assumption | omega | decide | exact zin_d (by assumption) (by omega) (by omega) | (simp only [zb01]; done)) only [s_Letters_strayOf_0, s_Letters_strayOf_1, s_Letters_strayOf_2, s_Letters_strayOf_5, s_Letters_strayOf_8, s_Letters_strayOf_9, s_Letters_strayOf_10, s_Letters_strayOf_13, s_Letters_strayOf_16, s_Letters_strayOf_17, s_Letters_strayOf_18, s_Letters_strayOf_19, s_Letters_strayOf_21, s_Letters_strayOf_22, s_Letters_strayOf_25, s_Letters_strayOf_28, s_Letters_strayOf_29, s_Letters_strayOf_30, s_Letters_strayOf_31, s_Letters_strayOf_32, s_Letters_strayOf_33, s_Letters_strayOf_35, s_Letters_strayOf_37, s_Letters_strayOf_38, s_Letters_strayOf_41, s_Letters_strayOf_44, s_Letters_strayOf_45, s_Letters_strayOf_47, s_Letters_strayOf_48, s_Letters_strayOf_49, s_Letters_strayOf_52, s_Letters_strayOf_55, s_Letters_strayOf_58, s_Letters_strayOf_60, s_Letters_strayOf_61, s_Letters_strayOf_64, s_Letters_strayOf_67, s_Letters_strayOf_69, zlt, zle, zeq, zclamp, zinc, zdec, zdi, zdr, zdl, zdn, zpi, zpn, if_true, if_false, ite_not, Bool.false_eq_true, ne_eq, not_true_eq_false, not_false_eq_true, true_and, and_true, Nat.add_assoc, Nat.reduceAdd, zlL_0, zlR_0, zeL_0, zeR_0, zqL_0, zcl_0, String_length, zift]
theorem Letters_firstStray (hW : WL σ ln L) (hL : Lok ln L) : Ev zshX 28 0 [some (.ref 22), none, none] [] σ Q = Q (some (.int (if ln = 0 then 0 else fstS ln L 96 0))) σ := by
  have hn : σ 22 1 = nI ln := hW.2.1
  have h96 := hW.1
  by_cases h0 : ln = 0
  · simp (disch := first | assumption | omega | decide | exact zin_d (by assumption) (by omega) (by omega) | (simp only [zb01]; done)) only [s_Letters_firstStray_0, s_Letters_firstStray_1, s_Letters_firstStray_4, s_Letters_firstStray_7, s_Letters_firstStray_8, s_Letters_firstStray_9, s_Letters_firstStray_10, s_Letters_firstStray_12, s_Letters_firstStray_13, s_Letters_firstStray_16, s_Letters_firstStray_19, s_Letters_firstStray_20, s_Letters_firstStray_21, s_Letters_firstStray_24, s_Letters_firstStray_25, s_Letters_firstStray_26, s_Letters_firstStray_28, s_Letters_firstStray_31, s_Letters_firstStray_32, s_Letters_firstStray_33, s_Letters_firstStray_34, s_Letters_firstStray_35, s_Letters_firstStray_36, s_Letters_firstStray_37, s_Letters_firstStray_40, s_Letters_firstStray_41, s_Letters_firstStray_42, s_Letters_firstStray_43, s_Letters_firstStray_46, s_Letters_firstStray_48, zlt, zle, zeq, zclamp, zinc, zdec, zdi, zdr, zdl, zdn, zpi, zpn, if_true, if_false, ite_not, Bool.false_eq_true, ne_eq, not_true_eq_false, not_false_eq_true, true_and, and_true, Nat.add_assoc, Nat.reduceAdd, zlL_0, zlR_0, zeL_0, zeR_0, zqL_0, zcl_0, hn, h0, ziff, zift]
  · have key : ∀ (f s : Nat) (w : Option Value), ln ≤ s + f → s ≤ 110 → Ev zshX 28 11 [some (.ref 22), some (.int (nI s)), w] [] σ Q = Q (some (.int (fstS ln L f s))) σ := by
      intro f
      induction f with
      | zero =>
        intro s w h1 h2
        rw [s_Letters_firstStray_11]
        simp (disch := first | assumption | omega | decide | exact zin_d (by assumption) (by omega) (by omega) | (simp only [zb01]; done)) only [s_Letters_firstStray_0, s_Letters_firstStray_1, s_Letters_firstStray_4, s_Letters_firstStray_7, s_Letters_firstStray_8, s_Letters_firstStray_9, s_Letters_firstStray_10, s_Letters_firstStray_12, s_Letters_firstStray_13, s_Letters_firstStray_16, s_Letters_firstStray_19, s_Letters_firstStray_20, s_Letters_firstStray_21, s_Letters_firstStray_24, s_Letters_firstStray_25, s_Letters_firstStray_26, s_Letters_firstStray_28, s_Letters_firstStray_31, s_Letters_firstStray_32, s_Letters_firstStray_33, s_Letters_firstStray_34, s_Letters_firstStray_35, s_Letters_firstStray_36, s_Letters_firstStray_37, s_Letters_firstStray_40, s_Letters_firstStray_41, s_Letters_firstStray_42, s_Letters_firstStray_43, s_Letters_firstStray_46, s_Letters_firstStray_48, zlt, zle, zeq, zclamp, zinc, zdec, zdi, zdr, zdl, zdn, zpi, zpn, if_true, if_false, ite_not, Bool.false_eq_true, ne_eq, not_true_eq_false, not_false_eq_true, true_and, and_true, Nat.add_assoc, Nat.reduceAdd, hn, zift, fstS]
      | succ f ih =>
        intro s w h1 h2
        rw [s_Letters_firstStray_11, fstS]
        by_cases h3 : s < ln
        · have h6 := fln_le _ (Nat.le_succ_of_le (frm_le (lat ln L s)))
          rw [if_pos h3]
          by_cases h4 : strayS ln L s = -9
          · simp (disch := first | assumption | omega | decide | exact zin_d (by assumption) (by omega) (by omega) | (simp only [zb01]; done)) only [s_Letters_firstStray_0, s_Letters_firstStray_1, s_Letters_firstStray_4, s_Letters_firstStray_7, s_Letters_firstStray_8, s_Letters_firstStray_9, s_Letters_firstStray_10, s_Letters_firstStray_12, s_Letters_firstStray_13, s_Letters_firstStray_16, s_Letters_firstStray_19, s_Letters_firstStray_20, s_Letters_firstStray_21, s_Letters_firstStray_24, s_Letters_firstStray_25, s_Letters_firstStray_26, s_Letters_firstStray_28, s_Letters_firstStray_31, s_Letters_firstStray_32, s_Letters_firstStray_33, s_Letters_firstStray_34, s_Letters_firstStray_35, s_Letters_firstStray_36, s_Letters_firstStray_37, s_Letters_firstStray_40, s_Letters_firstStray_41, s_Letters_firstStray_42, s_Letters_firstStray_43, s_Letters_firstStray_46, s_Letters_firstStray_48, zlt, zle, zeq, zclamp, zinc, zdec, zdi, zdr, zdl, zdn, zpi, zpn, if_true, if_false, ite_not, Bool.false_eq_true, ne_eq, not_true_eq_false, not_false_eq_true, true_and, and_true, Nat.add_assoc, Nat.reduceAdd, hn, Letters_strayOf hW hL, h4, Letters_lengthBehind hW, zift, ziff]
            have ea : nI s + (1 + nI (fln (frm (lat ln L s)))) = nI (nxt ln L s) := by rw [show (1 : Int32) = nI 1 from rfl, nI_add, nI_add, nxt]
            rw [ea]
            exact ih _ _ (by rw [nxt]; omega) (by rw [nxt]; omega)
          · simp (disch := first | assumption | omega | decide | exact zin_d (by assumption) (by omega) (by omega) | (simp only [zb01]; done)) only [s_Letters_firstStray_0, s_Letters_firstStray_1, s_Letters_firstStray_4, s_Letters_firstStray_7, s_Letters_firstStray_8, s_Letters_firstStray_9, s_Letters_firstStray_10, s_Letters_firstStray_12, s_Letters_firstStray_13, s_Letters_firstStray_16, s_Letters_firstStray_19, s_Letters_firstStray_20, s_Letters_firstStray_21, s_Letters_firstStray_24, s_Letters_firstStray_25, s_Letters_firstStray_26, s_Letters_firstStray_28, s_Letters_firstStray_31, s_Letters_firstStray_32, s_Letters_firstStray_33, s_Letters_firstStray_34, s_Letters_firstStray_35, s_Letters_firstStray_36, s_Letters_firstStray_37, s_Letters_firstStray_40, s_Letters_firstStray_41, s_Letters_firstStray_42, s_Letters_firstStray_43, s_Letters_firstStray_46, s_Letters_firstStray_48, zlt, zle, zeq, zclamp, zinc, zdec, zdi, zdr, zdl, zdn, zpi, zpn, if_true, if_false, ite_not, Bool.false_eq_true, ne_eq, not_true_eq_false, not_false_eq_true, true_and, and_true, Nat.add_assoc, Nat.reduceAdd, hn, Letters_strayOf hW hL, zift, ziff]
        · rw [if_neg h3]
          simp (disch := first | assumption | omega | decide | exact zin_d (by assumption) (by omega) (by omega) | (simp only [zb01]; done)) only [s_Letters_firstStray_0, s_Letters_firstStray_1, s_Letters_firstStray_4, s_Letters_firstStray_7, s_Letters_firstStray_8, s_Letters_firstStray_9, s_Letters_firstStray_10, s_Letters_firstStray_12, s_Letters_firstStray_13, s_Letters_firstStray_16, s_Letters_firstStray_19, s_Letters_firstStray_20, s_Letters_firstStray_21, s_Letters_firstStray_24, s_Letters_firstStray_25, s_Letters_firstStray_26, s_Letters_firstStray_28, s_Letters_firstStray_31, s_Letters_firstStray_32, s_Letters_firstStray_33, s_Letters_firstStray_34, s_Letters_firstStray_35, s_Letters_firstStray_36, s_Letters_firstStray_37, s_Letters_firstStray_40, s_Letters_firstStray_41, s_Letters_firstStray_42, s_Letters_firstStray_43, s_Letters_firstStray_46, s_Letters_firstStray_48, zlt, zle, zeq, zclamp, zinc, zdec, zdi, zdr, zdl, zdn, zpi, zpn, if_true, if_false, ite_not, Bool.false_eq_true, ne_eq, not_true_eq_false, not_false_eq_true, true_and, and_true, Nat.add_assoc, Nat.reduceAdd, hn, zift]
    simp (disch := first | assumption | omega | decide | exact zin_d (by assumption) (by omega) (by omega) | (simp only [zb01]; done)) only [s_Letters_firstStray_0, s_Letters_firstStray_1, s_Letters_firstStray_4, s_Letters_firstStray_7, s_Letters_firstStray_8, s_Letters_firstStray_9, s_Letters_firstStray_10, s_Letters_firstStray_12, s_Letters_firstStray_13, s_Letters_firstStray_16, s_Letters_firstStray_19, s_Letters_firstStray_20, s_Letters_firstStray_21, s_Letters_firstStray_24, s_Letters_firstStray_25, s_Letters_firstStray_26, s_Letters_firstStray_28, s_Letters_firstStray_31, s_Letters_firstStray_32, s_Letters_firstStray_33, s_Letters_firstStray_34, s_Letters_firstStray_35, s_Letters_firstStray_36, s_Letters_firstStray_37, s_Letters_firstStray_40, s_Letters_firstStray_41, s_Letters_firstStray_42, s_Letters_firstStray_43, s_Letters_firstStray_46, s_Letters_firstStray_48, zlt, zle, zeq, zclamp, zinc, zdec, zdi, zdr, zdl, zdn, zpi, zpn, if_true, if_false, ite_not, Bool.false_eq_true, ne_eq, not_true_eq_false, not_false_eq_true, true_and, and_true, Nat.add_assoc, Nat.reduceAdd, zlL_0, zlR_0, zeL_0, zeR_0, zqL_0, zcl_0, hn, h0, ziff]
    exact key 96 0 none (by omega) (by omega)
theorem Letters_statements (hW : WL σ ln L) : Ev zshX 30 0 [some (.ref 22), none, none] [] σ Q = Q (some (.int (nI (cntS ln L 96 0)))) σ := by
  have hn : σ 22 1 = nI ln := hW.2.1
  have h96 := hW.1
  have key : ∀ (f s c : Nat), ln ≤ s + f → s ≤ 110 → Ev zshX 30 4 [some (.ref 22), some (.int (nI c)), some (.int (nI s))] [] σ Q = Q (some (.int (nI (c + cntS ln L f s)))) σ := by
    intro f
    induction f with
    | zero =>
      intro s c h1 h2
      rw [s_Letters_statements_4]
      simp (disch := first | assumption | omega | decide | exact zin_d (by assumption) (by omega) (by omega) | (simp only [zb01]; done)) only [s_Letters_statements_0, s_Letters_statements_1, s_Letters_statements_2, s_Letters_statements_3, s_Letters_statements_5, s_Letters_statements_6, s_Letters_statements_9, s_Letters_statements_12, s_Letters_statements_15, s_Letters_statements_16, s_Letters_statements_17, s_Letters_statements_18, s_Letters_statements_19, s_Letters_statements_22, s_Letters_statements_23, s_Letters_statements_24, s_Letters_statements_25, s_Letters_statements_28, s_Letters_statements_29, zlt, zle, zeq, zclamp, zinc, zdec, zdi, zdr, zdl, zdn, zpi, zpn, if_true, if_false, ite_not, Bool.false_eq_true, ne_eq, not_true_eq_false, not_false_eq_true, true_and, and_true, Nat.add_assoc, Nat.reduceAdd, hn, zift, cntS, Nat.add_zero]
    | succ f ih =>
      intro s c h1 h2
      rw [s_Letters_statements_4, cntS]
      by_cases h3 : s < ln
      · have h6 := fln_le _ (Nat.le_succ_of_le (frm_le (lat ln L s)))
        rw [if_pos h3]
        simp (disch := first | assumption | omega | decide | exact zin_d (by assumption) (by omega) (by omega) | (simp only [zb01]; done)) only [s_Letters_statements_0, s_Letters_statements_1, s_Letters_statements_2, s_Letters_statements_3, s_Letters_statements_5, s_Letters_statements_6, s_Letters_statements_9, s_Letters_statements_12, s_Letters_statements_15, s_Letters_statements_16, s_Letters_statements_17, s_Letters_statements_18, s_Letters_statements_19, s_Letters_statements_22, s_Letters_statements_23, s_Letters_statements_24, s_Letters_statements_25, s_Letters_statements_28, s_Letters_statements_29, zlt, zle, zeq, zclamp, zinc, zdec, zdi, zdr, zdl, zdn, zpi, zpn, if_true, if_false, ite_not, Bool.false_eq_true, ne_eq, not_true_eq_false, not_false_eq_true, true_and, and_true, Nat.add_assoc, Nat.reduceAdd, hn, Letters_lengthBehind hW, zift, ziff]
        have ea : nI s + (1 + nI (fln (frm (lat ln L s)))) = nI (nxt ln L s) := by rw [show (1 : Int32) = nI 1 from rfl, nI_add, nI_add, nxt]
        rw [ea, ih _ _ (by rw [nxt]; omega) (by rw [nxt]; omega), Nat.add_comm (cntS ln L f (nxt ln L s)) 1, ← Nat.add_assoc]
      · rw [if_neg h3]
        simp (disch := first | assumption | omega | decide | exact zin_d (by assumption) (by omega) (by omega) | (simp only [zb01]; done)) only [s_Letters_statements_0, s_Letters_statements_1, s_Letters_statements_2, s_Letters_statements_3, s_Letters_statements_5, s_Letters_statements_6, s_Letters_statements_9, s_Letters_statements_12, s_Letters_statements_15, s_Letters_statements_16, s_Letters_statements_17, s_Letters_statements_18, s_Letters_statements_19, s_Letters_statements_22, s_Letters_statements_23, s_Letters_statements_24, s_Letters_statements_25, s_Letters_statements_28, s_Letters_statements_29, zlt, zle, zeq, zclamp, zinc, zdec, zdi, zdr, zdl, zdn, zpi, zpn, if_true, if_false, ite_not, Bool.false_eq_true, ne_eq, not_true_eq_false, not_false_eq_true, true_and, and_true, Nat.add_assoc, Nat.reduceAdd, hn, zift, Nat.add_zero]
  simp (disch := first | assumption | omega | decide | exact zin_d (by assumption) (by omega) (by omega) | (simp only [zb01]; done)) only [s_Letters_statements_0, s_Letters_statements_1, s_Letters_statements_2, s_Letters_statements_3, s_Letters_statements_5, s_Letters_statements_6, s_Letters_statements_9, s_Letters_statements_12, s_Letters_statements_15, s_Letters_statements_16, s_Letters_statements_17, s_Letters_statements_18, s_Letters_statements_19, s_Letters_statements_22, s_Letters_statements_23, s_Letters_statements_24, s_Letters_statements_25, s_Letters_statements_28, s_Letters_statements_29, zlt, zle, zeq, zclamp, zinc, zdec, zdi, zdr, zdl, zdn, zpi, zpn, if_true, if_false, ite_not, Bool.false_eq_true, ne_eq, not_true_eq_false, not_false_eq_true, true_and, and_true, Nat.add_assoc, Nat.reduceAdd]
  rw [show (0 : Int32) = nI 0 from rfl, key 96 0 0 (by omega) (by omega), Nat.zero_add]
end
