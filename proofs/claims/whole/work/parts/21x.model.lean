section
variable {σ σ0 σ1 : zG} {Q : Option Value → zG → Prop} {x y z w b : Int32} {ln k s q j p n i : Nat} {L : SF} {T : Nat → Int32} {β : Bt}
theorem fln_pos : ∀ r, r ≤ 5 → r ≠ 5 → 2 ≤ fln r ∧ fch r (fln r - 1) = 59 := by decide
theorem stray_at (hs : s < 900) (h5 : frm (lat ln L s) ≠ 5) (hj : j < fln (frm (lat ln L s))) (hall : ∀ i, i < j → cj ln L (s + (1 + i)) (fch (frm (lat ln L s)) i)) (hn : ¬ cj ln L (s + (1 + j)) (fch (frm (lat ln L s)) j)) : strayS ln L s = nI (s + (1 + j)) := by
  have hle := fln_le _ (Nat.le_succ_of_le (frm_le (lat ln L s)))
  have hp := (fln_pos _ (frm_le _) h5).1
  have hz : strayZ ln L (frm (lat ln L s)) s = nI j := by
    rw [strayZ]
    exact zf_at _ 0 j (by omega) (by omega) hn (fun i _ hi z => z (hall i hi))
  rw [strayS, if_neg (by omega), hz, if_neg (nI_ne9 (by omega)), nI_add, Nat.add_assoc]
theorem stray_none (h5 : frm (lat ln L s) ≠ 5) (hall : ∀ i, i < fln (frm (lat ln L s)) → cj ln L (s + (1 + i)) (fch (frm (lat ln L s)) i)) : strayS ln L s = -9 := by
  have hp := (fln_pos _ (frm_le _) h5).1
  have hz : strayZ ln L (frm (lat ln L s)) s = -9 := by
    rw [strayZ]
    exact zf_no _ 0 (fun i _ hi z => z (hall i (by omega)))
  rw [strayS, if_neg (by omega), hz, if_pos rfl]
theorem stray_5 (h5 : frm (lat ln L s) = 5) : strayS ln L s = nI s := by
  rw [strayS, h5, if_pos (show fln 5 = 0 from rfl)]
theorem frm_five (h : frm b ≠ 5) : b = 115 ∨ b = 99 ∨ b = 109 ∨ b = 117 ∨ b = 100 := by
  by_cases b115 : b = 115
  · exact Or.inl b115
  by_cases b99 : b = 99
  · exact Or.inr (Or.inl b99)
  by_cases b109 : b = 109
  · exact Or.inr (Or.inr (Or.inl b109))
  by_cases b117 : b = 117
  · exact Or.inr (Or.inr (Or.inr (Or.inl b117)))
  by_cases b100 : b = 100
  · exact Or.inr (Or.inr (Or.inr (Or.inr b100)))
  exact absurd (frm_5 b115 b99 b109 b117 b100) h
theorem frm_none (h : frm b = 5) : ¬ b = 115 ∧ ¬ b = 99 ∧ ¬ b = 109 ∧ ¬ b = 117 ∧ ¬ b = 100 := by
  refine ⟨?_, ?_, ?_, ?_, ?_⟩ <;> (rintro rfl; exact absurd h (by decide))
theorem okF_59 {c : Int32} : (okF 59 c = true) = (c = 59) := by
  rw [okF, if_neg (by decide), if_neg (by decide), decide_eq_true_eq]
theorem M_statement (hL : Lok ln L) (hW : WLm σ ln L) (hat : σ 0 15 = nI s) (hst : σ 0 16 = nI k) (hs : s ≤ 110) (hk : k < 48) (hQ1 : strayS ln L s = -9 → s < ln → ∀ σ', RS σ σ' (tlv ln L s) k s (nxt ln L s) (nto (frm (lat ln L s))) (lat ln L s) → Q (some (.int 1)) σ') (hQ0 : ∀ q, q < 900 → (s < ln → strayS ln L s = nI q) → (¬ s < ln → q = s) → ∀ σ', (∀ c, c ≠ 0 → c ≠ 9 → c ≠ 10 → c ≠ 11 → σ' c = σ c) → (∀ i, i ≠ 15 → i ≠ 16 → σ' 0 i = σ 0 i) → σ' 0 15 = nI q → σ' 0 16 = nI k → Q (some (.int 0)) σ') : Ev zshM 176 0 [some (.ref 0), none] [] σ Q := by
  have z9 : zshM 9 = 100 + 48 := rfl
  have z10 : zshM 10 = 100 + 48 := rfl
  by_cases h5 : frm (lnw ln L s) = 5
  · obtain ⟨n1, n2, n3, n4, n5⟩ := frm_none h5
    simp (disch := first | assumption | omega | decide | exact zin_d (by assumption) (by omega) (by omega) | (simp only [zb01]; done)) only [s_M_statement_0, s_M_statement_1, s_M_statement_4, s_M_statement_5, s_M_statement_6, s_M_statement_8, s_M_statement_11, s_M_statement_12, s_M_statement_14, s_M_statement_17, s_M_statement_18, s_M_statement_20, s_M_statement_23, s_M_statement_24, s_M_statement_26, s_M_statement_29, s_M_statement_30, s_M_statement_32, s_M_statement_35, s_M_statement_36, s_M_statement_37, s_M_statement_38, s_M_statement_41, s_M_statement_42, s_M_statement_45, s_M_statement_46, s_M_statement_47, s_M_statement_48, s_M_statement_51, s_M_statement_52, s_M_statement_55, s_M_statement_56, s_M_statement_59, s_M_statement_60, s_M_statement_61, s_M_statement_62, s_M_statement_65, s_M_statement_66, s_M_statement_67, s_M_statement_70, s_M_statement_71, s_M_statement_72, s_M_statement_73, s_M_statement_74, s_M_statement_77, s_M_statement_78, s_M_statement_81, s_M_statement_84, s_M_statement_85, s_M_statement_88, s_M_statement_90, s_M_statement_93, s_M_statement_94, s_M_statement_95, s_M_statement_96, s_M_statement_97, s_M_statement_100, s_M_statement_101, s_M_statement_102, s_M_statement_105, s_M_statement_106, zlt, zle, zeq, zclamp, zinc, zdec, zdi, zdr, zdl, zdn, zpi, zpn, if_true, if_false, ite_not, Bool.false_eq_true, ne_eq, not_true_eq_false, not_false_eq_true, true_and, and_true, Nat.add_assoc, Nat.reduceAdd, M_letterNow hW hat, zift, ziff]
    refine hQ0 s (by omega) (fun h => ?_) (fun _ => rfl) σ (fun _ _ _ _ _ => rfl) (fun _ _ _ => rfl) hat hst
    rw [lnw_in h, ← lat_in (L := L) (q := s) h] at h5
    exact stray_5 h5
  · have hsl : s < ln := Decidable.byContradiction (fun h => h5 (by rw [lnw_no h]; rfl))
    have e : lnw ln L s = lat ln L s := by rw [lnw_in hsl, lat_in hsl]
    rw [e] at h5
    have to37 : Ev zshM 176 5 [some (.ref 0), some (.int (lat ln L s))] [] σ Q = Ev zshM 176 37 [some (.ref 0), some (.int (lat ln L s))] [] σ Q := by
      rcases frm_five h5 with h | h | h | h | h <;> (rw [h]; simp (disch := first | assumption | omega | decide | exact zin_d (by assumption) (by omega) (by omega) | (simp only [zb01]; done)) only [s_M_statement_5, s_M_statement_6, s_M_statement_8, s_M_statement_11, s_M_statement_12, s_M_statement_14, s_M_statement_17, s_M_statement_18, s_M_statement_20, s_M_statement_23, s_M_statement_24, s_M_statement_26, s_M_statement_29, s_M_statement_30, s_M_statement_32, s_M_statement_35, s_M_statement_36, zlt, zle, zeq, zclamp, zinc, zdec, zdi, zdr, zdl, zdn, zpi, zpn, if_true, if_false, ite_not, Bool.false_eq_true, ne_eq, not_true_eq_false, not_false_eq_true, true_and, and_true, Nat.add_assoc, Nat.reduceAdd, zift, ziff])
    simp (disch := first | assumption | omega | decide | exact zin_d (by assumption) (by omega) (by omega) | (simp only [zb01]; done)) only [s_M_statement_0, s_M_statement_1, s_M_statement_4, zlt, zle, zeq, zclamp, zinc, zdec, zdi, zdr, zdl, zdn, zpi, zpn, if_true, if_false, ite_not, Bool.false_eq_true, ne_eq, not_true_eq_false, not_false_eq_true, true_and, and_true, Nat.add_assoc, Nat.reduceAdd, M_letterNow hW hat, e]
    rw [to37]
    have e4 : (4 : Int32) * nI k = nI (4 * k) := by rw [show (4 : Int32) = nI 4 from rfl, pk_mul]
    simp (disch := first | assumption | omega | decide | exact zin_d (by assumption) (by omega) (by omega) | (simp only [zb01]; done)) only [s_M_statement_37, s_M_statement_38, s_M_statement_41, s_M_statement_42, s_M_statement_45, s_M_statement_46, s_M_statement_47, s_M_statement_48, s_M_statement_51, s_M_statement_52, s_M_statement_55, s_M_statement_56, s_M_statement_59, s_M_statement_60, s_M_statement_61, s_M_statement_62, s_M_statement_65, s_M_statement_66, s_M_statement_67, s_M_statement_70, s_M_statement_71, s_M_statement_72, s_M_statement_73, s_M_statement_74, s_M_statement_77, s_M_statement_78, zlt, zle, zeq, zclamp, zinc, zdec, zdi, zdr, zdl, zdn, zpi, zpn, if_true, if_false, ite_not, Bool.false_eq_true, ne_eq, not_true_eq_false, not_false_eq_true, true_and, and_true, Nat.add_assoc, Nat.reduceAdd, zup_ne, zup_self, pk_us, pk_un, hat, hst, e4]
    have hR0 : RS σ (zup (zup (zup σ 9 k (lat ln L s)) 10 k (nI s)) 0 15 (nI (s + 1))) (tlv ln L s) k s (s + 1) 0 (lat ln L s) := by
      refine ⟨fun c g0 g1 g2 g3 => ?_, fun i g1 g2 => ?_, ?_, ?_, fun i hi => absurd hi (Nat.not_lt_zero i), fun i hi => ?_, fun i hi => ?_, ?_, ?_⟩
      · simp (disch := first | assumption | omega | decide | exact zin_d (by assumption) (by omega) (by omega) | (simp only [zb01]; done)) only [zup_ne, zup_self, pk_us, pk_un]
      · simp (disch := first | assumption | omega | decide | exact zin_d (by assumption) (by omega) (by omega) | (simp only [zb01]; done)) only [zup_ne, zup_self, pk_us, pk_un]
      · simp (disch := first | assumption | omega | decide | exact zin_d (by assumption) (by omega) (by omega) | (simp only [zb01]; done)) only [zup_ne, zup_self, pk_us, pk_un]
      · simp (disch := first | assumption | omega | decide | exact zin_d (by assumption) (by omega) (by omega) | (simp only [zb01]; done)) only [zup_ne, zup_self, pk_us, pk_un]; exact hst
      · simp (disch := first | assumption | omega | decide | exact zin_d (by assumption) (by omega) (by omega) | (simp only [zb01]; done)) only [zup_ne, zup_self, pk_us, pk_un]
      · have hik : ¬ i = k := by omega
        simp (disch := first | assumption | omega | decide | exact zin_d (by assumption) (by omega) (by omega) | (simp only [zb01]; done)) only [zup_ne, zup_self, pk_us, pk_un, and_self]
      · simp (disch := first | assumption | omega | decide | exact zin_d (by assumption) (by omega) (by omega) | (simp only [zb01]; done)) only [zup_ne, zup_self, pk_us, pk_un]
      · simp (disch := first | assumption | omega | decide | exact zin_d (by assumption) (by omega) (by omega) | (simp only [zb01]; done)) only [zup_ne, zup_self, pk_us, pk_un]
    have hp := fln_pos _ (frm_le (lat ln L s)) h5
    have hle := fln_le _ (Nat.le_succ_of_le (frm_le (lat ln L s)))
    refine M_readsAll hL hW hR0 hs (by omega) rfl h5 (fun hall σ2 h2 => ?_) (fun j hj hall hn σ2 j' h2 => ?_)
    · have hat2 := h2.2.2.1
      have hW2 := h2.lt hW
      have key : cj ln L (s + fln (frm (lat ln L s))) 59 = (lnw ln L (s + fln (frm (lat ln L s))) = 59) := by
        rw [cj, okF_59]
        by_cases g : s + fln (frm (lat ln L s)) < ln
        · rw [lnw_in g, lat_in g]
          exact propext ⟨fun z => z.2, fun z => ⟨g, z⟩⟩
        · rw [lnw_no g]
          exact propext ⟨fun z => absurd z.1 g, fun z => absurd z (by decide)⟩
      by_cases hc : lnw ln L (s + fln (frm (lat ln L s))) = 59
      · simp (disch := first | assumption | omega | decide | exact zin_d (by assumption) (by omega) (by omega) | (simp only [zb01]; done)) only [s_M_statement_81, s_M_statement_84, s_M_statement_85, s_M_statement_88, s_M_statement_90, s_M_statement_93, s_M_statement_94, s_M_statement_95, s_M_statement_96, s_M_statement_97, s_M_statement_100, s_M_statement_101, s_M_statement_102, s_M_statement_105, s_M_statement_106, zlt, zle, zeq, zclamp, zinc, zdec, zdi, zdr, zdl, zdn, zpi, zpn, if_true, if_false, ite_not, Bool.false_eq_true, ne_eq, not_true_eq_false, not_false_eq_true, true_and, and_true, Nat.add_assoc, Nat.reduceAdd, M_letterNow hW2 hat2, hat2, zift, ziff]
        have hsn : strayS ln L s = -9 := by
          refine stray_none h5 (fun i hi => ?_)
          by_cases g : i + 1 < fln (frm (lat ln L s))
          · exact hall i g
          · have gi : i = fln (frm (lat ln L s)) - 1 := by omega
            have g2 : s + (1 + i) = s + fln (frm (lat ln L s)) := by omega
            rw [g2, gi, hp.2, key]
            exact hc
        refine hQ1 hsn hsl _ ?_
        have r := h2.at1
        rw [show nxt ln L s = s + fln (frm (lat ln L s)) + 1 by rw [nxt]; omega]
        exact r
      · simp (disch := first | assumption | omega | decide | exact zin_d (by assumption) (by omega) (by omega) | (simp only [zb01]; done)) only [s_M_statement_81, s_M_statement_84, s_M_statement_85, s_M_statement_88, s_M_statement_90, s_M_statement_93, s_M_statement_94, s_M_statement_95, s_M_statement_96, s_M_statement_97, s_M_statement_100, s_M_statement_101, s_M_statement_102, s_M_statement_105, s_M_statement_106, zlt, zle, zeq, zclamp, zinc, zdec, zdi, zdr, zdl, zdn, zpi, zpn, if_true, if_false, ite_not, Bool.false_eq_true, ne_eq, not_true_eq_false, not_false_eq_true, true_and, and_true, Nat.add_assoc, Nat.reduceAdd, M_letterNow hW2 hat2, zift, ziff]
        refine hQ0 (s + fln (frm (lat ln L s))) (by omega) (fun _ => ?_) (fun h => absurd hsl h) σ2 h2.1 h2.2.1 hat2 h2.2.2.2.1
        have r := stray_at (j := fln (frm (lat ln L s)) - 1) (by omega) h5 (by omega) (fun i hi => hall i (by omega)) (by rw [hp.2, show s + (1 + (fln (frm (lat ln L s)) - 1)) = s + fln (frm (lat ln L s)) by omega, key]; exact hc)
        rw [show s + (1 + (fln (frm (lat ln L s)) - 1)) = s + fln (frm (lat ln L s)) by omega] at r
        exact r
    · simp (disch := first | assumption | omega | decide | exact zin_d (by assumption) (by omega) (by omega) | (simp only [zb01]; done)) only [s_M_statement_81, s_M_statement_84, s_M_statement_85, s_M_statement_88, s_M_statement_90, s_M_statement_93, s_M_statement_94, s_M_statement_95, s_M_statement_96, s_M_statement_97, s_M_statement_100, s_M_statement_101, s_M_statement_102, s_M_statement_105, s_M_statement_106, zlt, zle, zeq, zclamp, zinc, zdec, zdi, zdr, zdl, zdn, zpi, zpn, if_true, if_false, ite_not, Bool.false_eq_true, ne_eq, not_true_eq_false, not_false_eq_true, true_and, and_true, Nat.add_assoc, Nat.reduceAdd, zift, ziff]
      exact hQ0 (s + (1 + j)) (by omega) (fun _ => stray_at (by omega) h5 (by omega) hall hn) (fun h => absurd hsl h) σ2 h2.1 h2.2.1 h2.2.2.1 h2.2.2.2.1
theorem mas_d {d : Nat} (hd : d ≤ 9) : (nI d = 0 ∨ nI d = 1) = (d ≤ 1) := by
  rw [zqL_0 (by omega), zqL_1 (by omega)]
  exact propext ⟨fun h => by omega, fun h => by omega⟩
theorem M_comesMason {t1 t2 t3 : Int32} {d : Nat} (hp : p + 3 < 192) (e0 : σ 11 p = nI d) (e1 : σ 11 (p + 1) = t1) (e2 : σ 11 (p + 2) = t2) (e3 : σ 11 (p + 3) = t3) (hd : d ≤ 9) (hW : WMd σ β) (hQ1 : d ≤ 1 → ∀ σ', WMd σ' (if nI d = 1 then (β.1, β.2.1, (t1, t2, t3), β.2.2.2) else (β.1, (t1, t2, t3), β.2.2)) → frM σ σ' → Q (some (.int 1)) σ') (hQ0 : ¬ d ≤ 1 → Q (some (.int 0)) σ) : Ev zshM 177 0 [some (.ref 0), some (.int (nI p)), none] [] σ Q := by
  have z11 : zshM 11 = 100 + 192 := rfl
  have z5 : zshM 5 = 100 + 2 := rfl
  have z6 : zshM 6 = 100 + 2 := rfl
  have z7 : zshM 7 = 100 + 2 := rfl
  have f2 : nI p + 2 = nI (p + 2) := nI_add _ 2
  have f3 : nI p + 3 = nI (p + 3) := nI_add _ 3
  have l0 : p < 192 := by omega
  have l1 : p + 1 < 192 := by omega
  have l2 : p + 2 < 192 := by omega
  have hm := mas_d hd
  by_cases h : d ≤ 1
  · have hm' : nI d = 0 ∨ nI d = 1 := hm.mpr h
    have hd2 : d < 2 := by omega
    simp (disch := first | assumption | omega | decide | exact zin_d (by assumption) (by omega) (by omega) | (simp only [zb01]; done)) only [s_M_comesMason_0, s_M_comesMason_1, s_M_comesMason_4, s_M_comesMason_5, s_M_comesMason_6, s_M_comesMason_7, s_M_comesMason_8, s_M_comesMason_11, s_M_comesMason_14, s_M_comesMason_15, s_M_comesMason_16, s_M_comesMason_17, s_M_comesMason_20, s_M_comesMason_21, s_M_comesMason_22, s_M_comesMason_25, s_M_comesMason_26, s_M_comesMason_27, s_M_comesMason_28, s_M_comesMason_29, s_M_comesMason_30, s_M_comesMason_31, s_M_comesMason_34, s_M_comesMason_35, s_M_comesMason_36, s_M_comesMason_39, s_M_comesMason_40, s_M_comesMason_41, s_M_comesMason_42, s_M_comesMason_43, s_M_comesMason_44, s_M_comesMason_45, s_M_comesMason_48, s_M_comesMason_49, s_M_comesMason_50, s_M_comesMason_53, s_M_comesMason_54, s_M_comesMason_55, s_M_comesMason_56, s_M_comesMason_57, s_M_comesMason_58, s_M_comesMason_59, zlt, zle, zeq, zclamp, zinc, zdec, zdi, zdr, zdl, zdn, zpi, zpn, if_true, if_false, ite_not, Bool.false_eq_true, ne_eq, not_true_eq_false, not_false_eq_true, true_and, and_true, Nat.add_assoc, Nat.reduceAdd, zup_ne, zup_self, pk_us, pk_un, f2, f3, e0, e1, e2, e3, M_isMason, zift, ziff]
    have g1 := WMd_set hW (j := d) (k := 0) (by omega) (by omega) t1
    have g2 := WMd_set g1 (j := d) (k := 1) (by omega) (by omega) t2
    have g3 := WMd_set g2 (j := d) (k := 2) (by omega) (by omega) t3
    refine hQ1 h _ ?_ (((frM.z (by omega)).tr (frM.z (by omega))).tr (frM.z (by omega)))
    have ew : withM (withM (withM β (nI d) 0 t1) (nI d) 1 t2) (nI d) 2 t3 = if nI d = 1 then (β.1, β.2.1, (t1, t2, t3), β.2.2.2) else (β.1, (t1, t2, t3), β.2.2) := by
      rcases (show d = 0 ∨ d = 1 by omega) with rfl | rfl <;> rfl
    rw [← ew]
    exact g3
  · have hm' : ¬ (nI d = 0 ∨ nI d = 1) := fun z => h (hm.mp z)
    simp (disch := first | assumption | omega | decide | exact zin_d (by assumption) (by omega) (by omega) | (simp only [zb01]; done)) only [s_M_comesMason_0, s_M_comesMason_1, s_M_comesMason_4, s_M_comesMason_5, s_M_comesMason_6, s_M_comesMason_7, s_M_comesMason_8, s_M_comesMason_11, s_M_comesMason_14, s_M_comesMason_15, s_M_comesMason_16, s_M_comesMason_17, s_M_comesMason_20, s_M_comesMason_21, s_M_comesMason_22, s_M_comesMason_25, s_M_comesMason_26, s_M_comesMason_27, s_M_comesMason_28, s_M_comesMason_29, s_M_comesMason_30, s_M_comesMason_31, s_M_comesMason_34, s_M_comesMason_35, s_M_comesMason_36, s_M_comesMason_39, s_M_comesMason_40, s_M_comesMason_41, s_M_comesMason_42, s_M_comesMason_43, s_M_comesMason_44, s_M_comesMason_45, s_M_comesMason_48, s_M_comesMason_49, s_M_comesMason_50, s_M_comesMason_53, s_M_comesMason_54, s_M_comesMason_55, s_M_comesMason_56, s_M_comesMason_57, s_M_comesMason_58, s_M_comesMason_59, zlt, zle, zeq, zclamp, zinc, zdec, zdi, zdr, zdl, zdn, zpi, zpn, if_true, if_false, ite_not, Bool.false_eq_true, ne_eq, not_true_eq_false, not_false_eq_true, true_and, and_true, Nat.add_assoc, Nat.reduceAdd, e0, M_isMason, zift, ziff]
    exact hQ0 h
theorem btw_nat {v a c : Nat} (hv : v < 2147483648) (ha : a < 2147483648) (hc : c < 2147483648) : (btw (nI v) (nI a) (nI c) = true) = (a ≤ v ∧ v ≤ c) := by
  rw [btw_eq, zle ha hv, zle hv hc]
theorem M_comesDays {d n : Nat} (hn : n ≤ 99) (hd9 : d ≤ 999) (hW : WMd σ β) (hB : Bok β) (ed : β.2.2.2.2 = nI d) (hQ1 : ((1 ≤ n ∧ n ≤ 60) ∧ d + n ≤ 999) → ∀ σ', WMd σ' (daysS n β) → frM σ σ' → Q (some (.int 1)) σ') (hQ0 : ¬ ((1 ≤ n ∧ n ≤ 60) ∧ d + n ≤ 999) → Q (some (.int 0)) σ) : Ev zshM 178 0 [some (.ref 0), some (.int (nI n))] [] σ Q := by
  have hd4 : σ 0 9 = nI d := by rw [← ed]; exact hW.2.2.2.2
  have ea : nI d + nI n = nI (d + n) := nI_add d n
  have hb : (btw (nI n) 1 60 = true) = (1 ≤ n ∧ n ≤ 60) := btw_nat (a := 1) (c := 60) (by omega) (by omega) (by omega)
  by_cases h1 : 1 ≤ n ∧ n ≤ 60
  · have h1' : btw (nI n) 1 60 = true := hb.mpr h1
    by_cases h2 : d + n ≤ 999
    · simp (disch := first | assumption | omega | decide | exact zin_d (by assumption) (by omega) (by omega) | (simp only [zb01]; done)) only [s_M_comesDays_0, s_M_comesDays_1, s_M_comesDays_2, s_M_comesDays_4, s_M_comesDays_7, s_M_comesDays_10, s_M_comesDays_11, s_M_comesDays_14, s_M_comesDays_15, s_M_comesDays_16, s_M_comesDays_19, s_M_comesDays_22, s_M_comesDays_23, s_M_comesDays_24, s_M_comesDays_25, s_M_comesDays_26, s_M_comesDays_29, s_M_comesDays_30, zlt, zle, zeq, zclamp, zinc, zdec, zdi, zdr, zdl, zdn, zpi, zpn, if_true, if_false, ite_not, Bool.false_eq_true, ne_eq, not_true_eq_false, not_false_eq_true, true_and, and_true, Nat.add_assoc, Nat.reduceAdd, zlL_999, zlR_999, zeL_999, zeR_999, zqL_999, zcl_999, M_isIn, hd4, ea, zift, ziff]
      refine M_goes hW hB (by omega) (fun σ1 g1 f1 => ?_)
      simp (disch := first | assumption | omega | decide | exact zin_d (by assumption) (by omega) (by omega) | (simp only [zb01]; done)) only [s_M_comesDays_0, s_M_comesDays_1, s_M_comesDays_2, s_M_comesDays_4, s_M_comesDays_7, s_M_comesDays_10, s_M_comesDays_11, s_M_comesDays_14, s_M_comesDays_15, s_M_comesDays_16, s_M_comesDays_19, s_M_comesDays_22, s_M_comesDays_23, s_M_comesDays_24, s_M_comesDays_25, s_M_comesDays_26, s_M_comesDays_29, s_M_comesDays_30, zlt, zle, zeq, zclamp, zinc, zdec, zdi, zdr, zdl, zdn, zpi, zpn, if_true, if_false, ite_not, Bool.false_eq_true, ne_eq, not_true_eq_false, not_false_eq_true, true_and, and_true, Nat.add_assoc, Nat.reduceAdd]
      exact hQ1 ⟨h1, h2⟩ σ1 g1 f1
    · simp (disch := first | assumption | omega | decide | exact zin_d (by assumption) (by omega) (by omega) | (simp only [zb01]; done)) only [s_M_comesDays_0, s_M_comesDays_1, s_M_comesDays_2, s_M_comesDays_4, s_M_comesDays_7, s_M_comesDays_10, s_M_comesDays_11, s_M_comesDays_14, s_M_comesDays_15, s_M_comesDays_16, s_M_comesDays_19, s_M_comesDays_22, s_M_comesDays_23, s_M_comesDays_24, s_M_comesDays_25, s_M_comesDays_26, s_M_comesDays_29, s_M_comesDays_30, zlt, zle, zeq, zclamp, zinc, zdec, zdi, zdr, zdl, zdn, zpi, zpn, if_true, if_false, ite_not, Bool.false_eq_true, ne_eq, not_true_eq_false, not_false_eq_true, true_and, and_true, Nat.add_assoc, Nat.reduceAdd, zlL_999, zlR_999, zeL_999, zeR_999, zqL_999, zcl_999, M_isIn, hd4, ea, zift, ziff]
      exact hQ0 (fun z => h2 z.2)
  · have h1' : ¬ btw (nI n) 1 60 = true := fun z => h1 (hb.mp z)
    simp (disch := first | assumption | omega | decide | exact zin_d (by assumption) (by omega) (by omega) | (simp only [zb01]; done)) only [s_M_comesDays_0, s_M_comesDays_1, s_M_comesDays_2, s_M_comesDays_4, s_M_comesDays_7, s_M_comesDays_10, s_M_comesDays_11, s_M_comesDays_14, s_M_comesDays_15, s_M_comesDays_16, s_M_comesDays_19, s_M_comesDays_22, s_M_comesDays_23, s_M_comesDays_24, s_M_comesDays_25, s_M_comesDays_26, s_M_comesDays_29, s_M_comesDays_30, zlt, zle, zeq, zclamp, zinc, zdec, zdi, zdr, zdl, zdn, zpi, zpn, if_true, if_false, ite_not, Bool.false_eq_true, ne_eq, not_true_eq_false, not_false_eq_true, true_and, and_true, Nat.add_assoc, Nat.reduceAdd, M_isIn, zift, ziff]
    exact hQ0 (fun z => h1 z.1)
end
