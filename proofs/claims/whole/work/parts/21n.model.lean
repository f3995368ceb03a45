theorem upd_back {K : SF} {i : Nat} {x : Int32} : upd (upd K i x) i (K i) = K := by
  funext j
  by_cases e : j = i
  · subst e; rw [pk_us]
  · rw [pk_un e, pk_un e]
section
variable {σ : zG} {Q : Option Value → zG → Prop} {a : At} {x y z m w v o k f : Int32} {β : Bt} {i j n : Nat} {K F L : SF}
theorem WK_k (h : WK σ n K F L) : WK (zup σ 2 i k) n (upd K i k) F L := by
  refine ⟨h.1, by simp (disch := first | assumption | omega | decide | exact zin_d (by assumption) (by omega) (by omega) | (simp only [zb01]; done)) only [zup_ne, zup_self, pk_us, pk_un]; exact h.2.1, fun j hj => ?_⟩
  simp (disch := first | assumption | omega | decide | exact zin_d (by assumption) (by omega) (by omega) | (simp only [zb01]; done)) only [zup_ne, zup_self, pk_us, pk_un]
  by_cases e : j = i
  · subst e; simp only [pk_us, true_and]; exact (h.2.2 j hj).2
  · simp only [pk_un e]; exact h.2.2 j hj
theorem WK_f (h : WK σ n K F L) : WK (zup σ 3 i k) n K (upd F i k) L := by
  refine ⟨h.1, by simp (disch := first | assumption | omega | decide | exact zin_d (by assumption) (by omega) (by omega) | (simp only [zb01]; done)) only [zup_ne, zup_self, pk_us, pk_un]; exact h.2.1, fun j hj => ?_⟩
  simp (disch := first | assumption | omega | decide | exact zin_d (by assumption) (by omega) (by omega) | (simp only [zb01]; done)) only [zup_ne, zup_self, pk_us, pk_un]
  by_cases e : j = i
  · subst e; simp only [pk_us, true_and]; exact ⟨(h.2.2 j hj).1, (h.2.2 j hj).2.2⟩
  · simp only [pk_un e]; exact h.2.2 j hj
/-- other stones now -/
theorem WMd.setS {σ' : zG} (hW : WMd σ β) {S : Nat × SF × SF × SF} (hS : WK σ' S.1 S.2.1 S.2.2.1 S.2.2.2) (f : ∀ c, 5 ≤ c → c ≤ 7 → σ' c = σ c) (f0 : ∀ k, 8 ≤ k → k ≤ 9 → σ' 0 k = σ 0 k) : WMd σ' (S, β.2) := by
  obtain ⟨-, hm0, hm1, hq, hd⟩ := hW
  refine ⟨hS, ?_, ?_, ?_, ?_⟩
  · rw [f 5 (by omega) (by omega), f 6 (by omega) (by omega), f 7 (by omega) (by omega)]; exact hm0
  · rw [f 5 (by omega) (by omega), f 6 (by omega) (by omega), f 7 (by omega) (by omega)]; exact hm1
  · rw [f0 8 (by omega) (by omega)]; exact hq
  · rw [f0 9 (by omega) (by omega)]; exact hd
theorem bestK_in {n : Nat} {K F L : SF} {m : Int32} : ∀ k, (bestK n K F L m k).1 = -9 ∨ ∃ u, u < k ∧ (bestK n K F L m k).1 = nI u := by
  intro k
  induction k with
  | zero => exact Or.inl rfl
  | succ k ih =>
    rw [bestK]
    split
    · exact Or.inr ⟨k, by omega, rfl⟩
    · rcases ih with h | ⟨u, h1, h2⟩
      · exact Or.inl h
      · exact Or.inr ⟨u, by omega, h2⟩
theorem M_next (hR : WX σ a) (hQ : ∀ σ', WX σ' (c_next a m).2 → Q (some (.int (c_next a m).1)) σ') : Ev zshM 220 0 [some (.ref 0), some (.int m), none, none, none, none, none] [] σ Q := by
  have hok := hR.1.2.1
  have h12 := hok.1.1
  rw [c_next] at hQ
  by_cases hm : m = 0 ∨ m = 1
  · rw [if_pos hm] at hQ
    simp (disch := first | assumption | omega | decide | exact zin_d (by assumption) (by omega) (by omega) | (simp only [zb01]; done)) only [s_M_next_0, s_M_next_1, s_M_next_4, s_M_next_7, s_M_next_8, s_M_next_9, s_M_next_12, s_M_next_13, s_M_next_15, s_M_next_16, s_M_next_17, s_M_next_18, s_M_next_19, zlt, zle, zeq, zclamp, zinc, zdec, zdi, zdr, zdl, zdn, zpi, zpn, if_true, if_false, ite_not, Bool.false_eq_true, ne_eq, not_true_eq_false, not_false_eq_true, true_and, and_true, Nat.add_assoc, Nat.reduceAdd, M_isMason, zift, ziff]
    refine loopI (α := Option Value × Option Value) (N := 6) (fun z σ1 j => Ev zshM 220 21 [some (.ref 0), some (.int m), some (.int (bestK a.1.1.1 a.1.1.2.1 a.1.1.2.2.1 a.1.1.2.2.2 m j).1), some (.int (bestK a.1.1.1 a.1.1.2.1 a.1.1.2.2.1 a.1.1.2.2.2 m j).2), some (.int (nI j)), z.1, z.2] [] σ1 Q) (fun _ σ1 => WMd σ1 a.1 ∧ frT σ σ1) (fun z j σ1 hj hp kk => ?_) (fun z σ1 hp => ?_) 0 (none, none) σ (Nat.zero_le _) ⟨hR.1.1, frT.rf⟩
    · obtain ⟨q1, q2⟩ := hp
      have hn := q1.1.2.1
      rw [s_M_next_21]
      simp (disch := first | assumption | omega | decide | exact zin_d (by assumption) (by omega) (by omega) | (simp only [zb01]; done)) only [s_M_next_23, s_M_next_25, s_M_next_28, s_M_next_29, s_M_next_31, s_M_next_32, s_M_next_33, zlt, zle, zeq, zclamp, zinc, zdec, zdi, zdr, zdl, zdn, zpi, zpn, if_true, if_false, ite_not, Bool.false_eq_true, ne_eq, not_true_eq_false, not_false_eq_true, true_and, and_true, Nat.add_assoc, Nat.reduceAdd, zlL_6, zlR_6, zeL_6, zeR_6, zqL_6, zcl_6, ziff]
      rw [M_adds hn h12]
      have hK := WK_add (k := nI j) (f := 5) (m := m) q1.1 h12
      have f1 : frM σ1 (zup (zup (zup (zup σ1 2 a.1.1.1 (nI j)) 3 a.1.1.1 5) 4 a.1.1.1 m) 0 7 (nI (a.1.1.1 + 1))) := ((frM.z (by omega)).tr (frM.z (by omega))).tr ((frM.z (by omega)).tr (frM.z0 (by omega)))
      have hF : Fok (a.1.1.1 + 1) (upd a.1.1.2.2.1 a.1.1.1 5) := by
        intro i hi
        by_cases e : i = a.1.1.1
        · subst e; rw [pk_us]; exact ⟨5, by omega, rfl⟩
        · rw [pk_un e]; exact hok.1.F i (by omega)
      have hback : WMd (zup (zup (zup (zup (zup σ1 2 a.1.1.1 (nI j)) 3 a.1.1.1 5) 4 a.1.1.1 m) 0 7 (nI (a.1.1.1 + 1))) 0 7 (nI a.1.1.1)) a.1 := by
        refine WMd.setS (β := a.1) (S := a.1.1) q1 ⟨by omega, by simp (disch := first | assumption | omega | decide | exact zin_d (by assumption) (by omega) (by omega) | (simp only [zb01]; done)) only [zup_ne, zup_self, pk_us, pk_un], fun i hi => ?_⟩ (fun c _ _ => ?_) (fun c _ _ => ?_)
        · have hne : ¬ i = a.1.1.1 := by omega
          simp (disch := first | assumption | omega | decide | exact zin_d (by assumption) (by omega) (by omega) | (simp only [zb01]; done)) only [zup_ne, zup_self, pk_us, pk_un]
          exact q1.1.2.2 i hi
        · simp (disch := first | assumption | omega | decide | exact zin_d (by assumption) (by omega) (by omega) | (simp only [zb01]; done)) only [zup_ne, zup_self, pk_us, pk_un]
        · simp (disch := first | assumption | omega | decide | exact zin_d (by assumption) (by omega) (by omega) | (simp only [zb01]; done)) only [zup_ne, zup_self, pk_us, pk_un]
      generalize hσ : zup (zup (zup (zup σ1 2 a.1.1.1 (nI j)) 3 a.1.1.1 5) 4 a.1.1.1 m) 0 7 (nI (a.1.1.1 + 1)) = σ2 at *
      have hn2 := hK.2.1
      have fin : frT σ (zup σ2 0 7 (nI a.1.1.1)) := (q2.tr f1.T).tr (frM.z0 (by omega)).T
      by_cases h1 : iabs (lsum (upd a.1.1.2.1 a.1.1.1 (nI j)) (upd a.1.1.2.2.1 a.1.1.1 5) (a.1.1.1 + 1)) ≤ 6
      · have h1' := Int32.not_lt.mpr h1
        rcases bestK_in (n := a.1.1.1) (K := a.1.1.2.1) (F := a.1.1.2.2.1) (L := a.1.1.2.2.2) (m := m) j with h4 | ⟨u, hu, h4⟩
        · have e : bestK a.1.1.1 a.1.1.2.1 a.1.1.2.2.1 a.1.1.2.2.2 m (j + 1) = (nI j, lsp (a.1.1.1 + 1) (upd a.1.1.2.1 a.1.1.1 (nI j)) (upd a.1.1.2.2.1 a.1.1.1 5) (upd a.1.1.2.2.2 a.1.1.1 m)) := by rw [bestK, if_pos ⟨h1, Or.inl h4⟩]
          have kk2 := fun z => kk z _ ⟨hback, fin⟩
          rw [e] at kk2
          have e9 : (-9 : Int32) < 0 := by decide
          simp (disch := first | assumption | omega | decide | exact zin_d (by assumption) (by omega) (by omega) | (simp only [zb01]; done)) only [s_M_next_36, s_M_next_37, s_M_next_38, s_M_next_41, s_M_next_42, s_M_next_43, s_M_next_46, s_M_next_49, s_M_next_51, s_M_next_54, s_M_next_55, s_M_next_58, s_M_next_59, s_M_next_61, s_M_next_62, s_M_next_65, s_M_next_67, s_M_next_68, s_M_next_69, s_M_next_72, s_M_next_73, s_M_next_74, s_M_next_77, s_M_next_79, s_M_next_82, s_M_next_83, s_M_next_86, s_M_next_88, s_M_next_89, s_M_next_92, s_M_next_95, s_M_next_97, s_M_next_98, s_M_next_100, s_M_next_101, s_M_next_104, zlt, zle, zeq, zclamp, zinc, zdec, zdi, zdr, zdl, zdn, zpi, zpn, if_true, if_false, ite_not, Bool.false_eq_true, ne_eq, not_true_eq_false, not_false_eq_true, true_and, and_true, Nat.add_assoc, Nat.reduceAdd, hn2, Nat.add_sub_cancel, M_leanAt hK, M_size, M_spareNow hK hF, h4, zift, ziff]
          exact kk2 (_, _)
        · have pu : ¬ nI u < 0 := nI_pos (by omega)
          have n9 : nI u ≠ -9 := nI_ne9 (by omega)
          by_cases h5 : (bestK a.1.1.1 a.1.1.2.1 a.1.1.2.2.1 a.1.1.2.2.2 m j).2 < lsp (a.1.1.1 + 1) (upd a.1.1.2.1 a.1.1.1 (nI j)) (upd a.1.1.2.2.1 a.1.1.1 5) (upd a.1.1.2.2.2 a.1.1.1 m)
          · have h5' := Int32.not_le.mpr h5
            have e : bestK a.1.1.1 a.1.1.2.1 a.1.1.2.2.1 a.1.1.2.2.2 m (j + 1) = (nI j, lsp (a.1.1.1 + 1) (upd a.1.1.2.1 a.1.1.1 (nI j)) (upd a.1.1.2.2.1 a.1.1.1 5) (upd a.1.1.2.2.2 a.1.1.1 m)) := by rw [bestK, if_pos ⟨h1, Or.inr h5⟩]
            have kk2 := fun z => kk z _ ⟨hback, fin⟩
            rw [e] at kk2
            simp (disch := first | assumption | omega | decide | exact zin_d (by assumption) (by omega) (by omega) | (simp only [zb01]; done)) only [s_M_next_36, s_M_next_37, s_M_next_38, s_M_next_41, s_M_next_42, s_M_next_43, s_M_next_46, s_M_next_49, s_M_next_51, s_M_next_54, s_M_next_55, s_M_next_58, s_M_next_59, s_M_next_61, s_M_next_62, s_M_next_65, s_M_next_67, s_M_next_68, s_M_next_69, s_M_next_72, s_M_next_73, s_M_next_74, s_M_next_77, s_M_next_79, s_M_next_82, s_M_next_83, s_M_next_86, s_M_next_88, s_M_next_89, s_M_next_92, s_M_next_95, s_M_next_97, s_M_next_98, s_M_next_100, s_M_next_101, s_M_next_104, zlt, zle, zeq, zclamp, zinc, zdec, zdi, zdr, zdl, zdn, zpi, zpn, if_true, if_false, ite_not, Bool.false_eq_true, ne_eq, not_true_eq_false, not_false_eq_true, true_and, and_true, Nat.add_assoc, Nat.reduceAdd, hn2, Nat.add_sub_cancel, M_leanAt hK, M_size, M_spareNow hK hF, h4, zift, ziff]
            exact kk2 (_, _)
          · have h5' := Int32.not_lt.mp h5
            have e : bestK a.1.1.1 a.1.1.2.1 a.1.1.2.2.1 a.1.1.2.2.2 m (j + 1) = bestK a.1.1.1 a.1.1.2.1 a.1.1.2.2.1 a.1.1.2.2.2 m j := by rw [bestK, if_neg (fun z => z.2.elim (fun q => n9 (h4.symm.trans q)) h5)]
            have kk2 := fun z => kk z _ ⟨hback, fin⟩
            rw [e, h4] at kk2
            simp (disch := first | assumption | omega | decide | exact zin_d (by assumption) (by omega) (by omega) | (simp only [zb01]; done)) only [s_M_next_36, s_M_next_37, s_M_next_38, s_M_next_41, s_M_next_42, s_M_next_43, s_M_next_46, s_M_next_49, s_M_next_51, s_M_next_54, s_M_next_55, s_M_next_58, s_M_next_59, s_M_next_61, s_M_next_62, s_M_next_65, s_M_next_67, s_M_next_68, s_M_next_69, s_M_next_72, s_M_next_73, s_M_next_74, s_M_next_77, s_M_next_79, s_M_next_82, s_M_next_83, s_M_next_86, s_M_next_88, s_M_next_89, s_M_next_92, s_M_next_95, s_M_next_97, s_M_next_98, s_M_next_100, s_M_next_101, s_M_next_104, zlt, zle, zeq, zclamp, zinc, zdec, zdi, zdr, zdl, zdn, zpi, zpn, if_true, if_false, ite_not, Bool.false_eq_true, ne_eq, not_true_eq_false, not_false_eq_true, true_and, and_true, Nat.add_assoc, Nat.reduceAdd, hn2, Nat.add_sub_cancel, M_leanAt hK, M_size, M_spareNow hK hF, h4, zift, ziff]
            exact kk2 (_, _)
      · have h1' := Int32.not_le.mp h1
        have e : bestK a.1.1.1 a.1.1.2.1 a.1.1.2.2.1 a.1.1.2.2.2 m (j + 1) = bestK a.1.1.1 a.1.1.2.1 a.1.1.2.2.1 a.1.1.2.2.2 m j := by rw [bestK, if_neg (fun z => h1 z.1)]
        have kk2 := fun z => kk z _ ⟨hback, fin⟩
        rw [e] at kk2
        simp (disch := first | assumption | omega | decide | exact zin_d (by assumption) (by omega) (by omega) | (simp only [zb01]; done)) only [s_M_next_36, s_M_next_37, s_M_next_38, s_M_next_41, s_M_next_42, s_M_next_43, s_M_next_46, s_M_next_49, s_M_next_51, s_M_next_54, s_M_next_55, s_M_next_58, s_M_next_59, s_M_next_61, s_M_next_62, s_M_next_65, s_M_next_67, s_M_next_68, s_M_next_69, s_M_next_72, s_M_next_73, s_M_next_74, s_M_next_77, s_M_next_79, s_M_next_82, s_M_next_83, s_M_next_86, s_M_next_88, s_M_next_89, s_M_next_92, s_M_next_95, s_M_next_97, s_M_next_98, s_M_next_100, s_M_next_101, s_M_next_104, zlt, zle, zeq, zclamp, zinc, zdec, zdi, zdr, zdl, zdn, zpi, zpn, if_true, if_false, ite_not, Bool.false_eq_true, ne_eq, not_true_eq_false, not_false_eq_true, true_and, and_true, Nat.add_assoc, Nat.reduceAdd, hn2, Nat.add_sub_cancel, M_leanAt hK, M_size, M_spareNow hK hF, zift, ziff]
        exact kk2 (_, _)
    · rw [s_M_next_21]
      simp (disch := first | assumption | omega | decide | exact zin_d (by assumption) (by omega) (by omega) | (simp only [zb01]; done)) only [s_M_next_0, s_M_next_1, s_M_next_4, s_M_next_7, s_M_next_8, s_M_next_9, s_M_next_12, s_M_next_13, s_M_next_15, s_M_next_16, s_M_next_17, s_M_next_18, s_M_next_19, s_M_next_23, s_M_next_25, s_M_next_28, s_M_next_29, s_M_next_31, s_M_next_32, s_M_next_33, s_M_next_36, s_M_next_37, s_M_next_38, s_M_next_41, s_M_next_42, s_M_next_43, s_M_next_46, s_M_next_49, s_M_next_51, s_M_next_54, s_M_next_55, s_M_next_58, s_M_next_59, s_M_next_61, s_M_next_62, s_M_next_65, s_M_next_67, s_M_next_68, s_M_next_69, s_M_next_72, s_M_next_73, s_M_next_74, s_M_next_77, s_M_next_79, s_M_next_82, s_M_next_83, s_M_next_86, s_M_next_88, s_M_next_89, s_M_next_92, s_M_next_95, s_M_next_97, s_M_next_98, s_M_next_100, s_M_next_101, s_M_next_104, s_M_next_107, s_M_next_108, zlt, zle, zeq, zclamp, zinc, zdec, zdi, zdr, zdl, zdn, zpi, zpn, if_true, if_false, ite_not, Bool.false_eq_true, ne_eq, not_true_eq_false, not_false_eq_true, true_and, and_true, Nat.add_assoc, Nat.reduceAdd, zlL_6, zlR_6, zeL_6, zeR_6, zqL_6, zcl_6, zift]
      exact hQ σ1 (hR.T hp.1 hp.2)
  · rw [if_neg hm] at hQ
    simp (disch := first | assumption | omega | decide | exact zin_d (by assumption) (by omega) (by omega) | (simp only [zb01]; done)) only [s_M_next_0, s_M_next_1, s_M_next_4, s_M_next_7, s_M_next_8, s_M_next_9, s_M_next_12, s_M_next_13, s_M_next_15, s_M_next_16, s_M_next_17, s_M_next_18, s_M_next_19, s_M_next_23, s_M_next_25, s_M_next_28, s_M_next_29, s_M_next_31, s_M_next_32, s_M_next_33, s_M_next_36, s_M_next_37, s_M_next_38, s_M_next_41, s_M_next_42, s_M_next_43, s_M_next_46, s_M_next_49, s_M_next_51, s_M_next_54, s_M_next_55, s_M_next_58, s_M_next_59, s_M_next_61, s_M_next_62, s_M_next_65, s_M_next_67, s_M_next_68, s_M_next_69, s_M_next_72, s_M_next_73, s_M_next_74, s_M_next_77, s_M_next_79, s_M_next_82, s_M_next_83, s_M_next_86, s_M_next_88, s_M_next_89, s_M_next_92, s_M_next_95, s_M_next_97, s_M_next_98, s_M_next_100, s_M_next_101, s_M_next_104, s_M_next_107, s_M_next_108, zlt, zle, zeq, zclamp, zinc, zdec, zdi, zdr, zdl, zdn, zpi, zpn, if_true, if_false, ite_not, Bool.false_eq_true, ne_eq, not_true_eq_false, not_false_eq_true, true_and, and_true, Nat.add_assoc, Nat.reduceAdd, M_isMason, zift, ziff]
    refine M_no hR ref1 (fun σ' h => ?_)
    simp (disch := first | assumption | omega | decide | exact zin_d (by assumption) (by omega) (by omega) | (simp only [zb01]; done)) only [s_M_next_0, s_M_next_1, s_M_next_4, s_M_next_7, s_M_next_8, s_M_next_9, s_M_next_12, s_M_next_13, s_M_next_15, s_M_next_16, s_M_next_17, s_M_next_18, s_M_next_19, s_M_next_23, s_M_next_25, s_M_next_28, s_M_next_29, s_M_next_31, s_M_next_32, s_M_next_33, s_M_next_36, s_M_next_37, s_M_next_38, s_M_next_41, s_M_next_42, s_M_next_43, s_M_next_46, s_M_next_49, s_M_next_51, s_M_next_54, s_M_next_55, s_M_next_58, s_M_next_59, s_M_next_61, s_M_next_62, s_M_next_65, s_M_next_67, s_M_next_68, s_M_next_69, s_M_next_72, s_M_next_73, s_M_next_74, s_M_next_77, s_M_next_79, s_M_next_82, s_M_next_83, s_M_next_86, s_M_next_88, s_M_next_89, s_M_next_92, s_M_next_95, s_M_next_97, s_M_next_98, s_M_next_100, s_M_next_101, s_M_next_104, s_M_next_107, s_M_next_108, zlt, zle, zeq, zclamp, zinc, zdec, zdi, zdr, zdl, zdn, zpi, zpn, if_true, if_false, ite_not, Bool.false_eq_true, ne_eq, not_true_eq_false, not_false_eq_true, true_and, and_true, Nat.add_assoc, Nat.reduceAdd]
    exact hQ σ' h
theorem M_isMendedBy (hW : WMd σ β) (hB : Bok β) (hi : i < β.1.1) (hQ : ∀ σ', WMd σ' β → frT σ σ' → Q (some (.int (if stndB β.1.1 (upd β.1.2.1 i k) β.1.2.2.1 β.1.2.2.2 = true then 1 else 0))) σ') : Ev zshM 221 0 [some (.ref 0), some (.int (nI i)), some (.int k), none, none] [] σ Q := by
  have z2 : zshM 2 = 100 + 13 := rfl
  have h12 := hB.1.1
  have hi13 : i < 13 := by omega
  have eK := (hW.1.2.2 i hi).1
  have hK := WK_k (k := k) (i := i) hW.1
  have hb : WMd (zup (zup σ 2 i k) 2 i (β.1.2.1 i)) β := by
    refine WMd.setS (β := β) (S := β.1) hW ?_ (fun c _ _ => ?_) (fun c _ _ => ?_)
    · have h2 := WK_k (k := β.1.2.1 i) (i := i) hK
      rw [upd_back] at h2
      exact h2
    · simp (disch := first | assumption | omega | decide | exact zin_d (by assumption) (by omega) (by omega) | (simp only [zb01]; done)) only [zup_ne, zup_self, pk_us, pk_un]
    · simp (disch := first | assumption | omega | decide | exact zin_d (by assumption) (by omega) (by omega) | (simp only [zb01]; done)) only [zup_ne, zup_self, pk_us, pk_un]
  simp (disch := first | assumption | omega | decide | exact zin_d (by assumption) (by omega) (by omega) | (simp only [zb01]; done)) only [s_M_isMendedBy_0, s_M_isMendedBy_1, s_M_isMendedBy_4, s_M_isMendedBy_5, s_M_isMendedBy_6, s_M_isMendedBy_7, s_M_isMendedBy_8, s_M_isMendedBy_11, s_M_isMendedBy_12, s_M_isMendedBy_13, s_M_isMendedBy_14, s_M_isMendedBy_15, s_M_isMendedBy_18, s_M_isMendedBy_20, s_M_isMendedBy_21, s_M_isMendedBy_24, s_M_isMendedBy_25, s_M_isMendedBy_26, s_M_isMendedBy_27, s_M_isMendedBy_29, zlt, zle, zeq, zclamp, zinc, zdec, zdi, zdr, zdl, zdn, zpi, zpn, if_true, if_false, ite_not, Bool.false_eq_true, ne_eq, not_true_eq_false, not_false_eq_true, true_and, and_true, Nat.add_assoc, Nat.reduceAdd, eK, M_isUpright hK hB.1.F]
  exact hQ _ hb ((frM.z (by omega)).tr (frM.z (by omega))).T
theorem M_mend (hR : WX σ a) (hQ : ∀ σ', WX σ' (c_mend a).2 → Q (some (.int (c_mend a).1)) σ') : Ev zshM 222 0 [some (.ref 0), none, none] [] σ Q := by
  have hok := hR.1.2.1
  have h12 := hok.1.1
  dsimp only [c_mend] at hQ
  have hQ' := hQ
  rw [mendS] at hQ'
  by_cases hs : stndB a.1.1.1 a.1.1.2.1 a.1.1.2.2.1 a.1.1.2.2.2 = true
  · rw [if_pos hs] at hQ'
    simp (disch := first | assumption | omega | decide | exact zin_d (by assumption) (by omega) (by omega) | (simp only [zb01]; done)) only [s_M_mend_0, s_M_mend_1, s_M_mend_4, s_M_mend_7, s_M_mend_9, s_M_mend_10, s_M_mend_11, s_M_mend_13, s_M_mend_14, s_M_mend_17, s_M_mend_20, s_M_mend_21, s_M_mend_23, s_M_mend_25, s_M_mend_28, s_M_mend_29, s_M_mend_30, s_M_mend_31, s_M_mend_34, s_M_mend_37, s_M_mend_39, s_M_mend_40, s_M_mend_41, s_M_mend_42, s_M_mend_43, s_M_mend_44, s_M_mend_47, s_M_mend_50, s_M_mend_53, s_M_mend_56, s_M_mend_58, zlt, zle, zeq, zclamp, zinc, zdec, zdi, zdr, zdl, zdn, zpi, zpn, if_true, if_false, ite_not, Bool.false_eq_true, ne_eq, not_true_eq_false, not_false_eq_true, true_and, and_true, Nat.add_assoc, Nat.reduceAdd, M_isUpright hR.1.1.1 hok.1.F, zift, ziff]
    exact hQ' σ hR
  · rw [if_neg hs] at hQ'
    simp (disch := first | assumption | omega | decide | exact zin_d (by assumption) (by omega) (by omega) | (simp only [zb01]; done)) only [s_M_mend_0, s_M_mend_1, s_M_mend_4, s_M_mend_7, s_M_mend_9, s_M_mend_10, s_M_mend_11, s_M_mend_13, s_M_mend_14, s_M_mend_17, s_M_mend_20, s_M_mend_21, s_M_mend_23, s_M_mend_25, s_M_mend_28, s_M_mend_29, s_M_mend_30, s_M_mend_31, s_M_mend_34, s_M_mend_37, s_M_mend_39, s_M_mend_40, s_M_mend_41, s_M_mend_42, s_M_mend_43, s_M_mend_44, s_M_mend_47, s_M_mend_50, s_M_mend_53, s_M_mend_56, s_M_mend_58, zlt, zle, zeq, zclamp, zinc, zdec, zdi, zdr, zdl, zdn, zpi, zpn, if_true, if_false, ite_not, Bool.false_eq_true, ne_eq, not_true_eq_false, not_false_eq_true, true_and, and_true, Nat.add_assoc, Nat.reduceAdd, M_isUpright hR.1.1.1 hok.1.F, zift, ziff]
    refine loopI (α := Option Value) (N := a.1.1.1) (fun o2 σ1 s => Ev zshM 222 12 [some (.ref 0), some (.int (nI s)), o2] [] σ1 Q) (fun s σ1 => WMd σ1 a.1 ∧ frT σ σ1 ∧ zg (mendG a.1.1.1 a.1.1.2.1 a.1.1.2.2.1 a.1.1.2.2.2) 0 a.1.1.1 = zg (mendG a.1.1.1 a.1.1.2.1 a.1.1.2.2.1 a.1.1.2.2.2) s (a.1.1.1 - s)) (fun o2 s σ1 hs1 hp kk => ?_) (fun o2 σ1 hp => ?_) 0 none σ (Nat.zero_le _) ⟨hR.1.1, frT.rf, rfl⟩
    · obtain ⟨q1, q2, q3⟩ := hp
      have hn := q1.1.2.1
      rw [show a.1.1.1 - s = (a.1.1.1 - (s + 1)) + 1 by omega, zg] at q3
      rw [s_M_mend_12]
      simp (disch := first | assumption | omega | decide | exact zin_d (by assumption) (by omega) (by omega) | (simp only [zb01]; done)) only [s_M_mend_0, s_M_mend_1, s_M_mend_4, s_M_mend_7, s_M_mend_9, s_M_mend_10, s_M_mend_11, s_M_mend_13, s_M_mend_14, s_M_mend_17, s_M_mend_20, s_M_mend_21, s_M_mend_23, s_M_mend_25, s_M_mend_28, s_M_mend_29, s_M_mend_30, s_M_mend_31, s_M_mend_34, s_M_mend_37, s_M_mend_39, s_M_mend_40, s_M_mend_41, s_M_mend_42, s_M_mend_43, s_M_mend_44, s_M_mend_47, s_M_mend_50, s_M_mend_53, s_M_mend_56, s_M_mend_58, zlt, zle, zeq, zclamp, zinc, zdec, zdi, zdr, zdl, zdn, zpi, zpn, if_true, if_false, ite_not, Bool.false_eq_true, ne_eq, not_true_eq_false, not_false_eq_true, true_and, and_true, Nat.add_assoc, Nat.reduceAdd, hn, ziff]
      refine loopI (α := Unit) (N := 6) (fun _ σ2 t => Ev zshM 222 22 [some (.ref 0), some (.int (nI s)), some (.int (nI t))] [] σ2 Q) (fun t σ2 => WMd σ2 a.1 ∧ frT σ σ2 ∧ mendI a.1.1.1 a.1.1.2.1 a.1.1.2.2.1 a.1.1.2.2.2 s = zf (fun k => stndB a.1.1.1 (upd a.1.1.2.1 s (nI k)) a.1.1.2.2.1 a.1.1.2.2.2 = true) t (6 - t)) (fun _ t σ2 ht hp2 kk2 => ?_) (fun _ σ2 hp2 => ?_) 0 () σ1 (Nat.zero_le _) ⟨q1, q2, rfl⟩
      · obtain ⟨r1, r2, r3⟩ := hp2
        rw [show 6 - t = (6 - (t + 1)) + 1 by omega, zf] at r3
        rw [s_M_mend_22]
        simp (disch := first | assumption | omega | decide | exact zin_d (by assumption) (by omega) (by omega) | (simp only [zb01]; done)) only [s_M_mend_0, s_M_mend_1, s_M_mend_4, s_M_mend_7, s_M_mend_9, s_M_mend_10, s_M_mend_11, s_M_mend_13, s_M_mend_14, s_M_mend_17, s_M_mend_20, s_M_mend_21, s_M_mend_23, s_M_mend_25, s_M_mend_28, s_M_mend_29, s_M_mend_30, s_M_mend_31, s_M_mend_34, s_M_mend_37, s_M_mend_39, s_M_mend_40, s_M_mend_41, s_M_mend_42, s_M_mend_43, s_M_mend_44, s_M_mend_47, s_M_mend_50, s_M_mend_53, s_M_mend_56, s_M_mend_58, zlt, zle, zeq, zclamp, zinc, zdec, zdi, zdr, zdl, zdn, zpi, zpn, if_true, if_false, ite_not, Bool.false_eq_true, ne_eq, not_true_eq_false, not_false_eq_true, true_and, and_true, Nat.add_assoc, Nat.reduceAdd, zlL_6, zlR_6, zeL_6, zeR_6, zqL_6, zcl_6, ziff]
        refine M_isMendedBy r1 hok hs1 (fun σ3 h3 f3 => ?_)
        by_cases h : stndB a.1.1.1 (upd a.1.1.2.1 s (nI t)) a.1.1.2.2.1 a.1.1.2.2.2 = true
        · rw [if_pos h] at r3
          have e10 : (10 : Int32) * nI s + nI t = nI (10 * s + t) := by rw [show (10 : Int32) = nI 10 from rfl, pk_mul, nI_add]
          have n9 : nI t ≠ -9 := nI_ne9 (by omega)
          have eG : mendG a.1.1.1 a.1.1.2.1 a.1.1.2.2.1 a.1.1.2.2.2 s = nI (10 * s + t) := by rw [mendG, r3, if_neg n9, e10]
          have n9' : nI (10 * s + t) ≠ -9 := nI_ne9 (by omega)
          rw [eG, if_neg n9'] at q3
          simp (disch := first | assumption | omega | decide | exact zin_d (by assumption) (by omega) (by omega) | (simp only [zb01]; done)) only [s_M_mend_0, s_M_mend_1, s_M_mend_4, s_M_mend_7, s_M_mend_9, s_M_mend_10, s_M_mend_11, s_M_mend_13, s_M_mend_14, s_M_mend_17, s_M_mend_20, s_M_mend_21, s_M_mend_23, s_M_mend_25, s_M_mend_28, s_M_mend_29, s_M_mend_30, s_M_mend_31, s_M_mend_34, s_M_mend_37, s_M_mend_39, s_M_mend_40, s_M_mend_41, s_M_mend_42, s_M_mend_43, s_M_mend_44, s_M_mend_47, s_M_mend_50, s_M_mend_53, s_M_mend_56, s_M_mend_58, zlt, zle, zeq, zclamp, zinc, zdec, zdi, zdr, zdl, zdn, zpi, zpn, if_true, if_false, ite_not, Bool.false_eq_true, ne_eq, not_true_eq_false, not_false_eq_true, true_and, and_true, Nat.add_assoc, Nat.reduceAdd, h, e10, ziff, zift]
          rw [← q3]
          exact hQ' σ3 (hR.T h3 (r2.tr f3))
        · rw [if_neg h] at r3
          simp (disch := first | assumption | omega | decide | exact zin_d (by assumption) (by omega) (by omega) | (simp only [zb01]; done)) only [s_M_mend_0, s_M_mend_1, s_M_mend_4, s_M_mend_7, s_M_mend_9, s_M_mend_10, s_M_mend_11, s_M_mend_13, s_M_mend_14, s_M_mend_17, s_M_mend_20, s_M_mend_21, s_M_mend_23, s_M_mend_25, s_M_mend_28, s_M_mend_29, s_M_mend_30, s_M_mend_31, s_M_mend_34, s_M_mend_37, s_M_mend_39, s_M_mend_40, s_M_mend_41, s_M_mend_42, s_M_mend_43, s_M_mend_44, s_M_mend_47, s_M_mend_50, s_M_mend_53, s_M_mend_56, s_M_mend_58, zlt, zle, zeq, zclamp, zinc, zdec, zdi, zdr, zdl, zdn, zpi, zpn, if_true, if_false, ite_not, Bool.false_eq_true, ne_eq, not_true_eq_false, not_false_eq_true, true_and, and_true, Nat.add_assoc, Nat.reduceAdd, h, ziff, zift]
          exact kk2 () σ3 ⟨h3, r2.tr f3, r3⟩
      · obtain ⟨r1, r2, r3⟩ := hp2
        have eI : mendI a.1.1.1 a.1.1.2.1 a.1.1.2.2.1 a.1.1.2.2.2 s = -9 := r3
        have eG : mendG a.1.1.1 a.1.1.2.1 a.1.1.2.2.1 a.1.1.2.2.2 s = -9 := by rw [mendG, if_pos eI]
        rw [if_pos eG] at q3
        rw [s_M_mend_22]
        simp (disch := first | assumption | omega | decide | exact zin_d (by assumption) (by omega) (by omega) | (simp only [zb01]; done)) only [s_M_mend_0, s_M_mend_1, s_M_mend_4, s_M_mend_7, s_M_mend_9, s_M_mend_10, s_M_mend_11, s_M_mend_13, s_M_mend_14, s_M_mend_17, s_M_mend_20, s_M_mend_21, s_M_mend_23, s_M_mend_25, s_M_mend_28, s_M_mend_29, s_M_mend_30, s_M_mend_31, s_M_mend_34, s_M_mend_37, s_M_mend_39, s_M_mend_40, s_M_mend_41, s_M_mend_42, s_M_mend_43, s_M_mend_44, s_M_mend_47, s_M_mend_50, s_M_mend_53, s_M_mend_56, s_M_mend_58, zlt, zle, zeq, zclamp, zinc, zdec, zdi, zdr, zdl, zdn, zpi, zpn, if_true, if_false, ite_not, Bool.false_eq_true, ne_eq, not_true_eq_false, not_false_eq_true, true_and, and_true, Nat.add_assoc, Nat.reduceAdd, zlL_6, zlR_6, zeL_6, zeR_6, zqL_6, zcl_6, zift]
        exact kk _ σ2 ⟨r1, r2, q3⟩
    · obtain ⟨q1, q2, q3⟩ := hp
      have hn := q1.1.2.1
      have e9 : zg (mendG a.1.1.1 a.1.1.2.1 a.1.1.2.2.1 a.1.1.2.2.2) 0 a.1.1.1 = -9 := by rw [q3, Nat.sub_self]; rfl
      rw [e9] at hQ'
      rw [s_M_mend_12]
      simp (disch := first | assumption | omega | decide | exact zin_d (by assumption) (by omega) (by omega) | (simp only [zb01]; done)) only [s_M_mend_0, s_M_mend_1, s_M_mend_4, s_M_mend_7, s_M_mend_9, s_M_mend_10, s_M_mend_11, s_M_mend_13, s_M_mend_14, s_M_mend_17, s_M_mend_20, s_M_mend_21, s_M_mend_23, s_M_mend_25, s_M_mend_28, s_M_mend_29, s_M_mend_30, s_M_mend_31, s_M_mend_34, s_M_mend_37, s_M_mend_39, s_M_mend_40, s_M_mend_41, s_M_mend_42, s_M_mend_43, s_M_mend_44, s_M_mend_47, s_M_mend_50, s_M_mend_53, s_M_mend_56, s_M_mend_58, zlt, zle, zeq, zclamp, zinc, zdec, zdi, zdr, zdl, zdn, zpi, zpn, if_true, if_false, ite_not, Bool.false_eq_true, ne_eq, not_true_eq_false, not_false_eq_true, true_and, and_true, Nat.add_assoc, Nat.reduceAdd, hn, zift]
      exact hQ' σ1 (hR.T q1 q2)
theorem M_take (hR : WX σ a) (hQ : ∀ σ', WX σ' (c_take a).2 → Q (some (.int (c_take a).1)) σ') : Ev zshM 225 0 [some (.ref 0), none, none] [] σ Q := by
  have hok := hR.1.2.1
  have h12 := hok.1.1
  dsimp only [c_take] at hQ
  have hQ' := hQ
  have hn0 := hR.1.1.1.2.1
  have fin : ∀ σ1 (v : Nat) , (∀ k, k ≠ 7 → σ1 0 k = σ 0 k) → (∀ c, c ≠ 0 → σ1 c = σ c) → takS a.1.1.1 a.1.1.2.1 a.1.1.2.2.1 a.1.1.2.2.2 = nI v → Ev zshM 225 30 [some (.ref 0), some (.int (nI a.1.1.1)), some (.int (nI v))] [] σ1 Q := by
    intro σ1 v g0 g1 e
    rw [e] at hQ'
    simp (disch := first | assumption | omega | decide | exact zin_d (by assumption) (by omega) (by omega) | (simp only [zb01]; done)) only [s_M_take_0, s_M_take_1, s_M_take_4, s_M_take_5, s_M_take_6, s_M_take_8, s_M_take_11, s_M_take_14, s_M_take_15, s_M_take_16, s_M_take_19, s_M_take_20, s_M_take_21, s_M_take_24, s_M_take_27, s_M_take_30, s_M_take_31, s_M_take_32, s_M_take_35, s_M_take_36, zlt, zle, zeq, zclamp, zinc, zdec, zdi, zdr, zdl, zdn, zpi, zpn, if_true, if_false, ite_not, Bool.false_eq_true, ne_eq, not_true_eq_false, not_false_eq_true, true_and, and_true, Nat.add_assoc, Nat.reduceAdd]
    have f0 : ∀ k, zup σ1 0 7 (nI a.1.1.1) 0 k = σ 0 k := by
      intro k
      rw [zup_self]
      by_cases h7 : k = 7
      · subst h7; rw [pk_us, hn0]
      · rw [pk_un h7]; exact g0 k h7
    have f1 : ∀ c, c ≠ 0 → zup σ1 0 7 (nI a.1.1.1) c = σ c := fun c hc => by rw [zup_ne hc]; exact g1 c hc
    exact hQ' _ (hR.T (hR.1.1.keep (fun c _ _ => f1 c (by omega)) (fun k _ _ => f0 k)) ⟨fun c g => f1 c (by omega), fun k _ _ _ => f0 k, fun j _ => by rw [f1 12 (by omega)]⟩)
  simp (disch := first | assumption | omega | decide | exact zin_d (by assumption) (by omega) (by omega) | (simp only [zb01]; done)) only [s_M_take_0, s_M_take_1, s_M_take_4, s_M_take_5, s_M_take_6, s_M_take_8, s_M_take_11, s_M_take_14, s_M_take_15, s_M_take_16, s_M_take_19, s_M_take_20, s_M_take_21, s_M_take_24, s_M_take_27, s_M_take_30, s_M_take_31, s_M_take_32, s_M_take_35, s_M_take_36, zlt, zle, zeq, zclamp, zinc, zdec, zdi, zdr, zdl, zdn, zpi, zpn, if_true, if_false, ite_not, Bool.false_eq_true, ne_eq, not_true_eq_false, not_false_eq_true, true_and, and_true, Nat.add_assoc, Nat.reduceAdd, hn0]
  have wk : ∀ σ1 t, (∀ c, c ≠ 0 → σ1 c = σ c) → σ1 0 7 = nI (a.1.1.1 - t) → WK σ1 (a.1.1.1 - t) a.1.1.2.1 a.1.1.2.2.1 a.1.1.2.2.2 := fun σ1 t g1 g2 => ⟨by omega, g2, fun i hi => by rw [g1 2 (by omega), g1 3 (by omega), g1 4 (by omega)]; exact hR.1.1.1.2.2 i (by omega)⟩
  have fk : ∀ t, Fok (a.1.1.1 - t) a.1.1.2.2.1 := fun t i hi => hok.1.F i (by omega)
  refine loopI (α := Unit) (N := a.1.1.1) (fun _ σ1 t => Ev zshM 225 7 [some (.ref 0), some (.int (nI a.1.1.1)), some (.int (nI t))] [] σ1 Q) (fun t σ1 => (∀ k, k ≠ 7 → σ1 0 k = σ 0 k) ∧ (∀ c, c ≠ 0 → σ1 c = σ c) ∧ σ1 0 7 = nI (a.1.1.1 - t) ∧ zf (fun t => stndB (a.1.1.1 - t) a.1.1.2.1 a.1.1.2.2.1 a.1.1.2.2.2 = true) 0 a.1.1.1 = zf (fun t => stndB (a.1.1.1 - t) a.1.1.2.1 a.1.1.2.2.1 a.1.1.2.2.2 = true) t (a.1.1.1 - t)) (fun _ t σ1 ht hp kk => ?_) (fun _ σ1 hp => ?_) 0 () σ (Nat.zero_le _) ⟨fun _ _ => rfl, fun _ _ => rfl, hn0, rfl⟩
  · obtain ⟨g0, g1, g2, g3⟩ := hp
    rw [show zf (fun t => stndB (a.1.1.1 - t) a.1.1.2.1 a.1.1.2.2.1 a.1.1.2.2.2 = true) t (a.1.1.1 - t) = zf (fun t => stndB (a.1.1.1 - t) a.1.1.2.1 a.1.1.2.2.1 a.1.1.2.2.2 = true) t ((a.1.1.1 - (t + 1)) + 1) by rw [show (a.1.1.1 - (t + 1)) + 1 = a.1.1.1 - t by omega], zf] at g3
    rw [s_M_take_7]
    by_cases h : stndB (a.1.1.1 - t) a.1.1.2.1 a.1.1.2.2.1 a.1.1.2.2.2 = true
    · rw [if_pos h] at g3
      have e : takS a.1.1.1 a.1.1.2.1 a.1.1.2.2.1 a.1.1.2.2.2 = nI t := by rw [takS, g3, if_neg (nI_ne9 (by omega))]
      simp (disch := first | assumption | omega | decide | exact zin_d (by assumption) (by omega) (by omega) | (simp only [zb01]; done)) only [s_M_take_8, s_M_take_11, s_M_take_14, s_M_take_15, s_M_take_16, s_M_take_19, s_M_take_20, s_M_take_21, s_M_take_24, s_M_take_27, zlt, zle, zeq, zclamp, zinc, zdec, zdi, zdr, zdl, zdn, zpi, zpn, if_true, if_false, ite_not, Bool.false_eq_true, ne_eq, not_true_eq_false, not_false_eq_true, true_and, and_true, Nat.add_assoc, Nat.reduceAdd, M_isUpright (wk σ1 t g1 g2) (fk t), zift, ziff]
      exact fin σ1 t g0 g1 e
    · rw [if_neg h] at g3
      have e1 : nI (a.1.1.1 - t) - 1 = nI (a.1.1.1 - (t + 1)) := by rw [zdec (by omega), Nat.sub_sub]
      simp (disch := first | assumption | omega | decide | exact zin_d (by assumption) (by omega) (by omega) | (simp only [zb01]; done)) only [s_M_take_8, s_M_take_11, s_M_take_14, s_M_take_15, s_M_take_16, s_M_take_19, s_M_take_20, s_M_take_21, s_M_take_24, s_M_take_27, zlt, zle, zeq, zclamp, zinc, zdec, zdi, zdr, zdl, zdn, zpi, zpn, if_true, if_false, ite_not, Bool.false_eq_true, ne_eq, not_true_eq_false, not_false_eq_true, true_and, and_true, Nat.add_assoc, Nat.reduceAdd, M_isUpright (wk σ1 t g1 g2) (fk t), g2, e1, zift, ziff]
      refine kk () _ ⟨fun k hk => ?_, fun c hc => ?_, ?_, g3⟩
      · rw [zup_self, pk_un hk]; exact g0 k hk
      · rw [zup_ne hc]; exact g1 c hc
      · rw [zup_self, pk_us]
  · obtain ⟨g0, g1, g2, g3⟩ := hp
    have e9 : zf (fun t => stndB (a.1.1.1 - t) a.1.1.2.1 a.1.1.2.2.1 a.1.1.2.2.2 = true) 0 a.1.1.1 = -9 := by rw [g3, Nat.sub_self]; rfl
    have e : takS a.1.1.1 a.1.1.2.1 a.1.1.2.2.1 a.1.1.2.2.2 = nI a.1.1.1 := by rw [takS, if_pos e9]
    have h : stndB (a.1.1.1 - a.1.1.1) a.1.1.2.1 a.1.1.2.2.1 a.1.1.2.2.2 = true := by rw [Nat.sub_self]; rfl
    rw [s_M_take_7]
    simp (disch := first | assumption | omega | decide | exact zin_d (by assumption) (by omega) (by omega) | (simp only [zb01]; done)) only [s_M_take_8, s_M_take_11, s_M_take_14, s_M_take_15, s_M_take_16, s_M_take_19, s_M_take_20, s_M_take_21, s_M_take_24, s_M_take_27, zlt, zle, zeq, zclamp, zinc, zdec, zdi, zdr, zdl, zdn, zpi, zpn, if_true, if_false, ite_not, Bool.false_eq_true, ne_eq, not_true_eq_false, not_false_eq_true, true_and, and_true, Nat.add_assoc, Nat.reduceAdd, M_isUpright (wk σ1 a.1.1.1 g1 g2) (fk a.1.1.1), zift, ziff]
    exact fin σ1 _ g0 g1 e
theorem oth_c : ∀ v, v ≤ 1 → (1 : Int32) - nI v = oth (nI v) ∧ (1 : Int32) - oth (nI v) = nI v := by decide
theorem M_turnBack (hR : WX σ a) (hQ : ∀ σ', WX σ' (c_turnBack a).2 → Q (some (.int (c_turnBack a).1)) σ') : Ev zshM 226 0 [some (.ref 0), none, none, none, none] [] σ Q := by
  have hok := hR.1.2.1
  have h12 := hok.1.1
  have z4 : zshM 4 = 100 + 13 := rfl
  simp (disch := first | assumption | omega | decide | exact zin_d (by assumption) (by omega) (by omega) | (simp only [zb01]; done)) only [s_M_turnBack_0, s_M_turnBack_2, s_M_turnBack_3, s_M_turnBack_4, s_M_turnBack_7, s_M_turnBack_8, s_M_turnBack_9, s_M_turnBack_11, s_M_turnBack_12, s_M_turnBack_15, s_M_turnBack_18, s_M_turnBack_19, s_M_turnBack_22, s_M_turnBack_23, s_M_turnBack_24, s_M_turnBack_25, s_M_turnBack_28, s_M_turnBack_29, s_M_turnBack_30, s_M_turnBack_31, s_M_turnBack_32, s_M_turnBack_33, s_M_turnBack_36, s_M_turnBack_38, s_M_turnBack_39, s_M_turnBack_42, s_M_turnBack_43, s_M_turnBack_44, s_M_turnBack_45, s_M_turnBack_48, s_M_turnBack_49, s_M_turnBack_50, s_M_turnBack_51, s_M_turnBack_52, s_M_turnBack_54, s_M_turnBack_55, s_M_turnBack_58, s_M_turnBack_61, s_M_turnBack_62, s_M_turnBack_63, s_M_turnBack_65, s_M_turnBack_66, s_M_turnBack_69, s_M_turnBack_72, s_M_turnBack_73, zlt, zle, zeq, zclamp, zinc, zdec, zdi, zdr, zdl, zdn, zpi, zpn, if_true, if_false, ite_not, Bool.false_eq_true, ne_eq, not_true_eq_false, not_false_eq_true, true_and, and_true, Nat.add_assoc, Nat.reduceAdd, M_spareNow hR.1.1.1 hok.1.F]
  refine loopI (α := Option Value) (N := a.1.1.1) (fun o4 σ1 s => Ev zshM 226 10 [some (.ref 0), some (.int (trnS a.1.1.1 a.1.1.2.1 a.1.1.2.2.1 a.1.1.2.2.2 s).1), some (.int (trnS a.1.1.1 a.1.1.2.1 a.1.1.2.2.1 a.1.1.2.2.2 s).2), some (.int (nI s)), o4] [] σ1 Q) (fun s σ1 => WMd σ1 a.1 ∧ frT σ σ1) (fun o4 s σ1 hs hp kk => ?_) (fun o4 σ1 hp => ?_) 0 none σ (Nat.zero_le _) ⟨hR.1.1, frT.rf⟩
  · obtain ⟨q1, q2⟩ := hp
    have hn := q1.1.2.1
    have hs13 : s < 13 := by omega
    have eL := (q1.1.2.2 s hs).2.2
    obtain ⟨v, hv, ev⟩ := (hok.1.2 s hs).2.2
    obtain ⟨o1, o2⟩ := oth_c v hv
    rw [← ev] at o1 o2
    have hK := WK_lay (m := oth (a.1.1.2.2.2 s)) (i := s) q1.1
    have hb : WMd (zup (zup σ1 4 s (oth (a.1.1.2.2.2 s))) 4 s (a.1.1.2.2.2 s)) a.1 := by
      refine WMd.setS (β := a.1) (S := a.1.1) q1 ?_ (fun c _ _ => ?_) (fun c _ _ => ?_)
      · have h2 := WK_lay (m := a.1.1.2.2.2 s) (i := s) hK
        rw [upd_back] at h2
        exact h2
      · simp (disch := first | assumption | omega | decide | exact zin_d (by assumption) (by omega) (by omega) | (simp only [zb01]; done)) only [zup_ne, zup_self, pk_us, pk_un]
      · simp (disch := first | assumption | omega | decide | exact zin_d (by assumption) (by omega) (by omega) | (simp only [zb01]; done)) only [zup_ne, zup_self, pk_us, pk_un]
    have hf : frT σ (zup (zup σ1 4 s (oth (a.1.1.2.2.2 s))) 4 s (a.1.1.2.2.2 s)) := q2.tr ((frM.z (by omega)).tr (frM.z (by omega))).T
    have h44 : zup σ1 4 s (oth (a.1.1.2.2.2 s)) 4 s = oth (a.1.1.2.2.2 s) := by rw [zup_self, pk_us]
    rw [s_M_turnBack_10]
    by_cases h : (trnS a.1.1.1 a.1.1.2.1 a.1.1.2.2.1 a.1.1.2.2.2 s).2 < lsp a.1.1.1 a.1.1.2.1 a.1.1.2.2.1 (upd a.1.1.2.2.2 s (oth (a.1.1.2.2.2 s)))
    · have h' := Int32.not_le.mpr h
      have e : trnS a.1.1.1 a.1.1.2.1 a.1.1.2.2.1 a.1.1.2.2.2 (s + 1) = (nI s, lsp a.1.1.1 a.1.1.2.1 a.1.1.2.2.1 (upd a.1.1.2.2.2 s (oth (a.1.1.2.2.2 s)))) := by rw [trnS, if_pos h]
      have kk2 := fun z => kk z _ ⟨hb, hf⟩
      rw [e] at kk2
      simp (disch := first | assumption | omega | decide | exact zin_d (by assumption) (by omega) (by omega) | (simp only [zb01]; done)) only [s_M_turnBack_0, s_M_turnBack_2, s_M_turnBack_3, s_M_turnBack_4, s_M_turnBack_7, s_M_turnBack_8, s_M_turnBack_9, s_M_turnBack_11, s_M_turnBack_12, s_M_turnBack_15, s_M_turnBack_18, s_M_turnBack_19, s_M_turnBack_22, s_M_turnBack_23, s_M_turnBack_24, s_M_turnBack_25, s_M_turnBack_28, s_M_turnBack_29, s_M_turnBack_30, s_M_turnBack_31, s_M_turnBack_32, s_M_turnBack_33, s_M_turnBack_36, s_M_turnBack_38, s_M_turnBack_39, s_M_turnBack_42, s_M_turnBack_43, s_M_turnBack_44, s_M_turnBack_45, s_M_turnBack_48, s_M_turnBack_49, s_M_turnBack_50, s_M_turnBack_51, s_M_turnBack_52, s_M_turnBack_54, s_M_turnBack_55, s_M_turnBack_58, s_M_turnBack_61, s_M_turnBack_62, s_M_turnBack_63, s_M_turnBack_65, s_M_turnBack_66, s_M_turnBack_69, s_M_turnBack_72, s_M_turnBack_73, zlt, zle, zeq, zclamp, zinc, zdec, zdi, zdr, zdl, zdn, zpi, zpn, if_true, if_false, ite_not, Bool.false_eq_true, ne_eq, not_true_eq_false, not_false_eq_true, true_and, and_true, Nat.add_assoc, Nat.reduceAdd, hn, eL, o1, M_spareNow hK hok.1.F, h44, o2, zift, ziff]
      exact kk2 _
    · have h' := Int32.not_lt.mp h
      have e : trnS a.1.1.1 a.1.1.2.1 a.1.1.2.2.1 a.1.1.2.2.2 (s + 1) = trnS a.1.1.1 a.1.1.2.1 a.1.1.2.2.1 a.1.1.2.2.2 s := by rw [trnS, if_neg h]
      have kk2 := fun z => kk z _ ⟨hb, hf⟩
      rw [e] at kk2
      simp (disch := first | assumption | omega | decide | exact zin_d (by assumption) (by omega) (by omega) | (simp only [zb01]; done)) only [s_M_turnBack_0, s_M_turnBack_2, s_M_turnBack_3, s_M_turnBack_4, s_M_turnBack_7, s_M_turnBack_8, s_M_turnBack_9, s_M_turnBack_11, s_M_turnBack_12, s_M_turnBack_15, s_M_turnBack_18, s_M_turnBack_19, s_M_turnBack_22, s_M_turnBack_23, s_M_turnBack_24, s_M_turnBack_25, s_M_turnBack_28, s_M_turnBack_29, s_M_turnBack_30, s_M_turnBack_31, s_M_turnBack_32, s_M_turnBack_33, s_M_turnBack_36, s_M_turnBack_38, s_M_turnBack_39, s_M_turnBack_42, s_M_turnBack_43, s_M_turnBack_44, s_M_turnBack_45, s_M_turnBack_48, s_M_turnBack_49, s_M_turnBack_50, s_M_turnBack_51, s_M_turnBack_52, s_M_turnBack_54, s_M_turnBack_55, s_M_turnBack_58, s_M_turnBack_61, s_M_turnBack_62, s_M_turnBack_63, s_M_turnBack_65, s_M_turnBack_66, s_M_turnBack_69, s_M_turnBack_72, s_M_turnBack_73, zlt, zle, zeq, zclamp, zinc, zdec, zdi, zdr, zdl, zdn, zpi, zpn, if_true, if_false, ite_not, Bool.false_eq_true, ne_eq, not_true_eq_false, not_false_eq_true, true_and, and_true, Nat.add_assoc, Nat.reduceAdd, hn, eL, o1, M_spareNow hK hok.1.F, h44, o2, zift, ziff]
      exact kk2 _
  · rw [s_M_turnBack_10]
    simp (disch := first | assumption | omega | decide | exact zin_d (by assumption) (by omega) (by omega) | (simp only [zb01]; done)) only [s_M_turnBack_0, s_M_turnBack_2, s_M_turnBack_3, s_M_turnBack_4, s_M_turnBack_7, s_M_turnBack_8, s_M_turnBack_9, s_M_turnBack_11, s_M_turnBack_12, s_M_turnBack_15, s_M_turnBack_18, s_M_turnBack_19, s_M_turnBack_22, s_M_turnBack_23, s_M_turnBack_24, s_M_turnBack_25, s_M_turnBack_28, s_M_turnBack_29, s_M_turnBack_30, s_M_turnBack_31, s_M_turnBack_32, s_M_turnBack_33, s_M_turnBack_36, s_M_turnBack_38, s_M_turnBack_39, s_M_turnBack_42, s_M_turnBack_43, s_M_turnBack_44, s_M_turnBack_45, s_M_turnBack_48, s_M_turnBack_49, s_M_turnBack_50, s_M_turnBack_51, s_M_turnBack_52, s_M_turnBack_54, s_M_turnBack_55, s_M_turnBack_58, s_M_turnBack_61, s_M_turnBack_62, s_M_turnBack_63, s_M_turnBack_65, s_M_turnBack_66, s_M_turnBack_69, s_M_turnBack_72, s_M_turnBack_73, zlt, zle, zeq, zclamp, zinc, zdec, zdi, zdr, zdl, zdn, zpi, zpn, if_true, if_false, ite_not, Bool.false_eq_true, ne_eq, not_true_eq_false, not_false_eq_true, true_and, and_true, Nat.add_assoc, Nat.reduceAdd, hp.1.1.2.1, zift]
    exact hQ σ1 (hR.T hp.1 hp.2)
end
