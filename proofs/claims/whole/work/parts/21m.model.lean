def frU (σ σ' : zG) : Prop := (∀ c, (c = 1 ∨ c = 8 ∨ c = 14) → σ' c = σ c) ∧ (∀ k, (k = 14 ∨ k = 18 ∨ k = 25) → σ' 0 k = σ 0 k) ∧ ∀ j, j < 48 → σ' 12 j = σ 12 j
theorem frU.rf {σ : zG} : frU σ σ := ⟨fun _ _ => rfl, fun _ _ => rfl, fun _ _ => rfl⟩
theorem frU.tr {σ σ1 σ2 : zG} (h : frU σ σ1) (h' : frU σ1 σ2) : frU σ σ2 := ⟨fun a ha => (h'.1 a ha).trans (h.1 a ha), fun k g => (h'.2.1 k g).trans (h.2.1 k g), fun j hj => (h'.2.2 j hj).trans (h.2.2 j hj)⟩
theorem frT.U {σ σ' : zG} (h : frT σ σ') : frU σ σ' := ⟨fun c g => h.1 c (by omega), fun k g => h.2.1 k (by omega) (by omega) (by omega), fun j hj => h.2.2 j (by omega)⟩
theorem WX_setU {σ σ' : zG} {a : At} (h : WX σ a) {β : Bt} (hB : WMd σ' β) (hk : Bok β) (hd : num 999 β.2.2.2.2) (f : frU σ σ') : WX σ' (setB a β) := by
  obtain ⟨-, h4, ⟨⟨h5, h5b, h5c⟩, h6⟩, ⟨h7, h7b, h7c⟩, h8⟩ := h
  obtain ⟨f1, f2, f3⟩ := f
  exact ⟨⟨hB, hk, hd⟩, h4.keep (f2 18 (by omega)) f3, ⟨⟨h5, by rw [f2 14 (by omega)]; exact h5b, fun i hi => by rw [f1 8 (by omega)]; exact h5c i hi⟩, h6⟩, ⟨h7, by rw [f2 25 (by omega)]; exact h7b, fun i hi => by rw [f1 14 (by omega)]; exact h7c i hi⟩, fun i hi => by rw [f1 1 (by omega)]; exact h8 i hi⟩
theorem WX.U {σ σ' : zG} {a : At} (h : WX σ a) (hB : WMd σ' a.1) (f : frU σ σ') : WX σ' a := WX_setU h hB h.1.2.1 h.1.2.2 f
theorem frU.z0 {σ : zG} {k : Nat} {x : Int32} (h : k ≠ 14 ∧ k ≠ 18 ∧ k ≠ 25) : frU σ (zup σ 0 k x) := ⟨fun b hb => zup_ne (by omega), fun j hj => by rw [zup_self, pk_un (by omega)], fun j _ => by rw [zup_ne (by omega)]⟩
theorem WMd.z0 {σ : zG} {β : Bt} (h : WMd σ β) {k : Nat} {x : Int32} (hk : k < 7 ∨ 10 ≤ k) : WMd (zup σ 0 k x) β := h.keep (fun a _ _ => zup_ne (by omega)) (fun j _ _ => by rw [zup_self, pk_un (by omega)])
theorem withM_back {β : Bt} {j k : Nat} {x : Int32} (hj : j ≤ 1) (hk : k = 0 ∨ k = 2) : withM (withM β (nI j) k x) (nI j) k (if k = 0 then (mOf β (nI j)).1 else (mOf β (nI j)).2.2) = β := by
  obtain ⟨S, ⟨a0, a1, a2⟩, ⟨b0, b1, b2⟩, q, d⟩ := β
  rcases (show j = 0 ∨ j = 1 by omega) with rfl | rfl <;> rcases hk with rfl | rfl <;> rfl
theorem yld_c (q f s : Int32) : (if s < (if f < q then (f, nI 0) else (q, (-9 : Int32))).1 then (s, nI 1) else (if f < q then (f, nI 0) else (q, (-9 : Int32)))).2 = if q ≤ (if f < s then f else s) then -9 else if f ≤ s then 0 else 1 := by
  simp only [Int32.lt_iff_toInt_lt, Int32.le_iff_toInt_le]
  by_cases h1 : f.toInt < q.toInt
  · simp only [if_pos h1]
    by_cases h2 : s.toInt < f.toInt
    · have h3 : ¬ f.toInt < s.toInt := by omega
      have h4 : ¬ q.toInt ≤ s.toInt := by omega
      have h5 : ¬ f.toInt ≤ s.toInt := by omega
      rw [if_pos h2, if_neg h3, if_neg h4, if_neg h5]
      rfl
    · have h5 : f.toInt ≤ s.toInt := by omega
      rw [if_neg h2, if_pos h5]
      by_cases h3 : f.toInt < s.toInt
      · rw [if_pos h3, if_neg (by omega)]
        rfl
      · rw [if_neg h3, if_neg (by omega)]
        rfl
  · simp only [if_neg h1]
    by_cases h2 : s.toInt < q.toInt
    · rw [if_pos h2, if_neg (show ¬ f.toInt < s.toInt by omega), if_neg (show ¬ q.toInt ≤ s.toInt by omega), if_neg (show ¬ f.toInt ≤ s.toInt by omega)]
      rfl
    · rw [if_neg h2]
      by_cases h3 : f.toInt < s.toInt
      · rw [if_pos h3, if_pos (by omega)]
      · rw [if_neg h3, if_pos (by omega)]
section
variable {σ : zG} {Q : Option Value → zG → Prop} {a : At} {x y z m w n v o k f : Int32} {β : Bt} {i j : Nat}
theorem M_quarrelsWithout (hW : WMd σ β) (hB : Bok β) (hj : j ≤ 1) (hi : i ≤ 1000) (hQ : ∀ σ', WMd σ' β → frT σ σ' → Q (some (.int (daysS i (withM β (nI j) 2 0)).2.2.2.1)) σ') : Ev zshM 233 0 [some (.ref 0), some (.int (nI j)), some (.int (nI i)), none, none] [] σ Q := by
  have z7 : zshM 7 = 100 + 2 := rfl
  have hj2 : j < 2 := by omega
  have e7 := (WMd_m hW hj).2.2
  have hW1 : WMd (zup σ 7 j 0) (withM β (nI j) 2 0) := WMd_set hW hj (k := 2) (by omega) 0
  simp (disch := first | assumption | omega | decide | exact zin_d (by assumption) (by omega) (by omega) | (simp only [zb01]; done)) only [s_M_quarrelsWithout_0, s_M_quarrelsWithout_1, s_M_quarrelsWithout_4, s_M_quarrelsWithout_5, s_M_quarrelsWithout_6, s_M_quarrelsWithout_7, s_M_quarrelsWithout_8, s_M_quarrelsWithout_11, s_M_quarrelsWithout_12, s_M_quarrelsWithout_13, s_M_quarrelsWithout_14, s_M_quarrelsWithout_15, s_M_quarrelsWithout_16, s_M_quarrelsWithout_19, s_M_quarrelsWithout_21, s_M_quarrelsWithout_22, s_M_quarrelsWithout_25, s_M_quarrelsWithout_26, s_M_quarrelsWithout_27, s_M_quarrelsWithout_28, s_M_quarrelsWithout_30, zlt, zle, zeq, zclamp, zinc, zdec, zdi, zdr, zdl, zdn, zpi, zpn, if_true, if_false, ite_not, Bool.false_eq_true, ne_eq, not_true_eq_false, not_false_eq_true, true_and, and_true, Nat.add_assoc, Nat.reduceAdd, e7]
  refine M_quarrelsIn hW1 (withM_ok hB (by rw [if_neg (by omega)]; exact ⟨0, by omega, rfl⟩)) hi (fun σ1 h1 f1 => ?_)
  simp (disch := first | assumption | omega | decide | exact zin_d (by assumption) (by omega) (by omega) | (simp only [zb01]; done)) only [s_M_quarrelsWithout_0, s_M_quarrelsWithout_1, s_M_quarrelsWithout_4, s_M_quarrelsWithout_5, s_M_quarrelsWithout_6, s_M_quarrelsWithout_7, s_M_quarrelsWithout_8, s_M_quarrelsWithout_11, s_M_quarrelsWithout_12, s_M_quarrelsWithout_13, s_M_quarrelsWithout_14, s_M_quarrelsWithout_15, s_M_quarrelsWithout_16, s_M_quarrelsWithout_19, s_M_quarrelsWithout_21, s_M_quarrelsWithout_22, s_M_quarrelsWithout_25, s_M_quarrelsWithout_26, s_M_quarrelsWithout_27, s_M_quarrelsWithout_28, s_M_quarrelsWithout_30, zlt, zle, zeq, zclamp, zinc, zdec, zdi, zdr, zdl, zdn, zpi, zpn, if_true, if_false, ite_not, Bool.false_eq_true, ne_eq, not_true_eq_false, not_false_eq_true, true_and, and_true, Nat.add_assoc, Nat.reduceAdd]
  have hb : WMd (zup σ1 7 j (mOf β (nI j)).2.2) β := by
    have h := WMd_set h1 hj (k := 2) (by omega) (mOf β (nI j)).2.2
    have e := withM_back (β := β) (j := j) (k := 2) (x := 0) hj (Or.inr rfl)
    rw [if_neg (by omega)] at e
    rw [e] at h
    exact h
  exact hQ _ hb (((frM.z (by omega)).T.tr f1).tr (frM.z (by omega)).T)
theorem M_yields (hR : WX σ a) (hQ : ∀ σ', WX σ' (c_yields a n).2 → Q (some (.int (c_yields a n).1)) σ') : Ev zshM 234 0 [some (.ref 0), some (.int n), none, none, none, none, none] [] σ Q := by
  have hok := hR.1.2.1
  rw [c_yields] at hQ
  by_cases ho : outs n 0 60 = 0
  · rw [if_pos ho] at hQ
    obtain ⟨i, hi, rfl⟩ := in_le (n := 60) (by omega) (show 0 ≤ n ∧ n ≤ nI 60 from ⟨Int32.le_trans (by decide : (0 : Int32) ≤ 0) (outs_in ho).1, (outs_in ho).2⟩)
    rw [zclamp (by omega)] at hQ
    have ey : (yldS a.1 i 2).2 = if (daysS i a.1).2.2.2.1 ≤ (if (daysS i (withM a.1 (nI 0) 2 0)).2.2.2.1 < (daysS i (withM a.1 (nI 1) 2 0)).2.2.2.1 then (daysS i (withM a.1 (nI 0) 2 0)).2.2.2.1 else (daysS i (withM a.1 (nI 1) 2 0)).2.2.2.1) then -9 else if (daysS i (withM a.1 (nI 0) 2 0)).2.2.2.1 ≤ (daysS i (withM a.1 (nI 1) 2 0)).2.2.2.1 then 0 else 1 := yld_c _ _ _
    rw [ey] at hQ
    simp (disch := first | assumption | omega | decide | exact zin_d (by assumption) (by omega) (by omega) | (simp only [zb01]; done)) only [s_M_yields_0, s_M_yields_1, s_M_yields_2, s_M_yields_4, s_M_yields_7, s_M_yields_8, s_M_yields_9, s_M_yields_12, s_M_yields_13, s_M_yields_14, s_M_yields_17, s_M_yields_18, s_M_yields_19, s_M_yields_20, s_M_yields_23, s_M_yields_24, s_M_yields_25, s_M_yields_26, s_M_yields_27, s_M_yields_30, s_M_yields_32, s_M_yields_33, s_M_yields_34, s_M_yields_35, s_M_yields_38, s_M_yields_40, s_M_yields_42, s_M_yields_44, s_M_yields_47, s_M_yields_49, s_M_yields_52, s_M_yields_54, s_M_yields_56, s_M_yields_58, s_M_yields_59, s_M_yields_62, s_M_yields_64, s_M_yields_67, s_M_yields_69, s_M_yields_71, s_M_yields_74, s_M_yields_75, s_M_yields_78, s_M_yields_79, zlt, zle, zeq, zclamp, zinc, zdec, zdi, zdr, zdl, zdn, zpi, zpn, if_true, if_false, ite_not, Bool.false_eq_true, ne_eq, not_true_eq_false, not_false_eq_true, true_and, and_true, Nat.add_assoc, Nat.reduceAdd, M_bound, ho, zift, ziff]
    refine M_quarrelsIn hR.1.1 hok (by omega) (fun σ1 h1 f1 => ?_)
    simp (disch := first | assumption | omega | decide | exact zin_d (by assumption) (by omega) (by omega) | (simp only [zb01]; done)) only [s_M_yields_0, s_M_yields_1, s_M_yields_2, s_M_yields_4, s_M_yields_7, s_M_yields_8, s_M_yields_9, s_M_yields_12, s_M_yields_13, s_M_yields_14, s_M_yields_17, s_M_yields_18, s_M_yields_19, s_M_yields_20, s_M_yields_23, s_M_yields_24, s_M_yields_25, s_M_yields_26, s_M_yields_27, s_M_yields_30, s_M_yields_32, s_M_yields_33, s_M_yields_34, s_M_yields_35, s_M_yields_38, s_M_yields_40, s_M_yields_42, s_M_yields_44, s_M_yields_47, s_M_yields_49, s_M_yields_52, s_M_yields_54, s_M_yields_56, s_M_yields_58, s_M_yields_59, s_M_yields_62, s_M_yields_64, s_M_yields_67, s_M_yields_69, s_M_yields_71, s_M_yields_74, s_M_yields_75, s_M_yields_78, s_M_yields_79, zlt, zle, zeq, zclamp, zinc, zdec, zdi, zdr, zdl, zdn, zpi, zpn, if_true, if_false, ite_not, Bool.false_eq_true, ne_eq, not_true_eq_false, not_false_eq_true, true_and, and_true, Nat.add_assoc, Nat.reduceAdd]
    refine M_quarrelsWithout (j := 0) h1 hok (by omega) (by omega) (fun σ2 h2 f2 => ?_)
    simp (disch := first | assumption | omega | decide | exact zin_d (by assumption) (by omega) (by omega) | (simp only [zb01]; done)) only [s_M_yields_0, s_M_yields_1, s_M_yields_2, s_M_yields_4, s_M_yields_7, s_M_yields_8, s_M_yields_9, s_M_yields_12, s_M_yields_13, s_M_yields_14, s_M_yields_17, s_M_yields_18, s_M_yields_19, s_M_yields_20, s_M_yields_23, s_M_yields_24, s_M_yields_25, s_M_yields_26, s_M_yields_27, s_M_yields_30, s_M_yields_32, s_M_yields_33, s_M_yields_34, s_M_yields_35, s_M_yields_38, s_M_yields_40, s_M_yields_42, s_M_yields_44, s_M_yields_47, s_M_yields_49, s_M_yields_52, s_M_yields_54, s_M_yields_56, s_M_yields_58, s_M_yields_59, s_M_yields_62, s_M_yields_64, s_M_yields_67, s_M_yields_69, s_M_yields_71, s_M_yields_74, s_M_yields_75, s_M_yields_78, s_M_yields_79, zlt, zle, zeq, zclamp, zinc, zdec, zdi, zdr, zdl, zdn, zpi, zpn, if_true, if_false, ite_not, Bool.false_eq_true, ne_eq, not_true_eq_false, not_false_eq_true, true_and, and_true, Nat.add_assoc, Nat.reduceAdd]
    refine M_quarrelsWithout (j := 1) h2 hok (by omega) (by omega) (fun σ3 h3 f3 => ?_)
    have hq := hQ σ3 (hR.T h3 ((f1.tr f2).tr f3))
    clear hQ ey
    generalize (daysS i a.1).2.2.2.1 = q at *
    generalize (daysS i (withM a.1 (nI 0) 2 0)).2.2.2.1 = f at *
    generalize (daysS i (withM a.1 (nI 1) 2 0)).2.2.2.1 = s at *
    by_cases c1 : f < s
    · have c1' := Int32.not_le.mpr c1
      have c2 := Int32.le_of_lt c1
      have c2' := Int32.not_lt.mpr c2
      rw [if_pos c1, if_pos c2] at hq
      by_cases c3 : q ≤ f
      · have c3' := Int32.not_lt.mpr c3
        rw [if_pos c3] at hq
        simp (disch := first | assumption | omega | decide | exact zin_d (by assumption) (by omega) (by omega) | (simp only [zb01]; done)) only [s_M_yields_0, s_M_yields_1, s_M_yields_2, s_M_yields_4, s_M_yields_7, s_M_yields_8, s_M_yields_9, s_M_yields_12, s_M_yields_13, s_M_yields_14, s_M_yields_17, s_M_yields_18, s_M_yields_19, s_M_yields_20, s_M_yields_23, s_M_yields_24, s_M_yields_25, s_M_yields_26, s_M_yields_27, s_M_yields_30, s_M_yields_32, s_M_yields_33, s_M_yields_34, s_M_yields_35, s_M_yields_38, s_M_yields_40, s_M_yields_42, s_M_yields_44, s_M_yields_47, s_M_yields_49, s_M_yields_52, s_M_yields_54, s_M_yields_56, s_M_yields_58, s_M_yields_59, s_M_yields_62, s_M_yields_64, s_M_yields_67, s_M_yields_69, s_M_yields_71, s_M_yields_74, s_M_yields_75, s_M_yields_78, s_M_yields_79, zlt, zle, zeq, zclamp, zinc, zdec, zdi, zdr, zdl, zdn, zpi, zpn, if_true, if_false, ite_not, Bool.false_eq_true, ne_eq, not_true_eq_false, not_false_eq_true, true_and, and_true, Nat.add_assoc, Nat.reduceAdd, zift, ziff]
        exact hq
      · have c3' := Int32.not_le.mp c3
        rw [if_neg c3] at hq
        simp (disch := first | assumption | omega | decide | exact zin_d (by assumption) (by omega) (by omega) | (simp only [zb01]; done)) only [s_M_yields_0, s_M_yields_1, s_M_yields_2, s_M_yields_4, s_M_yields_7, s_M_yields_8, s_M_yields_9, s_M_yields_12, s_M_yields_13, s_M_yields_14, s_M_yields_17, s_M_yields_18, s_M_yields_19, s_M_yields_20, s_M_yields_23, s_M_yields_24, s_M_yields_25, s_M_yields_26, s_M_yields_27, s_M_yields_30, s_M_yields_32, s_M_yields_33, s_M_yields_34, s_M_yields_35, s_M_yields_38, s_M_yields_40, s_M_yields_42, s_M_yields_44, s_M_yields_47, s_M_yields_49, s_M_yields_52, s_M_yields_54, s_M_yields_56, s_M_yields_58, s_M_yields_59, s_M_yields_62, s_M_yields_64, s_M_yields_67, s_M_yields_69, s_M_yields_71, s_M_yields_74, s_M_yields_75, s_M_yields_78, s_M_yields_79, zlt, zle, zeq, zclamp, zinc, zdec, zdi, zdr, zdl, zdn, zpi, zpn, if_true, if_false, ite_not, Bool.false_eq_true, ne_eq, not_true_eq_false, not_false_eq_true, true_and, and_true, Nat.add_assoc, Nat.reduceAdd, zift, ziff]
        exact hq
    · have c1' := Int32.not_lt.mp c1
      rw [if_neg c1] at hq
      by_cases c3 : q ≤ s
      · have c3' := Int32.not_lt.mpr c3
        rw [if_pos c3] at hq
        simp (disch := first | assumption | omega | decide | exact zin_d (by assumption) (by omega) (by omega) | (simp only [zb01]; done)) only [s_M_yields_0, s_M_yields_1, s_M_yields_2, s_M_yields_4, s_M_yields_7, s_M_yields_8, s_M_yields_9, s_M_yields_12, s_M_yields_13, s_M_yields_14, s_M_yields_17, s_M_yields_18, s_M_yields_19, s_M_yields_20, s_M_yields_23, s_M_yields_24, s_M_yields_25, s_M_yields_26, s_M_yields_27, s_M_yields_30, s_M_yields_32, s_M_yields_33, s_M_yields_34, s_M_yields_35, s_M_yields_38, s_M_yields_40, s_M_yields_42, s_M_yields_44, s_M_yields_47, s_M_yields_49, s_M_yields_52, s_M_yields_54, s_M_yields_56, s_M_yields_58, s_M_yields_59, s_M_yields_62, s_M_yields_64, s_M_yields_67, s_M_yields_69, s_M_yields_71, s_M_yields_74, s_M_yields_75, s_M_yields_78, s_M_yields_79, zlt, zle, zeq, zclamp, zinc, zdec, zdi, zdr, zdl, zdn, zpi, zpn, if_true, if_false, ite_not, Bool.false_eq_true, ne_eq, not_true_eq_false, not_false_eq_true, true_and, and_true, Nat.add_assoc, Nat.reduceAdd, zift, ziff]
        exact hq
      · have c3' := Int32.not_le.mp c3
        rw [if_neg c3] at hq
        by_cases c4 : f ≤ s
        · have c4' := Int32.not_lt.mpr c4
          rw [if_pos c4] at hq
          simp (disch := first | assumption | omega | decide | exact zin_d (by assumption) (by omega) (by omega) | (simp only [zb01]; done)) only [s_M_yields_0, s_M_yields_1, s_M_yields_2, s_M_yields_4, s_M_yields_7, s_M_yields_8, s_M_yields_9, s_M_yields_12, s_M_yields_13, s_M_yields_14, s_M_yields_17, s_M_yields_18, s_M_yields_19, s_M_yields_20, s_M_yields_23, s_M_yields_24, s_M_yields_25, s_M_yields_26, s_M_yields_27, s_M_yields_30, s_M_yields_32, s_M_yields_33, s_M_yields_34, s_M_yields_35, s_M_yields_38, s_M_yields_40, s_M_yields_42, s_M_yields_44, s_M_yields_47, s_M_yields_49, s_M_yields_52, s_M_yields_54, s_M_yields_56, s_M_yields_58, s_M_yields_59, s_M_yields_62, s_M_yields_64, s_M_yields_67, s_M_yields_69, s_M_yields_71, s_M_yields_74, s_M_yields_75, s_M_yields_78, s_M_yields_79, zlt, zle, zeq, zclamp, zinc, zdec, zdi, zdr, zdl, zdn, zpi, zpn, if_true, if_false, ite_not, Bool.false_eq_true, ne_eq, not_true_eq_false, not_false_eq_true, true_and, and_true, Nat.add_assoc, Nat.reduceAdd, zift, ziff]
          exact hq
        · have c4' := Int32.not_le.mp c4
          rw [if_neg c4] at hq
          simp (disch := first | assumption | omega | decide | exact zin_d (by assumption) (by omega) (by omega) | (simp only [zb01]; done)) only [s_M_yields_0, s_M_yields_1, s_M_yields_2, s_M_yields_4, s_M_yields_7, s_M_yields_8, s_M_yields_9, s_M_yields_12, s_M_yields_13, s_M_yields_14, s_M_yields_17, s_M_yields_18, s_M_yields_19, s_M_yields_20, s_M_yields_23, s_M_yields_24, s_M_yields_25, s_M_yields_26, s_M_yields_27, s_M_yields_30, s_M_yields_32, s_M_yields_33, s_M_yields_34, s_M_yields_35, s_M_yields_38, s_M_yields_40, s_M_yields_42, s_M_yields_44, s_M_yields_47, s_M_yields_49, s_M_yields_52, s_M_yields_54, s_M_yields_56, s_M_yields_58, s_M_yields_59, s_M_yields_62, s_M_yields_64, s_M_yields_67, s_M_yields_69, s_M_yields_71, s_M_yields_74, s_M_yields_75, s_M_yields_78, s_M_yields_79, zlt, zle, zeq, zclamp, zinc, zdec, zdi, zdr, zdl, zdn, zpi, zpn, if_true, if_false, ite_not, Bool.false_eq_true, ne_eq, not_true_eq_false, not_false_eq_true, true_and, and_true, Nat.add_assoc, Nat.reduceAdd, zift, ziff]
          exact hq
  · rw [if_neg ho] at hQ
    simp (disch := first | assumption | omega | decide | exact zin_d (by assumption) (by omega) (by omega) | (simp only [zb01]; done)) only [s_M_yields_0, s_M_yields_1, s_M_yields_2, s_M_yields_4, s_M_yields_7, s_M_yields_8, s_M_yields_9, s_M_yields_12, s_M_yields_13, s_M_yields_14, s_M_yields_17, s_M_yields_18, s_M_yields_19, s_M_yields_20, s_M_yields_23, s_M_yields_24, s_M_yields_25, s_M_yields_26, s_M_yields_27, s_M_yields_30, s_M_yields_32, s_M_yields_33, s_M_yields_34, s_M_yields_35, s_M_yields_38, s_M_yields_40, s_M_yields_42, s_M_yields_44, s_M_yields_47, s_M_yields_49, s_M_yields_52, s_M_yields_54, s_M_yields_56, s_M_yields_58, s_M_yields_59, s_M_yields_62, s_M_yields_64, s_M_yields_67, s_M_yields_69, s_M_yields_71, s_M_yields_74, s_M_yields_75, s_M_yields_78, s_M_yields_79, zlt, zle, zeq, zclamp, zinc, zdec, zdi, zdr, zdl, zdn, zpi, zpn, if_true, if_false, ite_not, Bool.false_eq_true, ne_eq, not_true_eq_false, not_false_eq_true, true_and, and_true, Nat.add_assoc, Nat.reduceAdd, M_bound, zift, ziff]
    refine M_no hR (outs_ref ho) (fun σ' h => ?_)
    simp (disch := first | assumption | omega | decide | exact zin_d (by assumption) (by omega) (by omega) | (simp only [zb01]; done)) only [s_M_yields_0, s_M_yields_1, s_M_yields_2, s_M_yields_4, s_M_yields_7, s_M_yields_8, s_M_yields_9, s_M_yields_12, s_M_yields_13, s_M_yields_14, s_M_yields_17, s_M_yields_18, s_M_yields_19, s_M_yields_20, s_M_yields_23, s_M_yields_24, s_M_yields_25, s_M_yields_26, s_M_yields_27, s_M_yields_30, s_M_yields_32, s_M_yields_33, s_M_yields_34, s_M_yields_35, s_M_yields_38, s_M_yields_40, s_M_yields_42, s_M_yields_44, s_M_yields_47, s_M_yields_49, s_M_yields_52, s_M_yields_54, s_M_yields_56, s_M_yields_58, s_M_yields_59, s_M_yields_62, s_M_yields_64, s_M_yields_67, s_M_yields_69, s_M_yields_71, s_M_yields_74, s_M_yields_75, s_M_yields_78, s_M_yields_79, zlt, zle, zeq, zclamp, zinc, zdec, zdi, zdr, zdl, zdn, zpi, zpn, if_true, if_false, ite_not, Bool.false_eq_true, ne_eq, not_true_eq_false, not_false_eq_true, true_and, and_true, Nat.add_assoc, Nat.reduceAdd]
    exact hQ σ' h
/-- what is thought of one style -/
theorem M_findStyle (hW : WMd σ β) (hB : Bok β) (hj : j ≤ 1) (hi : i ≤ 1000) (hQ : ∀ σ', WMd σ' β → frU σ σ' → σ' 0 21 = (styS β (nI j) i 5).1 → σ' 0 22 = (styS β (nI j) i 5).2 → Q none σ') : Ev zshM 235 0 [some (.ref 0), some (.int (nI j)), some (.int (nI i)), none, none, none] [] σ Q := by
  have z5 : zshM 5 = 100 + 2 := rfl
  have hj2 : j < 2 := by omega
  have e5 := (WMd_m hW hj).1
  have ebk := fun x => withM_back (β := β) (j := j) (k := 0) (x := x) hj (Or.inl rfl)
  rw [if_pos rfl] at ebk
  -- one style's thought: from the loop's head with style k
  have think : ∀ (σ1 : zG) (γ : Bt) (k : Nat) (o5 : Option Value), WMd σ1 γ → Bok γ → (∀ x, withM γ (nI j) 0 x = withM β (nI j) 0 x) → k < 6 → (∀ σ2, WMd σ2 (withM β (nI j) 0 (nI k)) → frT σ1 σ2 → Ev zshM 235 50 [some (.ref 0), some (.int (nI j)), some (.int (nI i)), some (.int (mOf β (nI j)).1), some (.int (nI k)), some (.int (lspB (daysS i (withM β (nI j) 0 (nI k)))))] [] σ2 Q) → Ev zshM 235 16 [some (.ref 0), some (.int (nI j)), some (.int (nI i)), some (.int (mOf β (nI j)).1), some (.int (nI k)), o5] [] σ1 Q := by
    intro σ1 γ k o5 h1 hg hx hk kk
    have hW1 : WMd (zup σ1 5 j (nI k)) (withM β (nI j) 0 (nI k)) := by rw [← hx]; exact WMd_set h1 hj (k := 0) (by omega) (nI k)
    have hB1 : Bok (withM β (nI j) 0 (nI k)) := withM_ok hB (by rw [if_pos rfl]; exact ⟨k, by omega, rfl⟩)
    rw [s_M_findStyle_16]
    simp (disch := first | assumption | omega | decide | exact zin_d (by assumption) (by omega) (by omega) | (simp only [zb01]; done)) only [s_M_findStyle_18, s_M_findStyle_20, s_M_findStyle_23, s_M_findStyle_24, s_M_findStyle_27, s_M_findStyle_28, s_M_findStyle_30, s_M_findStyle_31, s_M_findStyle_32, s_M_findStyle_35, s_M_findStyle_36, s_M_findStyle_37, s_M_findStyle_40, s_M_findStyle_41, s_M_findStyle_44, s_M_findStyle_46, s_M_findStyle_47, zlt, zle, zeq, zclamp, zinc, zdec, zdi, zdr, zdl, zdn, zpi, zpn, if_true, if_false, ite_not, Bool.false_eq_true, ne_eq, not_true_eq_false, not_false_eq_true, true_and, and_true, Nat.add_assoc, Nat.reduceAdd, zlL_6, zlR_6, zeL_6, zeR_6, zqL_6, zcl_6, ziff]
    refine M_thinks hW1 (fun σ2 h2 k2 f2 => ?_)
    simp (disch := first | assumption | omega | decide | exact zin_d (by assumption) (by omega) (by omega) | (simp only [zb01]; done)) only [s_M_findStyle_18, s_M_findStyle_20, s_M_findStyle_23, s_M_findStyle_24, s_M_findStyle_27, s_M_findStyle_28, s_M_findStyle_30, s_M_findStyle_31, s_M_findStyle_32, s_M_findStyle_35, s_M_findStyle_36, s_M_findStyle_37, s_M_findStyle_40, s_M_findStyle_41, s_M_findStyle_44, s_M_findStyle_46, s_M_findStyle_47, zlt, zle, zeq, zclamp, zinc, zdec, zdi, zdr, zdl, zdn, zpi, zpn, if_true, if_false, ite_not, Bool.false_eq_true, ne_eq, not_true_eq_false, not_false_eq_true, true_and, and_true, Nat.add_assoc, Nat.reduceAdd]
    refine M_goes h2 hB1 hi (fun σ3 h3 f3 => ?_)
    have hl : lsp (daysS i (withM β (nI j) 0 (nI k))).1.1 (daysS i (withM β (nI j) 0 (nI k))).1.2.1 (daysS i (withM β (nI j) 0 (nI k))).1.2.2.1 (daysS i (withM β (nI j) 0 (nI k))).1.2.2.2 = lspB (daysS i (withM β (nI j) 0 (nI k))) := rfl
    simp (disch := first | assumption | omega | decide | exact zin_d (by assumption) (by omega) (by omega) | (simp only [zb01]; done)) only [s_M_findStyle_18, s_M_findStyle_20, s_M_findStyle_23, s_M_findStyle_24, s_M_findStyle_27, s_M_findStyle_28, s_M_findStyle_30, s_M_findStyle_31, s_M_findStyle_32, s_M_findStyle_35, s_M_findStyle_36, s_M_findStyle_37, s_M_findStyle_40, s_M_findStyle_41, s_M_findStyle_44, s_M_findStyle_46, s_M_findStyle_47, zlt, zle, zeq, zclamp, zinc, zdec, zdi, zdr, zdl, zdn, zpi, zpn, if_true, if_false, ite_not, Bool.false_eq_true, ne_eq, not_true_eq_false, not_false_eq_true, true_and, and_true, Nat.add_assoc, Nat.reduceAdd, M_spareNow h3.1 (daysS_ok hB1 i).1.F, hl]
    refine M_forgets (k2.keep (f3.1 12 (by omega))) (fun σ4 h4 f4 => ?_)
    simp (disch := first | assumption | omega | decide | exact zin_d (by assumption) (by omega) (by omega) | (simp only [zb01]; done)) only [s_M_findStyle_18, s_M_findStyle_20, s_M_findStyle_23, s_M_findStyle_24, s_M_findStyle_27, s_M_findStyle_28, s_M_findStyle_30, s_M_findStyle_31, s_M_findStyle_32, s_M_findStyle_35, s_M_findStyle_36, s_M_findStyle_37, s_M_findStyle_40, s_M_findStyle_41, s_M_findStyle_44, s_M_findStyle_46, s_M_findStyle_47, zlt, zle, zeq, zclamp, zinc, zdec, zdi, zdr, zdl, zdn, zpi, zpn, if_true, if_false, ite_not, Bool.false_eq_true, ne_eq, not_true_eq_false, not_false_eq_true, true_and, and_true, Nat.add_assoc, Nat.reduceAdd]
    exact kk σ4 h4 ((((frM.z (by omega)).T.tr f2).tr f3.T).tr f4)
  have hxx : ∀ (u x : Int32), withM (withM β (nI j) 0 u) (nI j) 0 x = withM β (nI j) 0 x := by
    intro u x
    rw [withM, withM, withM]
    split <;> rfl
  simp (disch := first | assumption | omega | decide | exact zin_d (by assumption) (by omega) (by omega) | (simp only [zb01]; done)) only [s_M_findStyle_0, s_M_findStyle_1, s_M_findStyle_4, s_M_findStyle_5, s_M_findStyle_6, s_M_findStyle_7, s_M_findStyle_8, s_M_findStyle_10, s_M_findStyle_13, s_M_findStyle_14, zlt, zle, zeq, zclamp, zinc, zdec, zdi, zdr, zdl, zdn, zpi, zpn, if_true, if_false, ite_not, Bool.false_eq_true, ne_eq, not_true_eq_false, not_false_eq_true, true_and, and_true, Nat.add_assoc, Nat.reduceAdd, e5]
  refine think _ β 0 none (hW.z0 (by omega)) hB (fun _ => rfl) (by omega) (fun σ1 h1 f1 => ?_)
  have e21 : σ1 0 21 = -9 := by rw [f1.2.1 21 (by omega) (by omega) (by omega), zup_self, pk_us]
  have e9 : (-9 : Int32) < 0 := by decide
  simp (disch := first | assumption | omega | decide | exact zin_d (by assumption) (by omega) (by omega) | (simp only [zb01]; done)) only [s_M_findStyle_50, s_M_findStyle_51, s_M_findStyle_54, s_M_findStyle_57, s_M_findStyle_59, s_M_findStyle_60, s_M_findStyle_63, s_M_findStyle_66, s_M_findStyle_69, s_M_findStyle_70, s_M_findStyle_72, s_M_findStyle_75, s_M_findStyle_76, s_M_findStyle_78, s_M_findStyle_81, s_M_findStyle_84, zlt, zle, zeq, zclamp, zinc, zdec, zdi, zdr, zdl, zdn, zpi, zpn, if_true, if_false, ite_not, Bool.false_eq_true, ne_eq, not_true_eq_false, not_false_eq_true, true_and, and_true, Nat.add_assoc, Nat.reduceAdd, e21, zift]
  refine loopI (α := Option Value) (N := 5) (fun o5 σ2 k => Ev zshM 235 16 [some (.ref 0), some (.int (nI j)), some (.int (nI i)), some (.int (mOf β (nI j)).1), some (.int (nI (k + 1))), o5] [] σ2 Q) (fun k σ2 => WMd σ2 (withM β (nI j) 0 (nI k)) ∧ frU σ σ2 ∧ σ2 0 21 = (styS β (nI j) i k).1 ∧ σ2 0 22 = (styS β (nI j) i k).2) (fun o5 k σ2 hk hp kk => ?_) (fun o5 σ2 hp => ?_) 0 _ _ (by omega) ⟨(h1.z0 (by omega)).z0 (by omega), ((((frU.z0 (by omega)).tr f1.U).tr (frU.z0 (by omega))).tr (frU.z0 (by omega))), ?_, ?_⟩
  · obtain ⟨q1, q2, q3, q4⟩ := hp
    obtain ⟨u, hu, eu⟩ := sty_num (β := β) (m := nI j) (n := i) k (by omega)
    refine think σ2 (withM β (nI j) 0 (nI k)) (k + 1) o5 q1 (withM_ok hB (by rw [if_pos rfl]; exact ⟨k, by omega, rfl⟩)) (fun x => hxx _ _) (by omega) (fun σ3 h3 f3 => ?_)
    have e21' : σ3 0 21 = nI u := by rw [f3.2.1 21 (by omega) (by omega) (by omega), q3, eu]
    have e22' : σ3 0 22 = (styS β (nI j) i k).2 := by rw [f3.2.1 22 (by omega) (by omega) (by omega), q4]
    have pu : ¬ nI u < 0 := nI_pos (by omega)
    by_cases h : (styS β (nI j) i k).2 < lspB (daysS i (withM β (nI j) 0 (nI (k + 1))))
    · have h' := Int32.not_le.mpr h
      have es : styS β (nI j) i (k + 1) = (nI (k + 1), lspB (daysS i (withM β (nI j) 0 (nI (k + 1))))) := by rw [styS, if_pos h]
      simp (disch := first | assumption | omega | decide | exact zin_d (by assumption) (by omega) (by omega) | (simp only [zb01]; done)) only [s_M_findStyle_50, s_M_findStyle_51, s_M_findStyle_54, s_M_findStyle_57, s_M_findStyle_59, s_M_findStyle_60, s_M_findStyle_63, s_M_findStyle_66, s_M_findStyle_69, s_M_findStyle_70, s_M_findStyle_72, s_M_findStyle_75, s_M_findStyle_76, s_M_findStyle_78, s_M_findStyle_81, s_M_findStyle_84, zlt, zle, zeq, zclamp, zinc, zdec, zdi, zdr, zdl, zdn, zpi, zpn, if_true, if_false, ite_not, Bool.false_eq_true, ne_eq, not_true_eq_false, not_false_eq_true, true_and, and_true, Nat.add_assoc, Nat.reduceAdd, e21', e22', zift, ziff]
      refine kk _ _ ⟨(h3.z0 (by omega)).z0 (by omega), ((q2.tr f3.U).tr (frU.z0 (by omega))).tr (frU.z0 (by omega)), ?_, ?_⟩
      · rw [es]; simp (disch := first | assumption | omega | decide | exact zin_d (by assumption) (by omega) (by omega) | (simp only [zb01]; done)) only [zup_ne, zup_self, pk_us, pk_un]
      · rw [es]; simp (disch := first | assumption | omega | decide | exact zin_d (by assumption) (by omega) (by omega) | (simp only [zb01]; done)) only [zup_ne, zup_self, pk_us, pk_un]
    · have h' := Int32.not_lt.mp h
      have es : styS β (nI j) i (k + 1) = styS β (nI j) i k := by rw [styS, if_neg h]
      simp (disch := first | assumption | omega | decide | exact zin_d (by assumption) (by omega) (by omega) | (simp only [zb01]; done)) only [s_M_findStyle_50, s_M_findStyle_51, s_M_findStyle_54, s_M_findStyle_57, s_M_findStyle_59, s_M_findStyle_60, s_M_findStyle_63, s_M_findStyle_66, s_M_findStyle_69, s_M_findStyle_70, s_M_findStyle_72, s_M_findStyle_75, s_M_findStyle_76, s_M_findStyle_78, s_M_findStyle_81, s_M_findStyle_84, zlt, zle, zeq, zclamp, zinc, zdec, zdi, zdr, zdl, zdn, zpi, zpn, if_true, if_false, ite_not, Bool.false_eq_true, ne_eq, not_true_eq_false, not_false_eq_true, true_and, and_true, Nat.add_assoc, Nat.reduceAdd, e21', e22', zift, ziff]
      refine kk _ _ ⟨h3, q2.tr f3.U, ?_, ?_⟩
      · rw [es, e21', eu]
      · rw [es]; exact e22'
  · obtain ⟨q1, q2, q3, q4⟩ := hp
    rw [s_M_findStyle_16]
    simp (disch := first | assumption | omega | decide | exact zin_d (by assumption) (by omega) (by omega) | (simp only [zb01]; done)) only [s_M_findStyle_0, s_M_findStyle_1, s_M_findStyle_4, s_M_findStyle_5, s_M_findStyle_6, s_M_findStyle_7, s_M_findStyle_8, s_M_findStyle_10, s_M_findStyle_13, s_M_findStyle_14, s_M_findStyle_18, s_M_findStyle_20, s_M_findStyle_23, s_M_findStyle_24, s_M_findStyle_27, s_M_findStyle_28, s_M_findStyle_30, s_M_findStyle_31, s_M_findStyle_32, s_M_findStyle_35, s_M_findStyle_36, s_M_findStyle_37, s_M_findStyle_40, s_M_findStyle_41, s_M_findStyle_44, s_M_findStyle_46, s_M_findStyle_47, s_M_findStyle_50, s_M_findStyle_51, s_M_findStyle_54, s_M_findStyle_57, s_M_findStyle_59, s_M_findStyle_60, s_M_findStyle_63, s_M_findStyle_66, s_M_findStyle_69, s_M_findStyle_70, s_M_findStyle_72, s_M_findStyle_75, s_M_findStyle_76, s_M_findStyle_78, s_M_findStyle_81, s_M_findStyle_84, s_M_findStyle_87, s_M_findStyle_88, s_M_findStyle_91, s_M_findStyle_92, s_M_findStyle_93, s_M_findStyle_94, zlt, zle, zeq, zclamp, zinc, zdec, zdi, zdr, zdl, zdn, zpi, zpn, if_true, if_false, ite_not, Bool.false_eq_true, ne_eq, not_true_eq_false, not_false_eq_true, true_and, and_true, Nat.add_assoc, Nat.reduceAdd, zlL_6, zlR_6, zeL_6, zeR_6, zqL_6, zcl_6, zift]
    have hb : WMd (zup σ2 5 j (mOf β (nI j)).1) β := by
      have h := WMd_set q1 hj (k := 0) (by omega) (mOf β (nI j)).1
      rw [ebk] at h
      exact h
    refine hQ _ hb (q2.tr (frM.z (by omega)).T.U) ?_ ?_
    · rw [zup_ne (by omega)]; exact q3
    · rw [zup_ne (by omega)]; exact q4
  · simp (disch := first | assumption | omega | decide | exact zin_d (by assumption) (by omega) (by omega) | (simp only [zb01]; done)) only [zup_ne, zup_self, pk_us, pk_un]; rfl
  · simp (disch := first | assumption | omega | decide | exact zin_d (by assumption) (by omega) (by omega) | (simp only [zb01]; done)) only [zup_ne, zup_self, pk_us, pk_un]; rfl
theorem sty_lsp {β : Bt} {m : Int32} {n : Nat} : ∀ k, (styS β m n k).2 = lspB (daysS n (withM β m 0 (styS β m n k).1)) := by
  intro k
  induction k with
  | zero => rfl
  | succ k ih =>
    rw [styS]
    split
    · rfl
    · exact ih
theorem M_best (hR : WX σ a) (hQ : ∀ σ', WX σ' (c_best a m n w).2 → Q (some (.int (c_best a m n w).1)) σ') : Ev zshM 236 0 [some (.ref 0), some (.int m), some (.int n), some (.int w), none] [] σ Q := by
  have hok := hR.1.2.1
  rw [c_best] at hQ
  by_cases hm : m = 0 ∨ m = 1
  · rw [if_pos hm] at hQ
    by_cases ho : outs n 0 20 = 0
    · rw [if_pos ho] at hQ
      obtain ⟨i, hi, rfl⟩ := in_le (n := 20) (by omega) (show 0 ≤ n ∧ n ≤ nI 20 from ⟨Int32.le_trans (by decide : (0 : Int32) ≤ 0) (outs_in ho).1, (outs_in ho).2⟩)
      rw [zclamp (by omega)] at hQ
      have hm' := hm
      obtain ⟨j, hj, rfl⟩ := mas_num hm
      by_cases w0 : w = 0
      · subst w0
        rw [if_pos rfl] at hQ
        have hb : btw 0 0 1 = true := rfl
        simp (disch := first | assumption | omega | decide | exact zin_d (by assumption) (by omega) (by omega) | (simp only [zb01]; done)) only [s_M_best_0, s_M_best_1, s_M_best_4, s_M_best_7, s_M_best_8, s_M_best_11, s_M_best_12, s_M_best_13, s_M_best_15, s_M_best_18, s_M_best_20, s_M_best_22, s_M_best_25, s_M_best_26, s_M_best_27, s_M_best_28, s_M_best_31, s_M_best_34, s_M_best_36, s_M_best_38, s_M_best_40, s_M_best_43, s_M_best_44, s_M_best_46, s_M_best_49, s_M_best_50, s_M_best_51, s_M_best_52, s_M_best_53, s_M_best_56, s_M_best_57, s_M_best_60, s_M_best_61, s_M_best_64, s_M_best_67, s_M_best_68, s_M_best_71, zlt, zle, zeq, zclamp, zinc, zdec, zdi, zdr, zdl, zdn, zpi, zpn, if_true, if_false, ite_not, Bool.false_eq_true, ne_eq, not_true_eq_false, not_false_eq_true, true_and, and_true, Nat.add_assoc, Nat.reduceAdd, M_isMason, M_bound, M_isIn, ho, zift, ziff]
        refine M_findStyle hR.1.1 hok hj (by omega) (fun σ1 h1 f1 g1 g2 => ?_)
        simp (disch := first | assumption | omega | decide | exact zin_d (by assumption) (by omega) (by omega) | (simp only [zb01]; done)) only [s_M_best_0, s_M_best_1, s_M_best_4, s_M_best_7, s_M_best_8, s_M_best_11, s_M_best_12, s_M_best_13, s_M_best_15, s_M_best_18, s_M_best_20, s_M_best_22, s_M_best_25, s_M_best_26, s_M_best_27, s_M_best_28, s_M_best_31, s_M_best_34, s_M_best_36, s_M_best_38, s_M_best_40, s_M_best_43, s_M_best_44, s_M_best_46, s_M_best_49, s_M_best_50, s_M_best_51, s_M_best_52, s_M_best_53, s_M_best_56, s_M_best_57, s_M_best_60, s_M_best_61, s_M_best_64, s_M_best_67, s_M_best_68, s_M_best_71, zlt, zle, zeq, zclamp, zinc, zdec, zdi, zdr, zdl, zdn, zpi, zpn, if_true, if_false, ite_not, Bool.false_eq_true, ne_eq, not_true_eq_false, not_false_eq_true, true_and, and_true, Nat.add_assoc, Nat.reduceAdd, g1, zift]
        exact hQ σ1 (hR.U h1 f1)
      rw [if_neg w0] at hQ
      by_cases w1 : w = 1
      · subst w1
        rw [if_pos rfl] at hQ
        have hb : btw 1 0 1 = true := rfl
        simp (disch := first | assumption | omega | decide | exact zin_d (by assumption) (by omega) (by omega) | (simp only [zb01]; done)) only [s_M_best_0, s_M_best_1, s_M_best_4, s_M_best_7, s_M_best_8, s_M_best_11, s_M_best_12, s_M_best_13, s_M_best_15, s_M_best_18, s_M_best_20, s_M_best_22, s_M_best_25, s_M_best_26, s_M_best_27, s_M_best_28, s_M_best_31, s_M_best_34, s_M_best_36, s_M_best_38, s_M_best_40, s_M_best_43, s_M_best_44, s_M_best_46, s_M_best_49, s_M_best_50, s_M_best_51, s_M_best_52, s_M_best_53, s_M_best_56, s_M_best_57, s_M_best_60, s_M_best_61, s_M_best_64, s_M_best_67, s_M_best_68, s_M_best_71, zlt, zle, zeq, zclamp, zinc, zdec, zdi, zdr, zdl, zdn, zpi, zpn, if_true, if_false, ite_not, Bool.false_eq_true, ne_eq, not_true_eq_false, not_false_eq_true, true_and, and_true, Nat.add_assoc, Nat.reduceAdd, M_isMason, M_bound, M_isIn, ho, zift, ziff]
        refine M_findStyle hR.1.1 hok hj (by omega) (fun σ1 h1 f1 g1 g2 => ?_)
        rw [sty_lsp] at g2
        simp (disch := first | assumption | omega | decide | exact zin_d (by assumption) (by omega) (by omega) | (simp only [zb01]; done)) only [s_M_best_0, s_M_best_1, s_M_best_4, s_M_best_7, s_M_best_8, s_M_best_11, s_M_best_12, s_M_best_13, s_M_best_15, s_M_best_18, s_M_best_20, s_M_best_22, s_M_best_25, s_M_best_26, s_M_best_27, s_M_best_28, s_M_best_31, s_M_best_34, s_M_best_36, s_M_best_38, s_M_best_40, s_M_best_43, s_M_best_44, s_M_best_46, s_M_best_49, s_M_best_50, s_M_best_51, s_M_best_52, s_M_best_53, s_M_best_56, s_M_best_57, s_M_best_60, s_M_best_61, s_M_best_64, s_M_best_67, s_M_best_68, s_M_best_71, zlt, zle, zeq, zclamp, zinc, zdec, zdi, zdr, zdl, zdn, zpi, zpn, if_true, if_false, ite_not, Bool.false_eq_true, ne_eq, not_true_eq_false, not_false_eq_true, true_and, and_true, Nat.add_assoc, Nat.reduceAdd, g2, ziff]
        exact hQ σ1 (hR.U h1 f1)
      rw [if_neg w1] at hQ
      have hb := btw01 w0 w1
      simp (disch := first | assumption | omega | decide | exact zin_d (by assumption) (by omega) (by omega) | (simp only [zb01]; done)) only [s_M_best_0, s_M_best_1, s_M_best_4, s_M_best_7, s_M_best_8, s_M_best_11, s_M_best_12, s_M_best_13, s_M_best_15, s_M_best_18, s_M_best_20, s_M_best_22, s_M_best_25, s_M_best_26, s_M_best_27, s_M_best_28, s_M_best_31, s_M_best_34, s_M_best_36, s_M_best_38, s_M_best_40, s_M_best_43, s_M_best_44, s_M_best_46, s_M_best_49, s_M_best_50, s_M_best_51, s_M_best_52, s_M_best_53, s_M_best_56, s_M_best_57, s_M_best_60, s_M_best_61, s_M_best_64, s_M_best_67, s_M_best_68, s_M_best_71, zlt, zle, zeq, zclamp, zinc, zdec, zdi, zdr, zdl, zdn, zpi, zpn, if_true, if_false, ite_not, Bool.false_eq_true, ne_eq, not_true_eq_false, not_false_eq_true, true_and, and_true, Nat.add_assoc, Nat.reduceAdd, M_isMason, M_bound, M_isIn, ho, zift, ziff]
      refine M_lower hR ref2 (fun σ' h => ?_)
      simp (disch := first | assumption | omega | decide | exact zin_d (by assumption) (by omega) (by omega) | (simp only [zb01]; done)) only [s_M_best_0, s_M_best_1, s_M_best_4, s_M_best_7, s_M_best_8, s_M_best_11, s_M_best_12, s_M_best_13, s_M_best_15, s_M_best_18, s_M_best_20, s_M_best_22, s_M_best_25, s_M_best_26, s_M_best_27, s_M_best_28, s_M_best_31, s_M_best_34, s_M_best_36, s_M_best_38, s_M_best_40, s_M_best_43, s_M_best_44, s_M_best_46, s_M_best_49, s_M_best_50, s_M_best_51, s_M_best_52, s_M_best_53, s_M_best_56, s_M_best_57, s_M_best_60, s_M_best_61, s_M_best_64, s_M_best_67, s_M_best_68, s_M_best_71, zlt, zle, zeq, zclamp, zinc, zdec, zdi, zdr, zdl, zdn, zpi, zpn, if_true, if_false, ite_not, Bool.false_eq_true, ne_eq, not_true_eq_false, not_false_eq_true, true_and, and_true, Nat.add_assoc, Nat.reduceAdd]
      exact hQ σ' h
    · rw [if_neg ho] at hQ
      simp (disch := first | assumption | omega | decide | exact zin_d (by assumption) (by omega) (by omega) | (simp only [zb01]; done)) only [s_M_best_0, s_M_best_1, s_M_best_4, s_M_best_7, s_M_best_8, s_M_best_11, s_M_best_12, s_M_best_13, s_M_best_15, s_M_best_18, s_M_best_20, s_M_best_22, s_M_best_25, s_M_best_26, s_M_best_27, s_M_best_28, s_M_best_31, s_M_best_34, s_M_best_36, s_M_best_38, s_M_best_40, s_M_best_43, s_M_best_44, s_M_best_46, s_M_best_49, s_M_best_50, s_M_best_51, s_M_best_52, s_M_best_53, s_M_best_56, s_M_best_57, s_M_best_60, s_M_best_61, s_M_best_64, s_M_best_67, s_M_best_68, s_M_best_71, zlt, zle, zeq, zclamp, zinc, zdec, zdi, zdr, zdl, zdn, zpi, zpn, if_true, if_false, ite_not, Bool.false_eq_true, ne_eq, not_true_eq_false, not_false_eq_true, true_and, and_true, Nat.add_assoc, Nat.reduceAdd, M_isMason, M_bound, zift, ziff]
      refine M_lower hR (outs_ref ho) (fun σ' h => ?_)
      simp (disch := first | assumption | omega | decide | exact zin_d (by assumption) (by omega) (by omega) | (simp only [zb01]; done)) only [s_M_best_0, s_M_best_1, s_M_best_4, s_M_best_7, s_M_best_8, s_M_best_11, s_M_best_12, s_M_best_13, s_M_best_15, s_M_best_18, s_M_best_20, s_M_best_22, s_M_best_25, s_M_best_26, s_M_best_27, s_M_best_28, s_M_best_31, s_M_best_34, s_M_best_36, s_M_best_38, s_M_best_40, s_M_best_43, s_M_best_44, s_M_best_46, s_M_best_49, s_M_best_50, s_M_best_51, s_M_best_52, s_M_best_53, s_M_best_56, s_M_best_57, s_M_best_60, s_M_best_61, s_M_best_64, s_M_best_67, s_M_best_68, s_M_best_71, zlt, zle, zeq, zclamp, zinc, zdec, zdi, zdr, zdl, zdn, zpi, zpn, if_true, if_false, ite_not, Bool.false_eq_true, ne_eq, not_true_eq_false, not_false_eq_true, true_and, and_true, Nat.add_assoc, Nat.reduceAdd]
      exact hQ σ' h
  · rw [if_neg hm] at hQ
    simp (disch := first | assumption | omega | decide | exact zin_d (by assumption) (by omega) (by omega) | (simp only [zb01]; done)) only [s_M_best_0, s_M_best_1, s_M_best_4, s_M_best_7, s_M_best_8, s_M_best_11, s_M_best_12, s_M_best_13, s_M_best_15, s_M_best_18, s_M_best_20, s_M_best_22, s_M_best_25, s_M_best_26, s_M_best_27, s_M_best_28, s_M_best_31, s_M_best_34, s_M_best_36, s_M_best_38, s_M_best_40, s_M_best_43, s_M_best_44, s_M_best_46, s_M_best_49, s_M_best_50, s_M_best_51, s_M_best_52, s_M_best_53, s_M_best_56, s_M_best_57, s_M_best_60, s_M_best_61, s_M_best_64, s_M_best_67, s_M_best_68, s_M_best_71, zlt, zle, zeq, zclamp, zinc, zdec, zdi, zdr, zdl, zdn, zpi, zpn, if_true, if_false, ite_not, Bool.false_eq_true, ne_eq, not_true_eq_false, not_false_eq_true, true_and, and_true, Nat.add_assoc, Nat.reduceAdd, M_isMason, zift, ziff]
    refine M_lower hR ref1 (fun σ' h => ?_)
    simp (disch := first | assumption | omega | decide | exact zin_d (by assumption) (by omega) (by omega) | (simp only [zb01]; done)) only [s_M_best_0, s_M_best_1, s_M_best_4, s_M_best_7, s_M_best_8, s_M_best_11, s_M_best_12, s_M_best_13, s_M_best_15, s_M_best_18, s_M_best_20, s_M_best_22, s_M_best_25, s_M_best_26, s_M_best_27, s_M_best_28, s_M_best_31, s_M_best_34, s_M_best_36, s_M_best_38, s_M_best_40, s_M_best_43, s_M_best_44, s_M_best_46, s_M_best_49, s_M_best_50, s_M_best_51, s_M_best_52, s_M_best_53, s_M_best_56, s_M_best_57, s_M_best_60, s_M_best_61, s_M_best_64, s_M_best_67, s_M_best_68, s_M_best_71, zlt, zle, zeq, zclamp, zinc, zdec, zdi, zdr, zdl, zdn, zpi, zpn, if_true, if_false, ite_not, Bool.false_eq_true, ne_eq, not_true_eq_false, not_false_eq_true, true_and, and_true, Nat.add_assoc, Nat.reduceAdd]
    exact hQ σ' h
end
