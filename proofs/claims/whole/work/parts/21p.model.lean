theorem k4 : ∀ k, k < 4 → nI k / 2 = nI (k / 2) ∧ nI k - nI (k / 2) * 2 = nI (k % 2) ∧ 2 * nI k = nI (2 * k) ∧ nI (2 * k) + 1 = nI (2 * k + 1) ∧ nI k ^^^ 2 = nI ((k + 2) % 4) ∧ nI k ^^^ 1 = nI (2 * (k / 2) + (1 - k % 2)) ∧ 1 - nI (k / 2) = nI ((k + 2) % 4 / 2) ∧ 1 - nI (k % 2) = nI (1 - k % 2) ∧ 10 * nI (k / 2) + nI (k % 2) = nI (10 * (k / 2) + k % 2) := by decide
theorem two_eq {β : Bt} {n : Nat} : twoS β n = if settled β n (nI 0) (nI 0) = true then nI 0 else if settled β n (nI 0) (nI 1) = true then nI 1 else if settled β n (nI 1) (nI 0) = true then nI 10 else if settled β n (nI 1) (nI 1) = true then nI 11 else -9 := by
  have h9 : ((-9 : Int32) = -9) := rfl
  rw [twoS, zg, zg, zg, twoG, twoG, twoI, twoI, zf, zf, zf, zf, zf, zf]
  by_cases h1 : settled β n (nI 0) (nI 0) = true
  · simp only [h1, if_true]
    rfl
  · by_cases h2 : settled β n (nI 0) (nI (0 + 1)) = true
    · have h2' : settled β n (nI 0) (nI 1) = true := h2
      simp only [h1, h2, h2', if_true]
      rfl
    · have h2' : ¬ settled β n (nI 0) (nI 1) = true := h2
      by_cases h3 : settled β n (nI (0 + 1)) (nI 0) = true
      · have h3' : settled β n (nI 1) (nI 0) = true := h3
        simp only [h1, h2, h2', h3, h3', if_true]
        rfl
      · have h3' : ¬ settled β n (nI 1) (nI 0) = true := h3
        by_cases h4 : settled β n (nI (0 + 1)) (nI (0 + 1)) = true
        · have h4' : settled β n (nI 1) (nI 1) = true := h4
          simp only [h1, h2, h2', h3, h3', h4, h4', if_true]
          rfl
        · have h4' : ¬ settled β n (nI 1) (nI 1) = true := h4
          simp only [h1, h2, h2', h3, h3', h4, h4', if_true]
          rfl
section
variable {σ : zG} {Q : Option Value → zG → Prop} {a : At} {x y z m w v o f n : Int32} {β : Bt} {i j k : Nat}
theorem gnB_ok (h : Bok β) {f s : Nat} (hf : f ≤ 1) (hs : s ≤ 1) : Bok (gnB β (nI f) (nI s)) := by
  have e : ∀ t, t ≤ 1 → (9 : Int32) * nI t = nI (9 * t) := by decide
  rw [gnB, e f hf, e s hs]
  exact ⟨h.1, mset_ok h.2.1 (by rw [if_neg (by omega)]; exact ⟨9 * f, by omega, rfl⟩), mset_ok h.2.2.1 (by rw [if_neg (by omega)]; exact ⟨9 * s, by omega, rfl⟩), h.2.2.2⟩
/-- gets' first 2k are so -/
def getsOk (σ : zG) (β : Bt) (i k : Nat) : Prop := ∀ t, t < k → σ 13 (2 * t) = gnS β 0 (nI (t / 2)) (nI (t % 2)) i ∧ σ 13 (2 * t + 1) = gnS β 1 (nI (t / 2)) (nI (t % 2)) i
theorem M_findGets (hW : WMd σ β) (hB : Bok β) (hi : i ≤ 1000) (hQ : ∀ σ', WMd σ' β → frU σ σ' → getsOk σ' β i 4 → Q none σ') : Ev zshM 241 0 [some (.ref 0), some (.int (nI i)), none, none] [] σ Q := by
  have z7 : zshM 7 = 100 + 2 := rfl
  have z13 : zshM 13 = 100 + 8 := rfl
  have hq0 := hW.2.2.2.1
  simp (disch := first | assumption | omega | decide | exact zin_d (by assumption) (by omega) (by omega) | (simp only [zb01]; done)) only [s_M_findGets_0, s_M_findGets_1, s_M_findGets_4, s_M_findGets_5, s_M_findGets_6, zlt, zle, zeq, zclamp, zinc, zdec, zdi, zdr, zdl, zdn, zpi, zpn, if_true, if_false, ite_not, Bool.false_eq_true, ne_eq, not_true_eq_false, not_false_eq_true, true_and, and_true, Nat.add_assoc, Nat.reduceAdd, hq0]
  refine loopI (α := Unit) (N := 4) (fun _ σ1 k => Ev zshM 241 7 [some (.ref 0), some (.int (nI i)), some (.int β.2.2.2.1), some (.int (nI k))] [] σ1 Q) (fun k σ1 => WMd σ1 β ∧ frU σ σ1 ∧ getsOk σ1 β i k) (fun _ k σ1 hk hp kk => ?_) (fun _ σ1 hp => ?_) 0 () σ (Nat.zero_le _) ⟨hW, frU.rf, fun t ht => absurd ht (Nat.not_lt_zero t)⟩
  · obtain ⟨q1, q2, q3⟩ := hp
    obtain ⟨e1, e2, e3, e4, -, -, -, -, -⟩ := k4 k hk
    have zi0 : zin 0 (zshM 7) = true := zin_d (i := 0) z7 (by omega) (by omega)
    have zi1 : zin 1 (zshM 7) = true := zin_d (i := 1) z7 (by omega) (by omega)
    have hk0 : 2 * k < 8 := by omega
    have hk1 : 2 * k + 1 < 8 := by omega
    have hD := gnB_ok hB (f := k / 2) (s := k % 2) (by omega) (by omega)
    rw [s_M_findGets_7]
    simp (disch := first | assumption | omega | decide | exact zin_d (by assumption) (by omega) (by omega) | (simp only [zb01]; done)) only [s_M_findGets_8, s_M_findGets_9, s_M_findGets_12, s_M_findGets_13, zlt, zle, zeq, zclamp, zinc, zdec, zdi, zdr, zdl, zdn, zpi, zpn, if_true, if_false, ite_not, Bool.false_eq_true, ne_eq, not_true_eq_false, not_false_eq_true, true_and, and_true, Nat.add_assoc, Nat.reduceAdd, zlL_4, zlR_4, zeL_4, zeR_4, zqL_4, zcl_4, ziff]
    refine M_thinks q1 (fun σ2 h2 k2 f2 => ?_)
    simp (disch := first | assumption | omega | decide | exact zin_d (by assumption) (by omega) (by omega) | (simp only [zb01]; done)) only [s_M_findGets_16, s_M_findGets_17, s_M_findGets_20, s_M_findGets_21, s_M_findGets_23, s_M_findGets_24, s_M_findGets_25, s_M_findGets_26, s_M_findGets_27, s_M_findGets_28, s_M_findGets_29, s_M_findGets_32, s_M_findGets_33, s_M_findGets_35, s_M_findGets_36, s_M_findGets_37, s_M_findGets_38, s_M_findGets_39, s_M_findGets_40, s_M_findGets_41, s_M_findGets_42, zlt, zle, zeq, zclamp, zinc, zdec, zdi, zdr, zdl, zdn, zpi, zpn, if_true, if_false, ite_not, Bool.false_eq_true, ne_eq, not_true_eq_false, not_false_eq_true, true_and, and_true, Nat.add_assoc, Nat.reduceAdd, zlL_0, zlR_0, zeL_0, zeR_0, zqL_0, zcl_0, zlL_1, zlR_1, zeL_1, zeR_1, zqL_1, zcl_1, e1, e2, zift, ziff]
    have hW2 : WMd (zup (zup σ2 7 0 (9 * nI (k / 2))) 7 1 (9 * nI (k % 2))) (gnB β (nI (k / 2)) (nI (k % 2))) := by
      have g1 := WMd_set h2 (j := 0) (k := 2) (by omega) (by omega) (9 * nI (k / 2))
      have g2 := WMd_set g1 (j := 1) (k := 2) (by omega) (by omega) (9 * nI (k % 2))
      exact g2
    refine M_goes hW2 hD hi (fun σ3 h3 f3 => ?_)
    have hG := daysS_ok hD i
    have hq3 := h3.2.2.2.1
    have hK3 : WK σ3 _ _ _ _ := h3.1
    have hq4 : ∀ v, zup σ3 13 (2 * k) v 0 8 = (daysS i (gnB β (nI (k / 2)) (nI (k % 2)))).2.2.2.1 := fun v => by rw [zup_ne (by omega)]; exact hq3
    have hK4 : ∀ v, WK (zup σ3 13 (2 * k) v) _ _ _ _ := fun v => hK3.keep (by rw [zup_ne (by omega)]) (fun c _ _ => zup_ne (by omega))
    simp (disch := first | assumption | omega | decide | exact zin_d (by assumption) (by omega) (by omega) | (simp only [zb01]; done)) only [s_M_findGets_45, s_M_findGets_46, s_M_findGets_49, s_M_findGets_50, s_M_findGets_51, s_M_findGets_52, s_M_findGets_53, s_M_findGets_54, s_M_findGets_57, s_M_findGets_58, s_M_findGets_61, s_M_findGets_62, s_M_findGets_63, s_M_findGets_64, s_M_findGets_65, s_M_findGets_66, s_M_findGets_69, s_M_findGets_70, s_M_findGets_71, s_M_findGets_72, s_M_findGets_73, s_M_findGets_74, s_M_findGets_75, s_M_findGets_76, s_M_findGets_79, s_M_findGets_80, s_M_findGets_83, s_M_findGets_84, s_M_findGets_85, s_M_findGets_86, s_M_findGets_87, s_M_findGets_88, zlt, zle, zeq, zclamp, zinc, zdec, zdi, zdr, zdl, zdn, zpi, zpn, if_true, if_false, ite_not, Bool.false_eq_true, ne_eq, not_true_eq_false, not_false_eq_true, true_and, and_true, Nat.add_assoc, Nat.reduceAdd, e3, e4, M_laidBy hK3 hG.1.1, hq3]
    simp (disch := first | assumption | omega | decide | exact zin_d (by assumption) (by omega) (by omega) | (simp only [zb01]; done)) only [s_M_findGets_45, s_M_findGets_46, s_M_findGets_49, s_M_findGets_50, s_M_findGets_51, s_M_findGets_52, s_M_findGets_53, s_M_findGets_54, s_M_findGets_57, s_M_findGets_58, s_M_findGets_61, s_M_findGets_62, s_M_findGets_63, s_M_findGets_64, s_M_findGets_65, s_M_findGets_66, s_M_findGets_69, s_M_findGets_70, s_M_findGets_71, s_M_findGets_72, s_M_findGets_73, s_M_findGets_74, s_M_findGets_75, s_M_findGets_76, s_M_findGets_79, s_M_findGets_80, s_M_findGets_83, s_M_findGets_84, s_M_findGets_85, s_M_findGets_86, s_M_findGets_87, s_M_findGets_88, zlt, zle, zeq, zclamp, zinc, zdec, zdi, zdr, zdl, zdn, zpi, zpn, if_true, if_false, ite_not, Bool.false_eq_true, ne_eq, not_true_eq_false, not_false_eq_true, true_and, and_true, Nat.add_assoc, Nat.reduceAdd, e3, e4, M_laidBy (hK4 _) hG.1.1, hq4]
    refine M_forgets (k2.keep ?_) (fun σ4 h4 f4 => ?_)
    · rw [zup_ne (by omega), zup_ne (by omega), f3.1 12 (by omega), zup_ne (by omega), zup_ne (by omega)]
    simp (disch := first | assumption | omega | decide | exact zin_d (by assumption) (by omega) (by omega) | (simp only [zb01]; done)) only [s_M_findGets_87, s_M_findGets_88, s_M_findGets_91, s_M_findGets_94, zlt, zle, zeq, zclamp, zinc, zdec, zdi, zdr, zdl, zdn, zpi, zpn, if_true, if_false, ite_not, Bool.false_eq_true, ne_eq, not_true_eq_false, not_false_eq_true, true_and, and_true, Nat.add_assoc, Nat.reduceAdd]
    have e13 : σ4 13 = _ := f4.1 13 (by omega)
    have e13' : σ3 13 = σ1 13 := by rw [f3.1 13 (by omega), zup_ne (by omega), zup_ne (by omega), f2.1 13 (by omega)]
    refine kk () σ4 ⟨h4, ?_, fun t ht => ?_⟩
    · refine (((q2.tr f2.U).tr ?_).tr (f3.T.U.tr ?_)).tr f4.U
      · exact ((frM.z (by omega)).tr (frM.z (by omega))).T.U
      · exact ⟨fun c hc => by rw [zup_ne (by omega), zup_ne (by omega)], fun j hj => by rw [zup_ne (by omega), zup_ne (by omega)], fun j hj => by rw [zup_ne (by omega), zup_ne (by omega)]⟩
    · rw [e13]
      by_cases e : t = k
      · subst e
        refine ⟨?_, ?_⟩
        · simp (disch := first | assumption | omega | decide | exact zin_d (by assumption) (by omega) (by omega) | (simp only [zb01]; done)) only [zup_ne, zup_self, pk_us, pk_un]; rfl
        · simp (disch := first | assumption | omega | decide | exact zin_d (by assumption) (by omega) (by omega) | (simp only [zb01]; done)) only [zup_ne, zup_self, pk_us, pk_un]; rfl
      · obtain ⟨r1, r2⟩ := q3 t (by omega)
        have n1 : ¬ 2 * t = 2 * k := by omega
        have n2 : ¬ 2 * t = 2 * k + 1 := by omega
        have n3 : ¬ 2 * t + 1 = 2 * k := by omega
        have n4 : ¬ 2 * t + 1 = 2 * k + 1 := by omega
        simp (disch := first | assumption | omega | decide | exact zin_d (by assumption) (by omega) (by omega) | (simp only [zb01]; done)) only [zup_ne, zup_self, pk_us, pk_un, e13']
        exact ⟨r1, r2⟩
  · obtain ⟨q1, q2, q3⟩ := hp
    rw [s_M_findGets_7]
    simp (disch := first | assumption | omega | decide | exact zin_d (by assumption) (by omega) (by omega) | (simp only [zb01]; done)) only [s_M_findGets_0, s_M_findGets_1, s_M_findGets_4, s_M_findGets_5, s_M_findGets_6, s_M_findGets_8, s_M_findGets_9, s_M_findGets_12, s_M_findGets_13, s_M_findGets_16, s_M_findGets_17, s_M_findGets_20, s_M_findGets_21, s_M_findGets_23, s_M_findGets_24, s_M_findGets_25, s_M_findGets_26, s_M_findGets_27, s_M_findGets_28, s_M_findGets_29, s_M_findGets_32, s_M_findGets_33, s_M_findGets_35, s_M_findGets_36, s_M_findGets_37, s_M_findGets_38, s_M_findGets_39, s_M_findGets_40, s_M_findGets_41, s_M_findGets_42, s_M_findGets_45, s_M_findGets_46, s_M_findGets_49, s_M_findGets_50, s_M_findGets_51, s_M_findGets_52, s_M_findGets_53, s_M_findGets_54, s_M_findGets_57, s_M_findGets_58, s_M_findGets_61, s_M_findGets_62, s_M_findGets_63, s_M_findGets_64, s_M_findGets_65, s_M_findGets_66, s_M_findGets_69, s_M_findGets_70, s_M_findGets_71, s_M_findGets_72, s_M_findGets_73, s_M_findGets_74, s_M_findGets_75, s_M_findGets_76, s_M_findGets_79, s_M_findGets_80, s_M_findGets_83, s_M_findGets_84, s_M_findGets_85, s_M_findGets_86, s_M_findGets_87, s_M_findGets_88, s_M_findGets_91, s_M_findGets_94, s_M_findGets_97, zlt, zle, zeq, zclamp, zinc, zdec, zdi, zdr, zdl, zdn, zpi, zpn, if_true, if_false, ite_not, Bool.false_eq_true, ne_eq, not_true_eq_false, not_false_eq_true, true_and, and_true, Nat.add_assoc, Nat.reduceAdd, zlL_4, zlR_4, zeL_4, zeR_4, zqL_4, zcl_4, zift]
    exact hQ σ1 q1 q2 q3
theorem M_two (hR : WX σ a) (hQ : ∀ σ', WX σ' (c_two a n).2 → Q (some (.int (c_two a n).1)) σ') : Ev zshM 242 0 [some (.ref 0), some (.int n), none, none] [] σ Q := by
  have hok := hR.1.2.1
  have z13 : zshM 13 = 100 + 8 := rfl
  rw [c_two] at hQ
  by_cases ho : outs n 0 30 = 0
  · rw [if_pos ho] at hQ
    obtain ⟨i, hi, rfl⟩ := in_le (n := 30) (by omega) (show 0 ≤ n ∧ n ≤ nI 30 from ⟨Int32.le_trans (by decide : (0 : Int32) ≤ 0) (outs_in ho).1, (outs_in ho).2⟩)
    rw [zclamp (by omega), two_eq] at hQ
    simp (disch := first | assumption | omega | decide | exact zin_d (by assumption) (by omega) (by omega) | (simp only [zb01]; done)) only [s_M_two_0, s_M_two_1, s_M_two_2, s_M_two_4, s_M_two_7, s_M_two_8, s_M_two_9, s_M_two_12, s_M_two_13, s_M_two_14, s_M_two_17, s_M_two_18, s_M_two_19, s_M_two_20, s_M_two_23, s_M_two_24, zlt, zle, zeq, zclamp, zinc, zdec, zdi, zdr, zdl, zdn, zpi, zpn, if_true, if_false, ite_not, Bool.false_eq_true, ne_eq, not_true_eq_false, not_false_eq_true, true_and, and_true, Nat.add_assoc, Nat.reduceAdd, M_bound, ho, zift, ziff]
    refine M_findGets hR.1.1 hok (by omega) (fun σ1 h1 f1 g1 => ?_)
    have hq := hQ σ1 (hR.U h1 f1)
    have step : ∀ k, k < 4 → Ev zshM 242 25 [some (.ref 0), some (.int (nI i)), some (.int 0), some (.int (nI k))] [] σ1 Q = if settled a.1 i (nI (k / 2)) (nI (k % 2)) = true then Q (some (.int (nI (10 * (k / 2) + k % 2)))) σ1 else Ev zshM 242 25 [some (.ref 0), some (.int (nI i)), some (.int 0), some (.int (nI (k + 1)))] [] σ1 Q := by
      intro k hk
      obtain ⟨e1, e2, e3, e4, e5, e6, e7, e8, e9⟩ := k4 k hk
      obtain ⟨-, -, a3, a4, -, -, -, -, -⟩ := k4 ((k + 2) % 4) (by omega)
      obtain ⟨-, -, b3, b4, -, -, -, -, -⟩ := k4 (2 * (k / 2) + (1 - k % 2)) (by omega)
      have l1 : 2 * k < 8 := by omega
      have l2 : 2 * k + 1 < 8 := by omega
      have l3 : 2 * ((k + 2) % 4) < 8 := by omega
      have l4 : 2 * (2 * (k / 2) + (1 - k % 2)) + 1 < 8 := by omega
      obtain ⟨r1, r2⟩ := g1 k hk
      have r3 := (g1 ((k + 2) % 4) (by omega)).1
      have r4 := (g1 (2 * (k / 2) + (1 - k % 2)) (by omega)).2
      rw [show (k + 2) % 4 % 2 = k % 2 by omega, ← e7] at r3
      rw [show (2 * (k / 2) + (1 - k % 2)) / 2 = k / 2 by omega, show (2 * (k / 2) + (1 - k % 2)) % 2 = 1 - k % 2 by omega, ← e8] at r4
      have es : (settled a.1 i (nI (k / 2)) (nI (k % 2)) = true) = (gnS a.1 0 (1 - nI (k / 2)) (nI (k % 2)) i ≤ gnS a.1 0 (nI (k / 2)) (nI (k % 2)) i ∧ gnS a.1 1 (nI (k / 2)) (1 - nI (k % 2)) i ≤ gnS a.1 1 (nI (k / 2)) (nI (k % 2)) i) := by
        rw [settled, Bool.and_eq_true, decide_eq_true_eq, decide_eq_true_eq]
      generalize gnS a.1 0 (1 - nI (k / 2)) (nI (k % 2)) i = u1 at *
      generalize gnS a.1 0 (nI (k / 2)) (nI (k % 2)) i = u2 at *
      generalize gnS a.1 1 (nI (k / 2)) (1 - nI (k % 2)) i = u3 at *
      generalize gnS a.1 1 (nI (k / 2)) (nI (k % 2)) i = u4 at *
      rw [s_M_two_25]
      by_cases c1 : u1 ≤ u2
      · have c1' := Int32.not_lt.mpr c1
        by_cases c2 : u3 ≤ u4
        · have c2' := Int32.not_lt.mpr c2
          rw [if_pos (es.mpr ⟨c1, c2⟩)]
          simp (disch := first | assumption | omega | decide | exact zin_d (by assumption) (by omega) (by omega) | (simp only [zb01]; done)) only [s_M_two_26, s_M_two_27, s_M_two_30, s_M_two_31, s_M_two_34, s_M_two_35, s_M_two_36, s_M_two_37, s_M_two_38, s_M_two_39, s_M_two_40, s_M_two_41, s_M_two_44, s_M_two_45, s_M_two_46, s_M_two_47, s_M_two_48, s_M_two_51, s_M_two_52, s_M_two_55, s_M_two_56, s_M_two_57, s_M_two_58, s_M_two_59, s_M_two_60, s_M_two_61, s_M_two_62, s_M_two_63, s_M_two_64, s_M_two_67, s_M_two_68, s_M_two_69, s_M_two_70, s_M_two_71, s_M_two_72, s_M_two_73, s_M_two_76, s_M_two_78, s_M_two_79, s_M_two_80, s_M_two_81, s_M_two_82, s_M_two_83, s_M_two_84, s_M_two_85, s_M_two_86, s_M_two_87, s_M_two_90, s_M_two_93, s_M_two_95, zlt, zle, zeq, zclamp, zinc, zdec, zdi, zdr, zdl, zdn, zpi, zpn, if_true, if_false, ite_not, Bool.false_eq_true, ne_eq, not_true_eq_false, not_false_eq_true, true_and, and_true, Nat.add_assoc, Nat.reduceAdd, zlL_4, zlR_4, zeL_4, zeR_4, zqL_4, zcl_4, e1, e2, e3, e4, e5, e6, e9, a3, b3, b4, r1, r2, r3, r4, zift, ziff]
        · have c2' := Int32.not_le.mp c2
          rw [if_neg (fun z => c2 (es.mp z).2)]
          simp (disch := first | assumption | omega | decide | exact zin_d (by assumption) (by omega) (by omega) | (simp only [zb01]; done)) only [s_M_two_26, s_M_two_27, s_M_two_30, s_M_two_31, s_M_two_34, s_M_two_35, s_M_two_36, s_M_two_37, s_M_two_38, s_M_two_39, s_M_two_40, s_M_two_41, s_M_two_44, s_M_two_45, s_M_two_46, s_M_two_47, s_M_two_48, s_M_two_51, s_M_two_52, s_M_two_55, s_M_two_56, s_M_two_57, s_M_two_58, s_M_two_59, s_M_two_60, s_M_two_61, s_M_two_62, s_M_two_63, s_M_two_64, s_M_two_67, s_M_two_68, s_M_two_69, s_M_two_70, s_M_two_71, s_M_two_72, s_M_two_73, s_M_two_76, s_M_two_78, s_M_two_79, s_M_two_80, s_M_two_81, s_M_two_82, s_M_two_83, s_M_two_84, s_M_two_85, s_M_two_86, s_M_two_87, s_M_two_90, s_M_two_93, s_M_two_95, zlt, zle, zeq, zclamp, zinc, zdec, zdi, zdr, zdl, zdn, zpi, zpn, if_true, if_false, ite_not, Bool.false_eq_true, ne_eq, not_true_eq_false, not_false_eq_true, true_and, and_true, Nat.add_assoc, Nat.reduceAdd, zlL_4, zlR_4, zeL_4, zeR_4, zqL_4, zcl_4, e1, e2, e3, e4, e5, e6, e9, a3, b3, b4, r1, r2, r3, r4, zift, ziff]
      · have c1' := Int32.not_le.mp c1
        rw [if_neg (fun z => c1 (es.mp z).1)]
        simp (disch := first | assumption | omega | decide | exact zin_d (by assumption) (by omega) (by omega) | (simp only [zb01]; done)) only [s_M_two_26, s_M_two_27, s_M_two_30, s_M_two_31, s_M_two_34, s_M_two_35, s_M_two_36, s_M_two_37, s_M_two_38, s_M_two_39, s_M_two_40, s_M_two_41, s_M_two_44, s_M_two_45, s_M_two_46, s_M_two_47, s_M_two_48, s_M_two_51, s_M_two_52, s_M_two_55, s_M_two_56, s_M_two_57, s_M_two_58, s_M_two_59, s_M_two_60, s_M_two_61, s_M_two_62, s_M_two_63, s_M_two_64, s_M_two_67, s_M_two_68, s_M_two_69, s_M_two_70, s_M_two_71, s_M_two_72, s_M_two_73, s_M_two_76, s_M_two_78, s_M_two_79, s_M_two_80, s_M_two_81, s_M_two_82, s_M_two_83, s_M_two_84, s_M_two_85, s_M_two_86, s_M_two_87, s_M_two_90, s_M_two_93, s_M_two_95, zlt, zle, zeq, zclamp, zinc, zdec, zdi, zdr, zdl, zdn, zpi, zpn, if_true, if_false, ite_not, Bool.false_eq_true, ne_eq, not_true_eq_false, not_false_eq_true, true_and, and_true, Nat.add_assoc, Nat.reduceAdd, zlL_4, zlR_4, zeL_4, zeR_4, zqL_4, zcl_4, e1, e2, e3, e4, e5, e6, e9, a3, b3, b4, r1, r2, r3, r4, zift, ziff]
    have end4 : Ev zshM 242 25 [some (.ref 0), some (.int (nI i)), some (.int 0), some (.int (nI 4))] [] σ1 Q = Q (some (.int (-9))) σ1 := by
      rw [s_M_two_25]
      simp (disch := first | assumption | omega | decide | exact zin_d (by assumption) (by omega) (by omega) | (simp only [zb01]; done)) only [s_M_two_26, s_M_two_27, s_M_two_30, s_M_two_31, s_M_two_34, s_M_two_35, s_M_two_36, s_M_two_37, s_M_two_38, s_M_two_39, s_M_two_40, s_M_two_41, s_M_two_44, s_M_two_45, s_M_two_46, s_M_two_47, s_M_two_48, s_M_two_51, s_M_two_52, s_M_two_55, s_M_two_56, s_M_two_57, s_M_two_58, s_M_two_59, s_M_two_60, s_M_two_61, s_M_two_62, s_M_two_63, s_M_two_64, s_M_two_67, s_M_two_68, s_M_two_69, s_M_two_70, s_M_two_71, s_M_two_72, s_M_two_73, s_M_two_76, s_M_two_78, s_M_two_79, s_M_two_80, s_M_two_81, s_M_two_82, s_M_two_83, s_M_two_84, s_M_two_85, s_M_two_86, s_M_two_87, s_M_two_90, s_M_two_93, s_M_two_95, zlt, zle, zeq, zclamp, zinc, zdec, zdi, zdr, zdl, zdn, zpi, zpn, if_true, if_false, ite_not, Bool.false_eq_true, ne_eq, not_true_eq_false, not_false_eq_true, true_and, and_true, Nat.add_assoc, Nat.reduceAdd, zlL_4, zlR_4, zeL_4, zeR_4, zqL_4, zcl_4, zift]
    simp (disch := first | assumption | omega | decide | exact zin_d (by assumption) (by omega) (by omega) | (simp only [zb01]; done)) only [s_M_two_0, s_M_two_1, s_M_two_2, s_M_two_4, s_M_two_7, s_M_two_8, s_M_two_9, s_M_two_12, s_M_two_13, s_M_two_14, s_M_two_17, s_M_two_18, s_M_two_19, s_M_two_20, s_M_two_23, s_M_two_24, zlt, zle, zeq, zclamp, zinc, zdec, zdi, zdr, zdl, zdn, zpi, zpn, if_true, if_false, ite_not, Bool.false_eq_true, ne_eq, not_true_eq_false, not_false_eq_true, true_and, and_true, Nat.add_assoc, Nat.reduceAdd]
    show Ev zshM 242 25 [some (.ref 0), some (.int (nI i)), some (.int 0), some (.int (nI 0))] [] σ1 Q
    rw [step 0 (by omega)]
    split
    · rename_i h
      rw [if_pos h] at hq
      exact hq
    rename_i h
    rw [if_neg h] at hq
    rw [step (0 + 1) (by omega)]
    split
    · rename_i h
      rw [if_pos h] at hq
      exact hq
    rename_i h
    rw [if_neg h] at hq
    rw [step (0 + 1 + 1) (by omega)]
    split
    · rename_i h
      rw [if_pos h] at hq
      exact hq
    rename_i h
    rw [if_neg h] at hq
    rw [step (0 + 1 + 1 + 1) (by omega)]
    split
    · rename_i h
      rw [if_pos h] at hq
      exact hq
    rename_i h
    rw [if_neg h] at hq
    rw [end4]
    exact hq
  · rw [if_neg ho] at hQ
    simp (disch := first | assumption | omega | decide | exact zin_d (by assumption) (by omega) (by omega) | (simp only [zb01]; done)) only [s_M_two_0, s_M_two_1, s_M_two_2, s_M_two_4, s_M_two_7, s_M_two_8, s_M_two_9, s_M_two_12, s_M_two_13, s_M_two_14, s_M_two_17, s_M_two_18, s_M_two_19, s_M_two_20, s_M_two_23, s_M_two_24, zlt, zle, zeq, zclamp, zinc, zdec, zdi, zdr, zdl, zdn, zpi, zpn, if_true, if_false, ite_not, Bool.false_eq_true, ne_eq, not_true_eq_false, not_false_eq_true, true_and, and_true, Nat.add_assoc, Nat.reduceAdd, M_bound, zift, ziff]
    refine M_no hR (outs_ref ho) (fun σ' h => ?_)
    simp (disch := first | assumption | omega | decide | exact zin_d (by assumption) (by omega) (by omega) | (simp only [zb01]; done)) only [s_M_two_0, s_M_two_1, s_M_two_2, s_M_two_4, s_M_two_7, s_M_two_8, s_M_two_9, s_M_two_12, s_M_two_13, s_M_two_14, s_M_two_17, s_M_two_18, s_M_two_19, s_M_two_20, s_M_two_23, s_M_two_24, zlt, zle, zeq, zclamp, zinc, zdec, zdi, zdr, zdl, zdn, zpi, zpn, if_true, if_false, ite_not, Bool.false_eq_true, ne_eq, not_true_eq_false, not_false_eq_true, true_and, and_true, Nat.add_assoc, Nat.reduceAdd]
    exact hQ σ' h
end
