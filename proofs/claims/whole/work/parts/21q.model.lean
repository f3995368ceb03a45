section
variable {σ : zG} {Q : Option Value → zG → Prop} {a : At} {x y z m w v o f n : Int32} {β : Bt} {i j k : Nat}
theorem M_draw (hm0 : ¬ m = 0) {y w : Int32} (hy : dwv (σ 0 26) m = y) (hw : lotZ (σ 0 26) = w) : Ev zshM 255 0 [some (.ref 0), some (.int m)] [] σ Q = Q (some (.int y)) (zup σ 0 26 w) := by
  simp (disch := first | assumption | omega | decide | exact zin_d (by assumption) (by omega) (by omega) | (simp only [zb01]; done)) only [s_M_draw_0, s_M_draw_1, s_M_draw_2, s_M_draw_5, s_M_draw_8, s_M_draw_9, s_M_draw_12, s_M_draw_13, s_M_draw_16, s_M_draw_17, s_M_draw_20, s_M_draw_23, s_M_draw_24, s_M_draw_27, s_M_draw_28, s_M_draw_29, s_M_draw_30, zlt, zle, zeq, zclamp, zinc, zdec, zdi, zdr, zdl, zdn, zpi, zpn, if_true, if_false, ite_not, Bool.false_eq_true, ne_eq, not_true_eq_false, not_false_eq_true, true_and, and_true, Nat.add_assoc, Nat.reduceAdd, zup_ne, zup_self, pk_us, pk_un]
  rw [← lotZ, ← dwv, hy, hw]
theorem WMd_empty (h : WMd σ β) : WMd (zup σ 0 7 0) ((0, β.1.2), β.2) := by
  refine WMd.setS (β := β) (S := (0, β.1.2)) h ⟨by show 0 ≤ 13; omega, by rw [zup_self, pk_us]; rfl, fun i hi => absurd hi (Nat.not_lt_zero i)⟩ (fun c _ _ => zup_ne (by omega)) (fun k _ _ => by rw [zup_self, pk_un (by omega)])
/-- one mason's draws -/
theorem M_lotMason (hj : j < 2) (hW : WMd σ β) {z1 z2 u v n' z' w' q' v' i' : Int32} (hz : σ 0 26 = z) (h1 : dwv z 6 = u) (h2 : lotZ z = z1) (h3 : dwv z1 10 = v) (h4 : lotZ z1 = z2) (hQ : ∀ σ', WMd σ' (withM (withM β (nI j) 0 u) (nI j) 1 v) → σ' 0 26 = z2 → σ' 12 = σ 12 → frU σ σ' → Ev zshM 256 74 [some (.ref 0), some (.int n'), some (.int z'), some (.int w'), some (.int 0), some (.int q'), some (.int v'), some (.int i'), some (.int (nI (j + 1)))] [] σ' Q) : Ev zshM 256 74 [some (.ref 0), some (.int n'), some (.int z'), some (.int w'), some (.int 0), some (.int q'), some (.int v'), some (.int i'), some (.int (nI j))] [] σ Q := by
  have z5 : zshM 5 = 100 + 2 := rfl
  have z6 : zshM 6 = 100 + 2 := rfl
  have e1 : dwv (σ 0 26) 6 = u := by rw [hz]; exact h1
  have e2 : lotZ (σ 0 26) = z1 := by rw [hz]; exact h2
  have e3 : dwv (zup (zup σ 0 26 z1) 5 j u 0 26) 10 = v := by simp (disch := first | assumption | omega | decide | exact zin_d (by assumption) (by omega) (by omega) | (simp only [zb01]; done)) only [zup_ne, zup_self, pk_us, pk_un]; exact h3
  have e4 : lotZ (zup (zup σ 0 26 z1) 5 j u 0 26) = z2 := by simp (disch := first | assumption | omega | decide | exact zin_d (by assumption) (by omega) (by omega) | (simp only [zb01]; done)) only [zup_ne, zup_self, pk_us, pk_un]; exact h4
  rw [s_M_lots_74]
  simp (disch := first | assumption | omega | decide | exact zin_d (by assumption) (by omega) (by omega) | (simp only [zb01]; done)) only [s_M_lots_76, s_M_lots_77, s_M_lots_80, s_M_lots_81, s_M_lots_84, s_M_lots_86, s_M_lots_87, s_M_lots_89, s_M_lots_92, s_M_lots_93, s_M_lots_94, s_M_lots_97, s_M_lots_99, s_M_lots_100, s_M_lots_102, s_M_lots_105, s_M_lots_106, s_M_lots_109, zlt, zle, zeq, zclamp, zinc, zdec, zdi, zdr, zdl, zdn, zpi, zpn, if_true, if_false, ite_not, Bool.false_eq_true, ne_eq, not_true_eq_false, not_false_eq_true, true_and, and_true, Nat.add_assoc, Nat.reduceAdd, zlL_2, zlR_2, zeL_2, zeR_2, zqL_2, zcl_2, M_draw (m := 6) (by decide) e1 e2, M_draw (m := 10) (by decide) e3 e4, ziff]
  have g1 : WMd (zup σ 0 26 z1) β := hW.z0 (by omega)
  have g2 := WMd_set g1 (j := j) (k := 0) (by omega) (by omega) u
  have g3 : WMd (zup (zup (zup σ 0 26 z1) 5 j u) 0 26 z2) (withM β (nI j) 0 u) := WMd.z0 (by exact g2) (by omega)
  have g4 := WMd_set g3 (j := j) (k := 1) (by omega) (by omega) v
  refine hQ _ g4 ?_ ?_ ?_
  · simp (disch := first | assumption | omega | decide | exact zin_d (by assumption) (by omega) (by omega) | (simp only [zb01]; done)) only [zup_ne, zup_self, pk_us, pk_un]
  · simp (disch := first | assumption | omega | decide | exact zin_d (by assumption) (by omega) (by omega) | (simp only [zb01]; done)) only [zup_ne, zup_self, pk_us, pk_un]
  · exact ((frU.z0 (by omega)).tr (frM.z (by omega)).T.U).tr ((frU.z0 (by omega)).tr (frM.z (by omega)).T.U)
/-- one bridge by lot -/
theorem M_lotOne (hW : WMd σ β) (hB : Bok β) {i' n' z' w' q' v' : Int32} {o8 : Option Value} {z z1 z2 z3 z4 a b c d : Int32} (hz : σ 0 26 = z) (e1 : lotZ z = z1) (e2 : lotZ z1 = z2) (e3 : lotZ z2 = z3) (e4 : lotZ z3 = z4) (ea : dwv z 6 = a) (eb : dwv z1 10 = b) (ec : dwv z2 6 = c) (ed : dwv z3 10 = d) (hL : Bok (lotG β a b c d)) (hQ : ∀ σ', WMd σ' (daysS 9 (lotG β a b c d)) → KP σ' 96 β → σ' 0 26 = z4 → frU σ σ' → Ev zshM 256 118 [some (.ref 0), some (.int n'), some (.int z'), some (.int w'), some (.int 0), some (.int q'), some (.int v'), some (.int i'), some (.int (nI 2))] [] σ' Q) : Ev zshM 256 62 [some (.ref 0), some (.int n'), some (.int z'), some (.int w'), some (.int 0), some (.int q'), some (.int v'), some (.int i'), o8] [] σ Q := by
  simp (disch := first | assumption | omega | decide | exact zin_d (by assumption) (by omega) (by omega) | (simp only [zb01]; done)) only [s_M_lots_62, s_M_lots_63, zlt, zle, zeq, zclamp, zinc, zdec, zdi, zdr, zdl, zdn, zpi, zpn, if_true, if_false, ite_not, Bool.false_eq_true, ne_eq, not_true_eq_false, not_false_eq_true, true_and, and_true, Nat.add_assoc, Nat.reduceAdd]
  refine M_thinks hW (fun σ1 h1 k1 f1 => ?_)
  simp (disch := first | assumption | omega | decide | exact zin_d (by assumption) (by omega) (by omega) | (simp only [zb01]; done)) only [s_M_lots_66, s_M_lots_67, s_M_lots_68, s_M_lots_71, s_M_lots_72, zlt, zle, zeq, zclamp, zinc, zdec, zdi, zdr, zdl, zdn, zpi, zpn, if_true, if_false, ite_not, Bool.false_eq_true, ne_eq, not_true_eq_false, not_false_eq_true, true_and, and_true, Nat.add_assoc, Nat.reduceAdd]
  have w1 := WMd_empty h1
  refine M_lotMason (j := 0) (z := z) (by omega) w1 (by rw [zup_self, pk_un (by omega), f1.2.1 26 (by omega) (by omega) (by omega)]; exact hz) ea e1 eb e2 (fun σ2 h2 g2 l2 f2 => ?_)
  refine M_lotMason (j := 1) (z := z2) (by omega) h2 g2 ec e3 ed e4 (fun σ3 h3 g3 l3 f3 => ?_)
  have h3' : WMd σ3 (lotG β a b c d) := h3
  rw [s_M_lots_74]
  simp (disch := first | assumption | omega | decide | exact zin_d (by assumption) (by omega) (by omega) | (simp only [zb01]; done)) only [s_M_lots_76, s_M_lots_77, s_M_lots_80, s_M_lots_81, s_M_lots_84, s_M_lots_86, s_M_lots_87, s_M_lots_89, s_M_lots_92, s_M_lots_93, s_M_lots_94, s_M_lots_97, s_M_lots_99, s_M_lots_100, s_M_lots_102, s_M_lots_105, s_M_lots_106, s_M_lots_109, s_M_lots_112, s_M_lots_113, s_M_lots_115, zlt, zle, zeq, zclamp, zinc, zdec, zdi, zdr, zdl, zdn, zpi, zpn, if_true, if_false, ite_not, Bool.false_eq_true, ne_eq, not_true_eq_false, not_false_eq_true, true_and, and_true, Nat.add_assoc, Nat.reduceAdd, zlL_2, zlR_2, zeL_2, zeR_2, zqL_2, zcl_2, zift]
  refine M_goes (n := 9) h3' hL (by omega) (fun σ4 h4 f4 => ?_)
  simp (disch := first | assumption | omega | decide | exact zin_d (by assumption) (by omega) (by omega) | (simp only [zb01]; done)) only [zlt, zle, zeq, zclamp, zinc, zdec, zdi, zdr, zdl, zdn, zpi, zpn, if_true, if_false, ite_not, Bool.false_eq_true, ne_eq, not_true_eq_false, not_false_eq_true, true_and, and_true, Nat.add_assoc, Nat.reduceAdd]
  refine hQ σ4 h4 (k1.keep ?_) ?_ ?_
  · rw [f4.1 12 (by omega), l3, l2, zup_ne (by omega)]
  · rw [f4.2 26 (by omega)]; exact g3
  · exact (((f1.U.tr (frM.z0 (by omega)).T.U).tr f2).tr f3).tr f4.T.U
theorem M_lots (hR : WX σ a) (hQ : ∀ σ', WX σ' (c_lots a n z w).2 → Q (some (.int (c_lots a n z w).1)) σ') : Ev zshM 256 0 [some (.ref 0), some (.int n), some (.int z), some (.int w), none, none, none, none, none] [] σ Q := by
  have hok := hR.1.2.1
  have hq0 := hR.1.1.2.2.2.1
  rw [c_lots] at hQ
  by_cases ho : outs n 1 20 = 0
  · rw [if_pos ho] at hQ
    obtain ⟨i, hi, rfl⟩ := in_le (n := 20) (by omega) (show 0 ≤ n ∧ n ≤ nI 20 from ⟨Int32.le_trans (by decide : (0 : Int32) ≤ 1) (outs_in ho).1, (outs_in ho).2⟩)
    rw [zclamp (by omega)] at hQ
    have body : ∀ (g : Nat → Int32), btw w 0 1 = true → g 0 = 0 → (∀ σ4 j v' o8, WMd σ4 (daysS 9 (lotB a.1 (lotZs z j))) → Ev zshM 256 118 [some (.ref 0), some (.int (nI i)), some (.int z), some (.int w), some (.int 0), some (.int a.1.2.2.2.1), some (.int (g j)), some (.int v'), o8] [] σ4 Q = Ev zshM 256 150 [some (.ref 0), some (.int (nI i)), some (.int z), some (.int w), some (.int 0), some (.int a.1.2.2.2.1), some (.int (g (j + 1))), some (.int v'), o8] [] σ4 Q) → (∀ σ', WX σ' a → Q (some (.int (g i))) σ') → Ev zshM 256 0 [some (.ref 0), some (.int (nI i)), some (.int z), some (.int w), none, none, none, none, none] [] σ Q := by
      intro g hb g0 hg hQ
      simp (disch := first | assumption | omega | decide | exact zin_d (by assumption) (by omega) (by omega) | (simp only [zb01]; done)) only [s_M_lots_0, s_M_lots_1, s_M_lots_2, s_M_lots_4, s_M_lots_7, s_M_lots_9, s_M_lots_11, s_M_lots_14, s_M_lots_15, s_M_lots_16, s_M_lots_17, s_M_lots_20, s_M_lots_23, s_M_lots_25, s_M_lots_27, s_M_lots_29, s_M_lots_32, s_M_lots_33, s_M_lots_35, s_M_lots_38, s_M_lots_39, s_M_lots_40, s_M_lots_41, s_M_lots_44, s_M_lots_45, s_M_lots_48, s_M_lots_50, s_M_lots_51, s_M_lots_53, s_M_lots_54, zlt, zle, zeq, zclamp, zinc, zdec, zdi, zdr, zdl, zdn, zpi, zpn, if_true, if_false, ite_not, Bool.false_eq_true, ne_eq, not_true_eq_false, not_false_eq_true, true_and, and_true, Nat.add_assoc, Nat.reduceAdd, zup_ne, zup_self, pk_us, pk_un, M_bound, M_isIn, ho, hq0, zift, ziff]
      have key := loopI (α := Option Value) (N := i) (fun o8 σ2 j => Ev zshM 256 56 [some (.ref 0), some (.int (nI i)), some (.int z), some (.int w), some (.int 0), some (.int a.1.2.2.2.1), some (.int (g j)), some (.int (nI j)), o8] [] σ2 Q) (fun j σ2 => WMd σ2 a.1 ∧ frU σ σ2 ∧ σ2 0 26 = lotZs z j) (fun o8 j σ2 hj hp kk => ?_) (fun o8 σ2 hp => ?_) 0 none (zup σ 0 26 z) (Nat.zero_le _) ⟨hR.1.1.z0 (by omega), frU.z0 (by omega), by rw [zup_self, pk_us]; rfl⟩
      · rw [g0] at key
        exact key
      · obtain ⟨q1, q2, q3⟩ := hp
        have hL := lotB_ok hok (z := lotZs z j)
        have hg' := hg
        rw [s_M_lots_56]
        simp (disch := first | assumption | omega | decide | exact zin_d (by assumption) (by omega) (by omega) | (simp only [zb01]; done)) only [s_M_lots_58, s_M_lots_59, zlt, zle, zeq, zclamp, zinc, zdec, zdi, zdr, zdl, zdn, zpi, zpn, if_true, if_false, ite_not, Bool.false_eq_true, ne_eq, not_true_eq_false, not_false_eq_true, true_and, and_true, Nat.add_assoc, Nat.reduceAdd, ziff]
        have one := @M_lotOne σ2 Q a.1 q1 hok (nI j) (nI i) z w a.1.2.2.2.1 (g j) o8 (lotZs z j) _ _ _ _ _ _ _ _ q3 rfl rfl rfl rfl rfl rfl rfl rfl hL
        refine one (fun σ4 h4 k4 z4 f4 => ?_)
        rw [hg σ4 j (nI j) _ h4]
        simp (disch := first | assumption | omega | decide | exact zin_d (by assumption) (by omega) (by omega) | (simp only [zb01]; done)) only [s_M_lots_150, s_M_lots_151, s_M_lots_154, s_M_lots_157, zlt, zle, zeq, zclamp, zinc, zdec, zdi, zdr, zdl, zdn, zpi, zpn, if_true, if_false, ite_not, Bool.false_eq_true, ne_eq, not_true_eq_false, not_false_eq_true, true_and, and_true, Nat.add_assoc, Nat.reduceAdd]
        refine M_forgets k4 (fun σ5 h5 f5 => ?_)
        simp (disch := first | assumption | omega | decide | exact zin_d (by assumption) (by omega) (by omega) | (simp only [zb01]; done)) only [s_M_lots_150, s_M_lots_151, s_M_lots_154, s_M_lots_157, zlt, zle, zeq, zclamp, zinc, zdec, zdi, zdr, zdl, zdn, zpi, zpn, if_true, if_false, ite_not, Bool.false_eq_true, ne_eq, not_true_eq_false, not_false_eq_true, true_and, and_true, Nat.add_assoc, Nat.reduceAdd]
        exact kk _ σ5 ⟨h5, (q2.tr f4).tr f5.U, by rw [f5.2.1 26 (by omega) (by omega) (by omega)]; exact z4⟩
      · obtain ⟨q1, q2, q3⟩ := hp
        rw [s_M_lots_56]
        simp (disch := first | assumption | omega | decide | exact zin_d (by assumption) (by omega) (by omega) | (simp only [zb01]; done)) only [s_M_lots_58, s_M_lots_59, s_M_lots_62, s_M_lots_63, s_M_lots_66, s_M_lots_67, s_M_lots_68, s_M_lots_71, s_M_lots_72, s_M_lots_76, s_M_lots_77, s_M_lots_80, s_M_lots_81, s_M_lots_84, s_M_lots_86, s_M_lots_87, s_M_lots_89, s_M_lots_92, s_M_lots_93, s_M_lots_94, s_M_lots_97, s_M_lots_99, s_M_lots_100, s_M_lots_102, s_M_lots_105, s_M_lots_106, s_M_lots_109, s_M_lots_112, s_M_lots_113, s_M_lots_115, s_M_lots_118, s_M_lots_120, s_M_lots_121, s_M_lots_122, s_M_lots_125, s_M_lots_126, s_M_lots_129, s_M_lots_131, s_M_lots_132, s_M_lots_135, s_M_lots_136, s_M_lots_139, s_M_lots_142, s_M_lots_143, s_M_lots_146, s_M_lots_147, s_M_lots_148, s_M_lots_150, s_M_lots_151, s_M_lots_154, s_M_lots_157, s_M_lots_160, s_M_lots_162, zlt, zle, zeq, zclamp, zinc, zdec, zdi, zdr, zdl, zdn, zpi, zpn, if_true, if_false, ite_not, Bool.false_eq_true, ne_eq, not_true_eq_false, not_false_eq_true, true_and, and_true, Nat.add_assoc, Nat.reduceAdd, zift]
        exact hQ σ2 (hR.U q1 q2)
    by_cases w0 : w = 0
    · subst w0
      rw [if_pos rfl] at hQ
      refine body (stlS a.1 z) rfl rfl (fun σ4 j v' o8 h4 => ?_) hQ
      have hL := daysS_ok (lotB_ok hok (z := lotZs z j)) 9
      rw [stlS]
      have hF := hL.1.F
      have hK4 := h4.1
      have est : stB (daysS 9 (lotB a.1 (lotZs z j))) = stndB (daysS 9 (lotB a.1 (lotZs z j))).1.1 (daysS 9 (lotB a.1 (lotZs z j))).1.2.1 (daysS 9 (lotB a.1 (lotZs z j))).1.2.2.1 (daysS 9 (lotB a.1 (lotZs z j))).1.2.2.2 := by rw [stB]
      rw [est]
      generalize daysS 9 (lotB a.1 (lotZs z j)) = γ at *
      by_cases h : stndB γ.1.1 γ.1.2.1 γ.1.2.2.1 γ.1.2.2.2 = true
      · rw [if_pos h]
        simp (disch := first | assumption | omega | decide | exact zin_d (by assumption) (by omega) (by omega) | (simp only [zb01]; done)) only [s_M_lots_118, s_M_lots_120, s_M_lots_121, s_M_lots_122, s_M_lots_125, s_M_lots_126, s_M_lots_129, s_M_lots_131, s_M_lots_132, s_M_lots_135, s_M_lots_136, s_M_lots_139, s_M_lots_142, s_M_lots_143, s_M_lots_146, s_M_lots_147, s_M_lots_148, zlt, zle, zeq, zclamp, zinc, zdec, zdi, zdr, zdl, zdn, zpi, zpn, if_true, if_false, ite_not, Bool.false_eq_true, ne_eq, not_true_eq_false, not_false_eq_true, true_and, and_true, Nat.add_assoc, Nat.reduceAdd, M_isUpright hK4 hF, zift, ziff]
      · rw [if_neg h]
        simp (disch := first | assumption | omega | decide | exact zin_d (by assumption) (by omega) (by omega) | (simp only [zb01]; done)) only [s_M_lots_118, s_M_lots_120, s_M_lots_121, s_M_lots_122, s_M_lots_125, s_M_lots_126, s_M_lots_129, s_M_lots_131, s_M_lots_132, s_M_lots_135, s_M_lots_136, s_M_lots_139, s_M_lots_142, s_M_lots_143, s_M_lots_146, s_M_lots_147, s_M_lots_148, zlt, zle, zeq, zclamp, zinc, zdec, zdi, zdr, zdl, zdn, zpi, zpn, if_true, if_false, ite_not, Bool.false_eq_true, ne_eq, not_true_eq_false, not_false_eq_true, true_and, and_true, Nat.add_assoc, Nat.reduceAdd, M_isUpright hK4 hF, zift, ziff]
    rw [if_neg w0] at hQ
    by_cases w1 : w = 1
    · subst w1
      rw [if_pos rfl] at hQ
      refine body (qulS a.1 z) rfl rfl (fun σ4 j v' o8 h4 => ?_) hQ
      have hq4 := h4.2.2.2.1
      rw [qulS]
      generalize daysS 9 (lotB a.1 (lotZs z j)) = γ at *
      simp (disch := first | assumption | omega | decide | exact zin_d (by assumption) (by omega) (by omega) | (simp only [zb01]; done)) only [s_M_lots_118, s_M_lots_120, s_M_lots_121, s_M_lots_122, s_M_lots_125, s_M_lots_126, s_M_lots_129, s_M_lots_131, s_M_lots_132, s_M_lots_135, s_M_lots_136, s_M_lots_139, s_M_lots_142, s_M_lots_143, s_M_lots_146, s_M_lots_147, s_M_lots_148, zlt, zle, zeq, zclamp, zinc, zdec, zdi, zdr, zdl, zdn, zpi, zpn, if_true, if_false, ite_not, Bool.false_eq_true, ne_eq, not_true_eq_false, not_false_eq_true, true_and, and_true, Nat.add_assoc, Nat.reduceAdd, hq4, zift, ziff]
    rw [if_neg w1] at hQ
    have hb := btw01 w0 w1
    simp (disch := first | assumption | omega | decide | exact zin_d (by assumption) (by omega) (by omega) | (simp only [zb01]; done)) only [s_M_lots_0, s_M_lots_1, s_M_lots_2, s_M_lots_4, s_M_lots_7, s_M_lots_9, s_M_lots_11, s_M_lots_14, s_M_lots_15, s_M_lots_16, s_M_lots_17, s_M_lots_20, s_M_lots_23, s_M_lots_25, s_M_lots_27, s_M_lots_29, s_M_lots_32, s_M_lots_33, s_M_lots_35, s_M_lots_38, s_M_lots_39, s_M_lots_40, s_M_lots_41, s_M_lots_44, s_M_lots_45, s_M_lots_48, s_M_lots_50, s_M_lots_51, s_M_lots_53, s_M_lots_54, zlt, zle, zeq, zclamp, zinc, zdec, zdi, zdr, zdl, zdn, zpi, zpn, if_true, if_false, ite_not, Bool.false_eq_true, ne_eq, not_true_eq_false, not_false_eq_true, true_and, and_true, Nat.add_assoc, Nat.reduceAdd, M_bound, M_isIn, ho, zift, ziff]
    refine M_no hR ref2 (fun σ' h => ?_)
    simp (disch := first | assumption | omega | decide | exact zin_d (by assumption) (by omega) (by omega) | (simp only [zb01]; done)) only [s_M_lots_0, s_M_lots_1, s_M_lots_2, s_M_lots_4, s_M_lots_7, s_M_lots_9, s_M_lots_11, s_M_lots_14, s_M_lots_15, s_M_lots_16, s_M_lots_17, s_M_lots_20, s_M_lots_23, s_M_lots_25, s_M_lots_27, s_M_lots_29, s_M_lots_32, s_M_lots_33, s_M_lots_35, s_M_lots_38, s_M_lots_39, s_M_lots_40, s_M_lots_41, s_M_lots_44, s_M_lots_45, s_M_lots_48, s_M_lots_50, s_M_lots_51, s_M_lots_53, s_M_lots_54, zlt, zle, zeq, zclamp, zinc, zdec, zdi, zdr, zdl, zdn, zpi, zpn, if_true, if_false, ite_not, Bool.false_eq_true, ne_eq, not_true_eq_false, not_false_eq_true, true_and, and_true, Nat.add_assoc, Nat.reduceAdd]
    exact hQ σ' h
  · rw [if_neg ho] at hQ
    simp (disch := first | assumption | omega | decide | exact zin_d (by assumption) (by omega) (by omega) | (simp only [zb01]; done)) only [s_M_lots_0, s_M_lots_1, s_M_lots_2, s_M_lots_4, s_M_lots_7, s_M_lots_9, s_M_lots_11, s_M_lots_14, s_M_lots_15, s_M_lots_16, s_M_lots_17, s_M_lots_20, s_M_lots_23, s_M_lots_25, s_M_lots_27, s_M_lots_29, s_M_lots_32, s_M_lots_33, s_M_lots_35, s_M_lots_38, s_M_lots_39, s_M_lots_40, s_M_lots_41, s_M_lots_44, s_M_lots_45, s_M_lots_48, s_M_lots_50, s_M_lots_51, s_M_lots_53, s_M_lots_54, zlt, zle, zeq, zclamp, zinc, zdec, zdi, zdr, zdl, zdn, zpi, zpn, if_true, if_false, ite_not, Bool.false_eq_true, ne_eq, not_true_eq_false, not_false_eq_true, true_and, and_true, Nat.add_assoc, Nat.reduceAdd, M_bound, zift, ziff]
    refine M_no hR (outs_ref ho) (fun σ' h => ?_)
    simp (disch := first | assumption | omega | decide | exact zin_d (by assumption) (by omega) (by omega) | (simp only [zb01]; done)) only [s_M_lots_0, s_M_lots_1, s_M_lots_2, s_M_lots_4, s_M_lots_7, s_M_lots_9, s_M_lots_11, s_M_lots_14, s_M_lots_15, s_M_lots_16, s_M_lots_17, s_M_lots_20, s_M_lots_23, s_M_lots_25, s_M_lots_27, s_M_lots_29, s_M_lots_32, s_M_lots_33, s_M_lots_35, s_M_lots_38, s_M_lots_39, s_M_lots_40, s_M_lots_41, s_M_lots_44, s_M_lots_45, s_M_lots_48, s_M_lots_50, s_M_lots_51, s_M_lots_53, s_M_lots_54, zlt, zle, zeq, zclamp, zinc, zdec, zdi, zdr, zdl, zdn, zpi, zpn, if_true, if_false, ite_not, Bool.false_eq_true, ne_eq, not_true_eq_false, not_false_eq_true, true_and, and_true, Nat.add_assoc, Nat.reduceAdd]
    exact hQ σ' h
end
