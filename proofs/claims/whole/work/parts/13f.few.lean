section
variable {n i k m v bf c : Nat} {σ : zG} {Q : Option Value → zG → Prop} {K F L Kc Fc : SF} {w g : Nat → Nat} {x : Int32}
/-- the last part of a choice: the stones are made, the ways go on -/
theorem choose_on (hk : k < n) (hn : n ≤ 12) (hbf : bf ≤ 1) (hc : c ≤ 1) (hC : WS σ 37 n Kc Fc L) (eK : Kc k = pkK c (K k)) (eF : Fc k = pkF c (F k)) (hj : jok n K F L k bf c) (hw : WY σ 42 w) (hg : WY σ 43 g)
    (hQ : ∀ σ' g', (∃ Kc Fc, WS σ' 37 n Kc Fc L) → WY σ' 42 w → WY σ' 43 g' → frR σ σ' → (∀ p, p < 26 → g' p ≤ g p) → (∀ m v, goK n K F L k w bf c m v → g' (2 * v + c) ≤ w (2 * m + bf) + mor c k) → (∀ p, p < 26 → g' p = g p ∨ ∃ m v, goK n K F L k w bf c m v ∧ p = 2 * v + c ∧ g' p = w (2 * m + bf) + mor c k) → Ev zshX 48 34 [some (.ref 36), some (.int (nI k)), some (.int (nI bf)), some (.int (nI (c + 1)))] [] σ' Q) : Ev zshX 48 70 [some (.ref 36), some (.int (nI k)), some (.int (nI bf)), some (.int (nI c))] [] σ Q := by
  simp (disch := first | assumption | omega | decide | exact zin_d (by assumption) (by omega) (by omega) | (simp only [zb01]; done)) only [s_Remedies_choose_70, s_Remedies_choose_71, s_Remedies_choose_72, s_Remedies_choose_73, s_Remedies_choose_74, zlt, zle, zeq, zclamp, zinc, zdec, zdi, zdr, zdl, zdn, zpi, zpn, if_true, if_false, ite_not, Bool.false_eq_true, ne_eq, not_true_eq_false, not_false_eq_true, true_and, and_true, Nat.add_assoc, Nat.reduceAdd]
  refine Remedies_goOn hC hk hn hbf hc hw hg (fun σ1 g1 h1 f1 l1 a1 b1 => ?_)
  simp (disch := first | assumption | omega | decide | exact zin_d (by assumption) (by omega) (by omega) | (simp only [zb01]; done)) only [s_Remedies_choose_77, s_Remedies_choose_80, zlt, zle, zeq, zclamp, zinc, zdec, zdi, zdr, zdl, zdn, zpi, zpn, if_true, if_false, ite_not, Bool.false_eq_true, ne_eq, not_true_eq_false, not_false_eq_true, true_and, and_true, Nat.add_assoc, Nat.reduceAdd]
  refine hQ σ1 g1 ⟨Kc, Fc, hC.keep (fun a _ _ => f1 a (by omega))⟩ (hw.keep (f1 42 (by omega))) h1 (fr43_R f1) l1 (fun m v h => ?_) (fun p hp => ?_)
  · obtain ⟨g1, g2, g3, g4, g5, g6, g7⟩ := h
    exact a1 m v g3 g4 g5 (by rw [eK, eF]; exact g7)
  · rcases b1 p hp with h | ⟨m, v, g3, g4, g5, g7, g8, g9⟩
    · exact Or.inl h
    · rw [eK, eF] at g7
      exact Or.inr ⟨m, v, ⟨hbf, hc, g3, g4, g5, hj, g7⟩, g8, g9⟩
theorem choose_body (hW : WS σ 2 n K F L) (hC : ∃ Kc Fc, WS σ 37 n Kc Fc L) (hk : k < n) (hn : n ≤ 12) (hbf : bf ≤ 1) (hc : c ≤ 1) (hw : WY σ 42 w) (hg : WY σ 43 g)
    (hQ : ∀ σ' g', (∃ Kc Fc, WS σ' 37 n Kc Fc L) → WY σ' 42 w → WY σ' 43 g' → frR σ σ' → (∀ p, p < 26 → g' p ≤ g p) → (∀ m v, goK n K F L k w bf c m v → g' (2 * v + c) ≤ w (2 * m + bf) + mor c k) → (∀ p, p < 26 → g' p = g p ∨ ∃ m v, goK n K F L k w bf c m v ∧ p = 2 * v + c ∧ g' p = w (2 * m + bf) + mor c k) → Ev zshX 48 34 [some (.ref 36), some (.int (nI k)), some (.int (nI bf)), some (.int (nI (c + 1)))] [] σ' Q) : Ev zshX 48 39 [some (.ref 36), some (.int (nI k)), some (.int (nI bf)), some (.int (nI c))] [] σ Q := by
  obtain ⟨Kc, Fc, hC⟩ := hC
  cases k with
  | zero =>
    have e1 : nI 0 - 1 = (-1 : Int32) := by decide
    have e2 : nI 0 = (0 : Int32) := rfl
    simp (disch := first | assumption | omega | decide | exact zin_d (by assumption) (by omega) (by omega) | (simp only [zb01]; done)) only [s_Remedies_choose_39, s_Remedies_choose_40, s_Remedies_choose_41, s_Remedies_choose_42, s_Remedies_choose_43, s_Remedies_choose_44, zlt, zle, zeq, zclamp, zinc, zdec, zdi, zdr, zdl, zdn, zpi, zpn, if_true, if_false, ite_not, Bool.false_eq_true, ne_eq, not_true_eq_false, not_false_eq_true, true_and, and_true, Nat.add_assoc, Nat.reduceAdd, e1]
    rw [Remedies_makeOf_m1 hW hC hbf]
    simp (disch := first | assumption | omega | decide | exact zin_d (by assumption) (by omega) (by omega) | (simp only [zb01]; done)) only [s_Remedies_choose_47, s_Remedies_choose_48, s_Remedies_choose_49, s_Remedies_choose_50, zlt, zle, zeq, zclamp, zinc, zdec, zdi, zdr, zdl, zdn, zpi, zpn, if_true, if_false, ite_not, Bool.false_eq_true, ne_eq, not_true_eq_false, not_false_eq_true, true_and, and_true, Nat.add_assoc, Nat.reduceAdd]
    refine Remedies_makeOf hW hC hk hc (fun σ1 h1 f1 => ?_)
    simp (disch := first | assumption | omega | decide | exact zin_d (by assumption) (by omega) (by omega) | (simp only [zb01]; done)) only [s_Remedies_choose_53, s_Remedies_choose_54, zlt, zle, zeq, zclamp, zinc, zdec, zdi, zdr, zdl, zdn, zpi, zpn, if_true, if_false, ite_not, Bool.false_eq_true, ne_eq, not_true_eq_false, not_false_eq_true, true_and, and_true, Nat.add_assoc, Nat.reduceAdd, zift]
    refine choose_on hk hn hbf hc h1 pk_us pk_us (Or.inl rfl) (hw.keep (f1 42 (by omega))) (hg.keep (f1 43 (by omega))) (fun σ2 g2 q1 q2 q3 q4 q5 q6 q7 => hQ σ2 g2 q1 q2 q3 ((frS_R f1).tr q4) q5 q6 q7)
  | succ k =>
    have e2 : ¬ nI (k + 1) = (0 : Int32) := by
      rw [show (0 : Int32) = nI 0 from rfl, zeq (by omega) (by omega)]; omega
    have e3 : nI (k + 1) - 1 = nI k := nI_pred k
    simp (disch := first | assumption | omega | decide | exact zin_d (by assumption) (by omega) (by omega) | (simp only [zb01]; done)) only [s_Remedies_choose_39, s_Remedies_choose_40, s_Remedies_choose_41, s_Remedies_choose_42, s_Remedies_choose_43, s_Remedies_choose_44, zlt, zle, zeq, zclamp, zinc, zdec, zdi, zdr, zdl, zdn, zpi, zpn, if_true, if_false, ite_not, Bool.false_eq_true, ne_eq, not_true_eq_false, not_false_eq_true, true_and, and_true, Nat.add_assoc, Nat.reduceAdd, e3]
    refine Remedies_makeOf hW hC (show k < n by omega) hbf (fun σ1 h1 f1 => ?_)
    simp (disch := first | assumption | omega | decide | exact zin_d (by assumption) (by omega) (by omega) | (simp only [zb01]; done)) only [s_Remedies_choose_47, s_Remedies_choose_48, s_Remedies_choose_49, s_Remedies_choose_50, zlt, zle, zeq, zclamp, zinc, zdec, zdi, zdr, zdl, zdn, zpi, zpn, if_true, if_false, ite_not, Bool.false_eq_true, ne_eq, not_true_eq_false, not_false_eq_true, true_and, and_true, Nat.add_assoc, Nat.reduceAdd]
    refine Remedies_makeOf (hW.keep (fun a _ _ => f1 a (by omega))) h1 hk hc (fun σ2 h2 f2 => ?_)
    have ne : ¬ k = k + 1 := by omega
    have ej : spare n (upd (upd Kc k (pkK bf (K k))) (k + 1) (pkK c (K (k + 1)))) (upd (upd Fc k (pkF bf (F k))) (k + 1) (pkF c (F (k + 1)))) L k = jnt n K F L k bf c := by
      rw [jnt]
      apply spare_cg
      · rw [pk_un ne, pk_us, pk_un ne, pk_us]
      · rw [pk_us, pk_us]
      · rw [pk_un ne, pk_us, pk_un ne, pk_us]
      · rw [pk_us, pk_us]
    by_cases hj : jnt n K F L k bf c < 0
    · simp (disch := first | assumption | omega | decide | exact zin_d (by assumption) (by omega) (by omega) | (simp only [zb01]; done)) only [s_Remedies_choose_53, s_Remedies_choose_54, s_Remedies_choose_57, s_Remedies_choose_58, s_Remedies_choose_61, s_Remedies_choose_62, s_Remedies_choose_63, s_Remedies_choose_64, s_Remedies_choose_67, zlt, zle, zeq, zclamp, zinc, zdec, zdi, zdr, zdl, zdn, zpi, zpn, if_true, if_false, ite_not, Bool.false_eq_true, ne_eq, not_true_eq_false, not_false_eq_true, true_and, and_true, Nat.add_assoc, Nat.reduceAdd, e2, e3, Stones_spareOf h2 hk, ej, zift, ziff]
      simp (disch := first | assumption | omega | decide | exact zin_d (by assumption) (by omega) (by omega) | (simp only [zb01]; done)) only [s_Remedies_choose_77, s_Remedies_choose_80, zlt, zle, zeq, zclamp, zinc, zdec, zdi, zdr, zdl, zdn, zpi, zpn, if_true, if_false, ite_not, Bool.false_eq_true, ne_eq, not_true_eq_false, not_false_eq_true, true_and, and_true, Nat.add_assoc, Nat.reduceAdd]
      have hno : ∀ m v, ¬ goK n K F L (k + 1) w bf c m v := by
        rintro m v ⟨-, -, -, -, -, g6, -⟩
        rcases g6 with g6 | g6
        · omega
        · exact g6 hj
      exact hQ σ2 g ⟨_, _, h2⟩ ((hw.keep (f1 42 (by omega))).keep (f2 42 (by omega))) ((hg.keep (f1 43 (by omega))).keep (f2 43 (by omega))) ((frS_R f1).tr (frS_R f2)) (fun _ _ => Nat.le_refl _) (fun m v h => absurd h (hno m v)) (fun _ _ => Or.inl rfl)
    · simp (disch := first | assumption | omega | decide | exact zin_d (by assumption) (by omega) (by omega) | (simp only [zb01]; done)) only [s_Remedies_choose_53, s_Remedies_choose_54, s_Remedies_choose_57, s_Remedies_choose_58, s_Remedies_choose_61, s_Remedies_choose_62, s_Remedies_choose_63, s_Remedies_choose_64, s_Remedies_choose_67, zlt, zle, zeq, zclamp, zinc, zdec, zdi, zdr, zdl, zdn, zpi, zpn, if_true, if_false, ite_not, Bool.false_eq_true, ne_eq, not_true_eq_false, not_false_eq_true, true_and, and_true, Nat.add_assoc, Nat.reduceAdd, e2, e3, Stones_spareOf h2 hk, ej, zift, ziff]
      refine choose_on hk hn hbf hc h2 pk_us pk_us (Or.inr (by rw [Nat.add_sub_cancel]; exact hj)) ((hw.keep (f1 42 (by omega))).keep (f2 42 (by omega))) ((hg.keep (f1 43 (by omega))).keep (f2 43 (by omega))) (fun σ3 g3 q1 q2 q3 q4 q5 q6 q7 => hQ σ3 g3 q1 q2 q3 (((frS_R f1).tr (frS_R f2)).tr q4) q5 q6 q7)
theorem StpB_on {g g' : Nat → Nat} (hB : StpB n K F L k w g) (hb : ∀ p, p < 26 → g' p = g p ∨ ∃ m v, goK n K F L k w bf c m v ∧ p = 2 * v + c ∧ g' p = w (2 * m + bf) + mor c k) : StpB n K F L k w g' := by
  intro p hp
  rcases hb p hp with h | ⟨m, v, h1, h2, h3⟩
  · rw [h]; exact hB p hp
  · exact Or.inr ⟨bf, c, m, v, h1, h2, h3⟩
theorem StpA_on {g g' : Nat → Nat} {D D' : Nat → Nat → Prop} (hA : StpA n K F L k w D g) (hl : ∀ p, p < 26 → g' p ≤ g p) (ha : ∀ m v, goK n K F L k w bf c m v → g' (2 * v + c) ≤ w (2 * m + bf) + mor c k) (hD : ∀ b d, D' b d → D b d ∨ (b = bf ∧ d = c)) : StpA n K F L k w D' g' := by
  intro b d m v h1 h2
  rcases hD b d h1 with h3 | ⟨rfl, rfl⟩
  · have h4 := hA b d m v h3 h2
    obtain ⟨g1, g2, g3, g4, -⟩ := h2
    have h5 := hl (2 * v + d) (by omega)
    omega
  · exact ha m v h2
theorem StpA_to {g : Nat → Nat} {D D' : Nat → Nat → Prop} (hA : StpA n K F L k w D g) (hD : ∀ b d, D' b d → D b d) : StpA n K F L k w D' g := fun b d m v h1 h2 => hA b d m v (hD b d h1) h2
theorem Remedies_choose (hW : WS σ 2 n K F L) (hC : ∃ Kc Fc, WS σ 37 n Kc Fc L) (hk : k < n) (hn : n ≤ 12) (hw : WY σ 42 w)
    (hQ : ∀ σ' g, (∃ Kc Fc, WS σ' 37 n Kc Fc L) → WY σ' 42 g → frR σ σ' → StpA n K F L k w (fun bf c => bf < 2 ∧ c < 2) g → StpB n K F L k w g → Q none σ') : Ev zshX 48 0 [some (.ref 36), some (.int (nI k)), none, none] [] σ Q := by
  have hz : zNO = 1073741824 := rfl
  have e42 : nI (zshX 42 - 100) = nI 26 := rfl
  have e43 : nI (zshX 43 - 100) = nI 26 := rfl
  have e42s : zshX 42 = 100 + 26 := rfl
  have e43s : zshX 43 = 100 + 26 := rfl
  simp (disch := first | assumption | omega | decide | exact zin_d (by assumption) (by omega) (by omega) | (simp only [zb01]; done)) only [s_Remedies_choose_0, s_Remedies_choose_1, zlt, zle, zeq, zclamp, zinc, zdec, zdi, zdr, zdl, zdn, zpi, zpn, if_true, if_false, ite_not, Bool.false_eq_true, ne_eq, not_true_eq_false, not_false_eq_true, true_and, and_true, Nat.add_assoc, Nat.reduceAdd]
  refine loopI (α := Unit) (N := 26) (fun _ σ1 j => Ev zshX 48 2 [some (.ref 36), some (.int (nI k)), some (.int (nI j)), none] [] σ1 Q) (fun j σ1 => (∀ a, a ≠ 43 → σ1 a = σ a) ∧ ∀ p, p < j → σ1 43 p = nI zNO) (fun _ j σ1 hj hp kk => ?_) (fun _ σ1 hp => ?_) 0 () σ (Nat.zero_le _) ⟨fun _ _ => rfl, fun p hp => by omega⟩
  · obtain ⟨hf1, h1⟩ := hp
    rw [s_Remedies_choose_2]
    simp (disch := first | assumption | omega | decide | exact zin_d (by assumption) (by omega) (by omega) | (simp only [zb01]; done)) only [s_Remedies_choose_0, s_Remedies_choose_1, s_Remedies_choose_3, s_Remedies_choose_4, s_Remedies_choose_7, s_Remedies_choose_8, s_Remedies_choose_11, s_Remedies_choose_12, s_Remedies_choose_15, s_Remedies_choose_16, s_Remedies_choose_18, s_Remedies_choose_19, s_Remedies_choose_22, zlt, zle, zeq, zclamp, zinc, zdec, zdi, zdr, zdl, zdn, zpi, zpn, if_true, if_false, ite_not, Bool.false_eq_true, ne_eq, not_true_eq_false, not_false_eq_true, true_and, and_true, Nat.add_assoc, Nat.reduceAdd, e43, ziff]
    refine kk () _ ⟨fun a ha => (zup_ne ha).trans (hf1 a ha), fun p hp => ?_⟩
    by_cases e : p = j
    · subst e; rw [zup_self, pk_us]; rfl
    · rw [zup_self, pk_un e]; exact h1 p (by omega)
  · obtain ⟨hf1, h1⟩ := hp
    rw [s_Remedies_choose_2]
    simp (disch := first | assumption | omega | decide | exact zin_d (by assumption) (by omega) (by omega) | (simp only [zb01]; done)) only [s_Remedies_choose_0, s_Remedies_choose_1, s_Remedies_choose_3, s_Remedies_choose_4, s_Remedies_choose_7, s_Remedies_choose_8, s_Remedies_choose_11, s_Remedies_choose_12, s_Remedies_choose_15, s_Remedies_choose_16, s_Remedies_choose_18, s_Remedies_choose_19, s_Remedies_choose_22, s_Remedies_choose_25, s_Remedies_choose_26, zlt, zle, zeq, zclamp, zinc, zdec, zdi, zdr, zdl, zdn, zpi, zpn, if_true, if_false, ite_not, Bool.false_eq_true, ne_eq, not_true_eq_false, not_false_eq_true, true_and, and_true, Nat.add_assoc, Nat.reduceAdd, e43, zift]
    -- which stone is how
    refine loopI (α := Option Value) (N := 2) (fun z σ2 b => Ev zshX 48 27 [some (.ref 36), some (.int (nI k)), some (.int (nI b)), z] [] σ2 Q) (fun b σ2 => frR σ σ2 ∧ (∃ Kc Fc, WS σ2 37 n Kc Fc L) ∧ WY σ2 42 w ∧ ∃ g, WY σ2 43 g ∧ StpA n K F L k w (fun bf c => bf < b ∧ c < 2) g ∧ StpB n K F L k w g) (fun z b σ2 hb hp kk => ?_) (fun z σ2 hp => ?_) 0 none σ1 (Nat.zero_le _) ⟨fr43_R hf1, ?_, hw.keep (hf1 42 (by omega)), fun _ => zNO, fun p hp => ⟨Nat.le_refl _, h1 p hp⟩, fun bf c m v h => by omega, fun _ _ => Or.inl rfl⟩
    · obtain ⟨hf2, hC2, hw2, g, hg2, hA2, hB2⟩ := hp
      rw [s_Remedies_choose_27]
      simp (disch := first | assumption | omega | decide | exact zin_d (by assumption) (by omega) (by omega) | (simp only [zb01]; done)) only [s_Remedies_choose_28, s_Remedies_choose_29, s_Remedies_choose_32, s_Remedies_choose_33, zlt, zle, zeq, zclamp, zinc, zdec, zdi, zdr, zdl, zdn, zpi, zpn, if_true, if_false, ite_not, Bool.false_eq_true, ne_eq, not_true_eq_false, not_false_eq_true, true_and, and_true, Nat.add_assoc, Nat.reduceAdd, zlL_1, zlR_1, zeL_1, zeR_1, zqL_1, zcl_1, ziff]
      refine loopI (α := Unit) (N := 2) (fun _ σ3 c => Ev zshX 48 34 [some (.ref 36), some (.int (nI k)), some (.int (nI b)), some (.int (nI c))] [] σ3 Q) (fun c σ3 => frR σ σ3 ∧ (∃ Kc Fc, WS σ3 37 n Kc Fc L) ∧ WY σ3 42 w ∧ ∃ g, WY σ3 43 g ∧ StpA n K F L k w (fun bf' c' => (bf' < b ∧ c' < 2) ∨ (bf' = b ∧ c' < c)) g ∧ StpB n K F L k w g) (fun _ c σ3 hc hp kk2 => ?_) (fun _ σ3 hp => ?_) 0 () σ2 (Nat.zero_le _) ⟨hf2, hC2, hw2, g, hg2, StpA_to hA2 (fun b d h => by omega), hB2⟩
      · obtain ⟨hf3, hC3, hw3, g, hg3, hA3, hB3⟩ := hp
        rw [s_Remedies_choose_34]
        simp (disch := first | assumption | omega | decide | exact zin_d (by assumption) (by omega) (by omega) | (simp only [zb01]; done)) only [s_Remedies_choose_35, s_Remedies_choose_36, zlt, zle, zeq, zclamp, zinc, zdec, zdi, zdr, zdl, zdn, zpi, zpn, if_true, if_false, ite_not, Bool.false_eq_true, ne_eq, not_true_eq_false, not_false_eq_true, true_and, and_true, Nat.add_assoc, Nat.reduceAdd, zlL_1, zlR_1, zeL_1, zeR_1, zqL_1, zcl_1, ziff]
        refine choose_body (hW.keep (fun a _ _ => hf3 a (by omega))) hC3 hk hn (by omega) (by omega) hw3 hg3 (fun σ4 g4 q1 q2 q3 q4 q5 q6 q7 => ?_)
        exact kk2 () σ4 ⟨hf3.tr q4, q1, q2, g4, q3, StpA_on hA3 q5 q6 (fun b d h => by omega), StpB_on hB3 q7⟩
      · obtain ⟨hf3, hC3, hw3, g, hg3, hA3, hB3⟩ := hp
        rw [s_Remedies_choose_34]
        simp (disch := first | assumption | omega | decide | exact zin_d (by assumption) (by omega) (by omega) | (simp only [zb01]; done)) only [s_Remedies_choose_35, s_Remedies_choose_36, s_Remedies_choose_83, s_Remedies_choose_86, zlt, zle, zeq, zclamp, zinc, zdec, zdi, zdr, zdl, zdn, zpi, zpn, if_true, if_false, ite_not, Bool.false_eq_true, ne_eq, not_true_eq_false, not_false_eq_true, true_and, and_true, Nat.add_assoc, Nat.reduceAdd, zlL_1, zlR_1, zeL_1, zeR_1, zqL_1, zcl_1, zift]
        exact kk _ σ3 ⟨hf3, hC3, hw3, g, hg3, StpA_to hA3 (fun b d h => by omega), hB3⟩
    · obtain ⟨hf2, hC2, hw2, g, hg2, hA2, hB2⟩ := hp
      rw [s_Remedies_choose_27]
      simp (disch := first | assumption | omega | decide | exact zin_d (by assumption) (by omega) (by omega) | (simp only [zb01]; done)) only [s_Remedies_choose_28, s_Remedies_choose_29, s_Remedies_choose_32, s_Remedies_choose_33, s_Remedies_choose_89, s_Remedies_choose_90, zlt, zle, zeq, zclamp, zinc, zdec, zdi, zdr, zdl, zdn, zpi, zpn, if_true, if_false, ite_not, Bool.false_eq_true, ne_eq, not_true_eq_false, not_false_eq_true, true_and, and_true, Nat.add_assoc, Nat.reduceAdd, zlL_1, zlR_1, zeL_1, zeR_1, zqL_1, zcl_1, zift]
      refine loopI (α := Unit) (N := 26) (fun _ σ3 j => Ev zshX 48 91 [some (.ref 36), some (.int (nI k)), some (.int (nI j)), z] [] σ3 Q) (fun j σ3 => (∀ a, a ≠ 42 → σ3 a = σ2 a) ∧ ∀ p, p < j → σ3 42 p = nI (g p)) (fun _ j σ3 hj hp kk => ?_) (fun _ σ3 hp => ?_) 0 () σ2 (Nat.zero_le _) ⟨fun _ _ => rfl, fun p hp => by omega⟩
      · obtain ⟨hf3, h3⟩ := hp
        have e9 : σ3 43 j = nI (g j) := by rw [hf3 43 (by omega)]; exact (hg2 j hj).2
        rw [s_Remedies_choose_91]
        simp (disch := first | assumption | omega | decide | exact zin_d (by assumption) (by omega) (by omega) | (simp only [zb01]; done)) only [s_Remedies_choose_92, s_Remedies_choose_93, s_Remedies_choose_96, s_Remedies_choose_97, s_Remedies_choose_100, s_Remedies_choose_101, s_Remedies_choose_102, s_Remedies_choose_105, s_Remedies_choose_106, s_Remedies_choose_109, s_Remedies_choose_110, s_Remedies_choose_113, s_Remedies_choose_114, s_Remedies_choose_115, s_Remedies_choose_118, s_Remedies_choose_119, s_Remedies_choose_120, s_Remedies_choose_121, s_Remedies_choose_124, zlt, zle, zeq, zclamp, zinc, zdec, zdi, zdr, zdl, zdn, zpi, zpn, if_true, if_false, ite_not, Bool.false_eq_true, ne_eq, not_true_eq_false, not_false_eq_true, true_and, and_true, Nat.add_assoc, Nat.reduceAdd, e42, e43, e9, ziff]
        refine kk () _ ⟨fun a ha => (zup_ne ha).trans (hf3 a ha), fun p hp => ?_⟩
        by_cases e : p = j
        · subst e; rw [zup_self, pk_us]
        · rw [zup_self, pk_un e]; exact h3 p (by omega)
      · obtain ⟨hf3, h3⟩ := hp
        rw [s_Remedies_choose_91]
        simp (disch := first | assumption | omega | decide | exact zin_d (by assumption) (by omega) (by omega) | (simp only [zb01]; done)) only [s_Remedies_choose_92, s_Remedies_choose_93, s_Remedies_choose_96, s_Remedies_choose_97, s_Remedies_choose_100, s_Remedies_choose_101, s_Remedies_choose_102, s_Remedies_choose_105, s_Remedies_choose_106, s_Remedies_choose_109, s_Remedies_choose_110, s_Remedies_choose_113, s_Remedies_choose_114, s_Remedies_choose_115, s_Remedies_choose_118, s_Remedies_choose_119, s_Remedies_choose_120, s_Remedies_choose_121, s_Remedies_choose_124, s_Remedies_choose_127, zlt, zle, zeq, zclamp, zinc, zdec, zdi, zdr, zdl, zdn, zpi, zpn, if_true, if_false, ite_not, Bool.false_eq_true, ne_eq, not_true_eq_false, not_false_eq_true, true_and, and_true, Nat.add_assoc, Nat.reduceAdd, e42, e43, zift]
        obtain ⟨Kc, Fc, hC2⟩ := hC2
        exact hQ σ3 g ⟨Kc, Fc, hC2.keep (fun a _ _ => hf3 a (by omega))⟩ (fun p hp => ⟨(hg2 p hp).1, h3 p hp⟩) (hf2.tr (fr42_R hf3)) hA2 hB2
    · obtain ⟨Kc, Fc, hC⟩ := hC
      exact ⟨Kc, Fc, hC.keep (fun a _ _ => hf1 a (by omega))⟩
theorem Remedies_fewestToPlain (hW : WS σ 2 n K F L) (hn : n ≤ 12) (hQ : ∀ σ', frR σ σ' → Q (some (.int (fewS n K F L))) σ') : Ev zshX 47 0 [some (.ref 36), none, none] [] σ Q := by
  have hz : zNO = 1073741824 := rfl
  have e42 : nI (zshX 42 - 100) = nI 26 := rfl
  have e42s : zshX 42 = 100 + 26 := rfl
  have keep : ∀ {σ1 : zG}, frR σ σ1 → WS σ1 2 n K F L := fun hp => hW.keep (fun a _ _ => hp a (by omega))
  have ep : ∀ {σ : zG} {Q : Option Value → zG → Prop}, Ev zshX 51 0 [some (.int 0), some (.int 0)] [] σ Q = Q (some (.int (nI 12))) σ := fun {σ Q} => Remedies_placeOfWay (m := 6) (c := 0) (σ := σ) (Q := Q) (by omega) (by omega)
  simp (disch := first | assumption | omega | decide | exact zin_d (by assumption) (by omega) (by omega) | (simp only [zb01]; done)) only [s_Remedies_fewestToPlain_0, s_Remedies_fewestToPlain_1, s_Remedies_fewestToPlain_4, s_Remedies_fewestToPlain_5, s_Remedies_fewestToPlain_8, s_Remedies_fewestToPlain_11, s_Remedies_fewestToPlain_12, zlt, zle, zeq, zclamp, zinc, zdec, zdi, zdr, zdl, zdn, zpi, zpn, if_true, if_false, ite_not, Bool.false_eq_true, ne_eq, not_true_eq_false, not_false_eq_true, true_and, and_true, Nat.add_assoc, Nat.reduceAdd]
  refine Stones_become (s := 37) (o := 2) ⟨rfl, rfl, rfl, rfl⟩ hW (by omega) (fun σ1 h1 f1 => ?_)
  simp (disch := first | assumption | omega | decide | exact zin_d (by assumption) (by omega) (by omega) | (simp only [zb01]; done)) only [s_Remedies_fewestToPlain_0, s_Remedies_fewestToPlain_1, s_Remedies_fewestToPlain_4, s_Remedies_fewestToPlain_5, s_Remedies_fewestToPlain_8, s_Remedies_fewestToPlain_11, s_Remedies_fewestToPlain_12, zlt, zle, zeq, zclamp, zinc, zdec, zdi, zdr, zdl, zdn, zpi, zpn, if_true, if_false, ite_not, Bool.false_eq_true, ne_eq, not_true_eq_false, not_false_eq_true, true_and, and_true, Nat.add_assoc, Nat.reduceAdd]
  refine loopI (α := Unit) (N := 26) (fun _ σ2 j => Ev zshX 47 13 [some (.ref 36), some (.int (nI j)), none] [] σ2 Q) (fun j σ2 => (∀ a, a ≠ 42 → σ2 a = σ1 a) ∧ ∀ p, p < j → σ2 42 p = nI (if p = 12 then 0 else zNO)) (fun _ j σ2 hj hp kk => ?_) (fun _ σ2 hp => ?_) 0 () σ1 (Nat.zero_le _) ⟨fun _ _ => rfl, fun p hp => by omega⟩
  · obtain ⟨hf2, h2⟩ := hp
    rw [s_Remedies_fewestToPlain_13]
    by_cases ej : j = 12
    · subst ej
      simp (disch := first | assumption | omega | decide | exact zin_d (by assumption) (by omega) (by omega) | (simp only [zb01]; done)) only [s_Remedies_fewestToPlain_14, s_Remedies_fewestToPlain_15, s_Remedies_fewestToPlain_18, s_Remedies_fewestToPlain_19, s_Remedies_fewestToPlain_22, s_Remedies_fewestToPlain_23, s_Remedies_fewestToPlain_26, s_Remedies_fewestToPlain_27, s_Remedies_fewestToPlain_28, s_Remedies_fewestToPlain_29, s_Remedies_fewestToPlain_30, s_Remedies_fewestToPlain_33, s_Remedies_fewestToPlain_36, s_Remedies_fewestToPlain_37, s_Remedies_fewestToPlain_40, s_Remedies_fewestToPlain_42, s_Remedies_fewestToPlain_43, s_Remedies_fewestToPlain_46, zlt, zle, zeq, zclamp, zinc, zdec, zdi, zdr, zdl, zdn, zpi, zpn, if_true, if_false, ite_not, Bool.false_eq_true, ne_eq, not_true_eq_false, not_false_eq_true, true_and, and_true, Nat.add_assoc, Nat.reduceAdd, e42, ep, ziff, zift]
      refine kk () _ ⟨fun a ha => (zup_ne ha).trans (hf2 a ha), fun p hp => ?_⟩
      by_cases e : p = 12
      · subst e; rw [zup_self, pk_us, if_pos rfl]; rfl
      · rw [zup_self, pk_un e]; exact h2 p (by omega)
    · simp (disch := first | assumption | omega | decide | exact zin_d (by assumption) (by omega) (by omega) | (simp only [zb01]; done)) only [s_Remedies_fewestToPlain_14, s_Remedies_fewestToPlain_15, s_Remedies_fewestToPlain_18, s_Remedies_fewestToPlain_19, s_Remedies_fewestToPlain_22, s_Remedies_fewestToPlain_23, s_Remedies_fewestToPlain_26, s_Remedies_fewestToPlain_27, s_Remedies_fewestToPlain_28, s_Remedies_fewestToPlain_29, s_Remedies_fewestToPlain_30, s_Remedies_fewestToPlain_33, s_Remedies_fewestToPlain_36, s_Remedies_fewestToPlain_37, s_Remedies_fewestToPlain_40, s_Remedies_fewestToPlain_42, s_Remedies_fewestToPlain_43, s_Remedies_fewestToPlain_46, zlt, zle, zeq, zclamp, zinc, zdec, zdi, zdr, zdl, zdn, zpi, zpn, if_true, if_false, ite_not, Bool.false_eq_true, ne_eq, not_true_eq_false, not_false_eq_true, true_and, and_true, Nat.add_assoc, Nat.reduceAdd, e42, ep, ej, ziff, zift]
      refine kk () _ ⟨fun a ha => (zup_ne ha).trans (hf2 a ha), fun p hp => ?_⟩
      by_cases e : p = j
      · subst e; rw [zup_self, pk_us, if_neg ej]; rfl
      · rw [zup_self, pk_un e]; exact h2 p (by omega)
  · obtain ⟨hf2, h2⟩ := hp
    rw [s_Remedies_fewestToPlain_13]
    simp (disch := first | assumption | omega | decide | exact zin_d (by assumption) (by omega) (by omega) | (simp only [zb01]; done)) only [s_Remedies_fewestToPlain_14, s_Remedies_fewestToPlain_15, s_Remedies_fewestToPlain_18, s_Remedies_fewestToPlain_19, s_Remedies_fewestToPlain_22, s_Remedies_fewestToPlain_23, s_Remedies_fewestToPlain_26, s_Remedies_fewestToPlain_27, s_Remedies_fewestToPlain_28, s_Remedies_fewestToPlain_29, s_Remedies_fewestToPlain_30, s_Remedies_fewestToPlain_33, s_Remedies_fewestToPlain_36, s_Remedies_fewestToPlain_37, s_Remedies_fewestToPlain_40, s_Remedies_fewestToPlain_42, s_Remedies_fewestToPlain_43, s_Remedies_fewestToPlain_46, s_Remedies_fewestToPlain_49, s_Remedies_fewestToPlain_50, zlt, zle, zeq, zclamp, zinc, zdec, zdi, zdr, zdl, zdn, zpi, zpn, if_true, if_false, ite_not, Bool.false_eq_true, ne_eq, not_true_eq_false, not_false_eq_true, true_and, and_true, Nat.add_assoc, Nat.reduceAdd, e42, zift]
    have hr2 : frR σ σ2 := (frS_R f1).tr (fr42_R hf2)
    refine loopI (α := Unit) (N := n) (fun _ σ3 k => Ev zshX 47 51 [some (.ref 36), some (.int (nI k)), none] [] σ3 Q) (fun k σ3 => frR σ σ3 ∧ (∃ Kc Fc, WS σ3 37 n Kc Fc L) ∧ ∃ w, WY σ3 42 w ∧ Ways n K F L k w) (fun _ k σ3 hk hp kk => ?_) (fun _ σ3 hp => ?_) 0 () σ2 (Nat.zero_le _) ⟨hr2, ⟨K, F, h1.keep (fun a _ _ => hf2 a (by omega))⟩, fun p => if p = 12 then 0 else zNO, fun p hp => ⟨by dsimp only; split <;> omega, h2 p hp⟩, Ways_0 (fun _ _ => rfl)⟩
    · obtain ⟨hf3, hC3, w, hw3, hI⟩ := hp
      rw [s_Remedies_fewestToPlain_51]
      simp (disch := first | assumption | omega | decide | exact zin_d (by assumption) (by omega) (by omega) | (simp only [zb01]; done)) only [s_Remedies_fewestToPlain_52, s_Remedies_fewestToPlain_53, s_Remedies_fewestToPlain_56, s_Remedies_fewestToPlain_59, s_Remedies_fewestToPlain_62, s_Remedies_fewestToPlain_63, s_Remedies_fewestToPlain_64, zlt, zle, zeq, zclamp, zinc, zdec, zdi, zdr, zdl, zdn, zpi, zpn, if_true, if_false, ite_not, Bool.false_eq_true, ne_eq, not_true_eq_false, not_false_eq_true, true_and, and_true, Nat.add_assoc, Nat.reduceAdd, Stones_number, (keep hf3).2.2.1, ziff]
      refine Remedies_choose (keep hf3) hC3 hk hn hw3 (fun σ4 g q1 q2 q3 q4 q5 => ?_)
      simp (disch := first | assumption | omega | decide | exact zin_d (by assumption) (by omega) (by omega) | (simp only [zb01]; done)) only [s_Remedies_fewestToPlain_67, s_Remedies_fewestToPlain_70, zlt, zle, zeq, zclamp, zinc, zdec, zdi, zdr, zdl, zdn, zpi, zpn, if_true, if_false, ite_not, Bool.false_eq_true, ne_eq, not_true_eq_false, not_false_eq_true, true_and, and_true, Nat.add_assoc, Nat.reduceAdd]
      exact kk () σ4 ⟨hf3.tr q3, q1, g, q2, Ways_st hn hk hI q4 q5⟩
    · obtain ⟨hf3, hC3, w, hw3, hI⟩ := hp
      have hQ3 := hQ σ3 hf3
      rw [few_end hn hI (fun p hp => (hw3 p hp).1)] at hQ3
      rw [s_Remedies_fewestToPlain_51]
      simp (disch := first | assumption | omega | decide | exact zin_d (by assumption) (by omega) (by omega) | (simp only [zb01]; done)) only [s_Remedies_fewestToPlain_52, s_Remedies_fewestToPlain_53, s_Remedies_fewestToPlain_56, s_Remedies_fewestToPlain_59, s_Remedies_fewestToPlain_62, s_Remedies_fewestToPlain_63, s_Remedies_fewestToPlain_64, s_Remedies_fewestToPlain_67, s_Remedies_fewestToPlain_70, s_Remedies_fewestToPlain_73, s_Remedies_fewestToPlain_75, s_Remedies_fewestToPlain_76, s_Remedies_fewestToPlain_77, zlt, zle, zeq, zclamp, zinc, zdec, zdi, zdr, zdl, zdn, zpi, zpn, if_true, if_false, ite_not, Bool.false_eq_true, ne_eq, not_true_eq_false, not_false_eq_true, true_and, and_true, Nat.add_assoc, Nat.reduceAdd, Stones_number, (keep hf3).2.2.1, zift]
      have hm : Ev zshX 47 78 [some (.ref 36), some (.int (nI (mnW w 0))), some (.int (nI 0))] [] σ3 Q = Ev zshX 47 104 [some (.ref 36), some (.int (nI (mnW w 26))), some (.int (nI 26))] [] σ3 Q := by
        refine loopE (N := 26) (fun j => Ev zshX 47 78 [some (.ref 36), some (.int (nI (mnW w j))), some (.int (nI j))] [] σ3 Q) (fun j hj => ?_) ?_ 0 (by omega)
        · have e9 := hw3 j hj
          have e8 := (mnW_le w j).1
          rw [s_Remedies_fewestToPlain_78]
          by_cases h : w j < mnW w j
          · simp (disch := first | assumption | omega | decide | exact zin_d (by assumption) (by omega) (by omega) | (simp only [zb01]; done)) only [s_Remedies_fewestToPlain_79, s_Remedies_fewestToPlain_80, s_Remedies_fewestToPlain_83, s_Remedies_fewestToPlain_84, s_Remedies_fewestToPlain_87, s_Remedies_fewestToPlain_88, s_Remedies_fewestToPlain_89, s_Remedies_fewestToPlain_92, s_Remedies_fewestToPlain_93, s_Remedies_fewestToPlain_94, s_Remedies_fewestToPlain_97, s_Remedies_fewestToPlain_98, s_Remedies_fewestToPlain_101, zlt, zle, zeq, zclamp, zinc, zdec, zdi, zdr, zdl, zdn, zpi, zpn, if_true, if_false, ite_not, Bool.false_eq_true, ne_eq, not_true_eq_false, not_false_eq_true, true_and, and_true, Nat.add_assoc, Nat.reduceAdd, e42, e9.2, mnW, h, zift, ziff]
          · simp (disch := first | assumption | omega | decide | exact zin_d (by assumption) (by omega) (by omega) | (simp only [zb01]; done)) only [s_Remedies_fewestToPlain_79, s_Remedies_fewestToPlain_80, s_Remedies_fewestToPlain_83, s_Remedies_fewestToPlain_84, s_Remedies_fewestToPlain_87, s_Remedies_fewestToPlain_88, s_Remedies_fewestToPlain_89, s_Remedies_fewestToPlain_92, s_Remedies_fewestToPlain_93, s_Remedies_fewestToPlain_94, s_Remedies_fewestToPlain_97, s_Remedies_fewestToPlain_98, s_Remedies_fewestToPlain_101, zlt, zle, zeq, zclamp, zinc, zdec, zdi, zdr, zdl, zdn, zpi, zpn, if_true, if_false, ite_not, Bool.false_eq_true, ne_eq, not_true_eq_false, not_false_eq_true, true_and, and_true, Nat.add_assoc, Nat.reduceAdd, e42, e9.2, mnW, h, zift, ziff]
        · rw [s_Remedies_fewestToPlain_78]
          simp (disch := first | assumption | omega | decide | exact zin_d (by assumption) (by omega) (by omega) | (simp only [zb01]; done)) only [s_Remedies_fewestToPlain_79, s_Remedies_fewestToPlain_80, s_Remedies_fewestToPlain_83, s_Remedies_fewestToPlain_84, s_Remedies_fewestToPlain_87, s_Remedies_fewestToPlain_88, s_Remedies_fewestToPlain_89, s_Remedies_fewestToPlain_92, s_Remedies_fewestToPlain_93, s_Remedies_fewestToPlain_94, s_Remedies_fewestToPlain_97, s_Remedies_fewestToPlain_98, s_Remedies_fewestToPlain_101, zlt, zle, zeq, zclamp, zinc, zdec, zdi, zdr, zdl, zdn, zpi, zpn, if_true, if_false, ite_not, Bool.false_eq_true, ne_eq, not_true_eq_false, not_false_eq_true, true_and, and_true, Nat.add_assoc, Nat.reduceAdd, e42, zift]
      rw [show (1073741824 : Int32) = nI (mnW w 0) from rfl]
      refine Eq.mpr hm ?_
      have h26 := (mnW_le w 26).1
      by_cases hN : mnW w 26 = zNO
      · rw [if_pos hN] at hQ3
        simp (disch := first | assumption | omega | decide | exact zin_d (by assumption) (by omega) (by omega) | (simp only [zb01]; done)) only [s_Remedies_fewestToPlain_104, s_Remedies_fewestToPlain_105, s_Remedies_fewestToPlain_107, s_Remedies_fewestToPlain_110, s_Remedies_fewestToPlain_112, s_Remedies_fewestToPlain_115, s_Remedies_fewestToPlain_116, s_Remedies_fewestToPlain_119, s_Remedies_fewestToPlain_120, zlt, zle, zeq, zclamp, zinc, zdec, zdi, zdr, zdl, zdn, zpi, zpn, if_true, if_false, ite_not, Bool.false_eq_true, ne_eq, not_true_eq_false, not_false_eq_true, true_and, and_true, Nat.add_assoc, Nat.reduceAdd, hN, zNOe, ziff]
        exact hQ3
      · rw [if_neg hN] at hQ3
        have e4 : (4096 : Int32) = nI 4096 := rfl
        simp (disch := first | assumption | omega | decide | exact zin_d (by assumption) (by omega) (by omega) | (simp only [zb01]; done)) only [s_Remedies_fewestToPlain_104, s_Remedies_fewestToPlain_105, s_Remedies_fewestToPlain_107, s_Remedies_fewestToPlain_110, s_Remedies_fewestToPlain_112, s_Remedies_fewestToPlain_115, s_Remedies_fewestToPlain_116, s_Remedies_fewestToPlain_119, s_Remedies_fewestToPlain_120, zlt, zle, zeq, zclamp, zinc, zdec, zdi, zdr, zdl, zdn, zpi, zpn, if_true, if_false, ite_not, Bool.false_eq_true, ne_eq, not_true_eq_false, not_false_eq_true, true_and, and_true, Nat.add_assoc, Nat.reduceAdd, hN, zNOe, e4, zift, pk_rem]
        exact hQ3
end
