/-- all but these objects stays -/
def frR (σ σ' : zG) : Prop := ∀ a, (a < 37 ∨ a = 41 ∨ 44 ≤ a) → σ' a = σ a
theorem frR.rf {σ : zG} : frR σ σ := fun _ _ => rfl
theorem frR.tr {σ σ1 σ2 : zG} (h : frR σ σ1) (h' : frR σ1 σ2) : frR σ σ2 := fun a ha => (h' a ha).trans (h a ha)
theorem frS_R {σ σ' : zG} (h : frS 37 σ σ') : frR σ σ' := fun a ha => h a (by omega)
theorem fr43_R {σ σ' : zG} (h : ∀ a, a ≠ 43 → σ' a = σ a) : frR σ σ' := fun a ha => h a (by omega)
theorem fr42_R {σ σ' : zG} (h : ∀ a, a ≠ 42 → σ' a = σ a) : frR σ σ' := fun a ha => h a (by omega)
/-- an array that keeps ways -/
def WY (σ : zG) (a : Nat) (w : Nat → Nat) : Prop := ∀ p, p < 26 → w p ≤ zNO ∧ σ a p = nI (w p)
theorem WY.keep {σ σ' : zG} {a : Nat} {w : Nat → Nat} (h : WY σ a w) (hk : σ' a = σ a) : WY σ' a w := fun p hp => ⟨(h p hp).1, by rw [hk]; exact (h p hp).2⟩
theorem zNOe : (1073741824 : Int32) = nI 1073741824 := rfl
theorem lean_btw : ∀ m, m ≤ 12 → btw (nI m - 6) (-6) 6 = true := by decide +kernel
theorem one_btw : ∀ c, c ≤ 1 → btw (nI c) 0 1 = true := by decide +kernel
theorem place_btw : ∀ p, p < 26 → btw (nI p) 0 25 = true := by decide +kernel
theorem place_eq : ∀ m, m ≤ 12 → ∀ c, c ≤ 1 → 2 * (nI m - 6 + 6) + nI c = nI (2 * m + c) := by decide +kernel
theorem lean_head : ∀ m, m ≤ 12 → ¬ (6 : Int32) < nI m - 6 := by decide +kernel
theorem lean_next : ∀ m, m ≤ 12 → nI m - 6 + 1 = nI (m + 1) - 6 := by decide +kernel
theorem lean_btw0 : ∀ m, m ≤ 12 → ∀ d, d ≤ 5 → btw (nI m - 6 + (nI d - 3)) (-6) 6 = true → (nI m + (nI d - 3)).toNatClampNeg ≤ 12 ∧ nI (nI m + (nI d - 3)).toNatClampNeg - 6 = nI m - 6 + (nI d - 3) := by decide +kernel
theorem leanv_in (k f : Int32) : ∃ d, d ≤ 5 ∧ leanv k f = nI d - 3 := by
  obtain ⟨d, h1, h2⟩ := lnv_in (fun _ => k) (fun _ => f) 0 0
  rw [lnv, pkK, pkF, if_neg (by decide), if_neg (by decide)] at h2
  exact ⟨d, h1, h2⟩
theorem lean_of_btw {m : Nat} {k f : Int32} (hm : m ≤ 12) (h : btw (nI m - 6 + leanv k f) (-6) 6 = true) : ∃ v, v ≤ 12 ∧ nI v - 6 = nI m - 6 + leanv k f := by
  obtain ⟨d, hd, e⟩ := leanv_in k f
  rw [e] at h ⊢
  exact ⟨_, lean_btw0 m hm d hd h⟩
section
variable {n i k m v bf c : Nat} {σ : zG} {Q : Option Value → zG → Prop} {K F L Kc Fc : SF} {w g : Nat → Nat} {x : Int32}
theorem Remedies_placeOfWay (hm : m ≤ 12) (hc : c ≤ 1) : Ev zshX 51 0 [some (.int (nI m - 6)), some (.int (nI c))] [] σ Q = Q (some (.int (nI (2 * m + c)))) σ := by
  have h1 := lean_btw m hm
  have h2 := one_btw c hc
  have e1 := place_eq m hm c hc
  simp (disch := first | assumption | omega | decide | exact zin_d (by assumption) (by omega) (by omega) | (simp only [zb01]; done)) only [s_Remedies_placeOfWay_0, s_Remedies_placeOfWay_1, s_Remedies_placeOfWay_3, s_Remedies_placeOfWay_5, s_Remedies_placeOfWay_8, s_Remedies_placeOfWay_11, s_Remedies_placeOfWay_12, s_Remedies_placeOfWay_13, s_Remedies_placeOfWay_14, s_Remedies_placeOfWay_17, s_Remedies_placeOfWay_20, s_Remedies_placeOfWay_21, s_Remedies_placeOfWay_22, s_Remedies_placeOfWay_24, s_Remedies_placeOfWay_25, s_Remedies_placeOfWay_26, s_Remedies_placeOfWay_27, s_Remedies_placeOfWay_28, s_Remedies_placeOfWay_31, s_Remedies_placeOfWay_33, zlt, zle, zeq, zclamp, zinc, zdec, zdi, zdr, zdl, zdn, zpi, zpn, if_true, if_false, ite_not, Bool.false_eq_true, ne_eq, not_true_eq_false, not_false_eq_true, true_and, and_true, Nat.add_assoc, Nat.reduceAdd, X_between, h1, h2, zift, ziff, e1]
theorem Remedies_placeOfWay_out (h : ¬ btw x (-6) 6 = true) : Ev zshX 51 0 [some (.int x), some (.int (nI c))] [] σ Q = Q (some (.int (-9))) σ := by
  simp (disch := first | assumption | omega | decide | exact zin_d (by assumption) (by omega) (by omega) | (simp only [zb01]; done)) only [s_Remedies_placeOfWay_0, s_Remedies_placeOfWay_1, s_Remedies_placeOfWay_3, s_Remedies_placeOfWay_5, s_Remedies_placeOfWay_8, s_Remedies_placeOfWay_11, s_Remedies_placeOfWay_12, s_Remedies_placeOfWay_13, s_Remedies_placeOfWay_14, s_Remedies_placeOfWay_17, s_Remedies_placeOfWay_20, s_Remedies_placeOfWay_21, s_Remedies_placeOfWay_22, s_Remedies_placeOfWay_24, s_Remedies_placeOfWay_25, s_Remedies_placeOfWay_26, s_Remedies_placeOfWay_27, s_Remedies_placeOfWay_28, s_Remedies_placeOfWay_31, s_Remedies_placeOfWay_33, zlt, zle, zeq, zclamp, zinc, zdec, zdi, zdr, zdl, zdn, zpi, zpn, if_true, if_false, ite_not, Bool.false_eq_true, ne_eq, not_true_eq_false, not_false_eq_true, true_and, and_true, Nat.add_assoc, Nat.reduceAdd, X_between, h, zift, ziff]
theorem Remedies_goOn (hW : WS σ 37 n Kc Fc L) (hk : k < n) (hn : n ≤ 12) (hbf : bf ≤ 1) (hc : c ≤ 1) (hw : WY σ 42 w) (hg : WY σ 43 g)
    (hQ : ∀ σ' g', WY σ' 43 g' → (∀ a, a ≠ 43 → σ' a = σ a) → (∀ p, p < 26 → g' p ≤ g p) → (∀ m v, m ≤ 12 → v ≤ 12 → w (2 * m + bf) ≠ zNO → nI v - 6 = nI m - 6 + leanv (Kc k) (Fc k) → g' (2 * v + c) ≤ w (2 * m + bf) + mor c k) → (∀ p, p < 26 → g' p = g p ∨ ∃ m v, m ≤ 12 ∧ v ≤ 12 ∧ w (2 * m + bf) ≠ zNO ∧ nI v - 6 = nI m - 6 + leanv (Kc k) (Fc k) ∧ p = 2 * v + c ∧ g' p = w (2 * m + bf) + mor c k) → Q none σ') : Ev zshX 50 0 [some (.ref 36), some (.int (nI k)), some (.int (nI bf)), some (.int (nI c)), none, none, none, none] [] σ Q := by
  have hz : zNO = 1073741824 := rfl
  have e42 : zshX 42 = 100 + 26 := rfl
  have e43 : zshX 43 = 100 + 26 := rfl
  have e0 : Ev zshX 50 0 [some (.ref 36), some (.int (nI k)), some (.int (nI bf)), some (.int (nI c)), none, none, none, none] [] σ Q = Ev zshX 50 22 [some (.ref 36), some (.int (nI k)), some (.int (nI bf)), some (.int (nI c)), some (.int (nI (mor c k))), some (.int (nI 0 - 6)), none, none] [] σ Q := by
    have e6 : nI 0 - 6 = (-6 : Int32) := by decide
    rw [e6]
    rcases (show c = 0 ∨ c = 1 by omega) with rfl | rfl
    · have e1 : nI 0 ≠ (1 : Int32) := by decide
      simp (disch := first | assumption | omega | decide | exact zin_d (by assumption) (by omega) (by omega) | (simp only [zb01]; done)) only [s_Remedies_goOn_0, s_Remedies_goOn_1, s_Remedies_goOn_2, s_Remedies_goOn_5, s_Remedies_goOn_8, s_Remedies_goOn_9, s_Remedies_goOn_10, s_Remedies_goOn_11, s_Remedies_goOn_12, s_Remedies_goOn_15, s_Remedies_goOn_16, s_Remedies_goOn_18, s_Remedies_goOn_20, s_Remedies_goOn_24, s_Remedies_goOn_26, s_Remedies_goOn_29, s_Remedies_goOn_31, s_Remedies_goOn_32, s_Remedies_goOn_35, s_Remedies_goOn_37, s_Remedies_goOn_39, s_Remedies_goOn_40, s_Remedies_goOn_43, s_Remedies_goOn_44, s_Remedies_goOn_47, s_Remedies_goOn_48, s_Remedies_goOn_49, s_Remedies_goOn_52, s_Remedies_goOn_54, s_Remedies_goOn_56, s_Remedies_goOn_57, s_Remedies_goOn_59, s_Remedies_goOn_62, s_Remedies_goOn_65, s_Remedies_goOn_67, s_Remedies_goOn_68, s_Remedies_goOn_70, s_Remedies_goOn_73, s_Remedies_goOn_76, s_Remedies_goOn_77, s_Remedies_goOn_80, s_Remedies_goOn_82, s_Remedies_goOn_83, s_Remedies_goOn_85, s_Remedies_goOn_88, s_Remedies_goOn_89, s_Remedies_goOn_92, s_Remedies_goOn_94, s_Remedies_goOn_95, s_Remedies_goOn_98, s_Remedies_goOn_100, s_Remedies_goOn_101, s_Remedies_goOn_102, s_Remedies_goOn_105, s_Remedies_goOn_107, s_Remedies_goOn_108, s_Remedies_goOn_110, s_Remedies_goOn_111, s_Remedies_goOn_114, s_Remedies_goOn_115, s_Remedies_goOn_118, s_Remedies_goOn_121, zlt, zle, zeq, zclamp, zinc, zdec, zdi, zdr, zdl, zdn, zpi, zpn, if_true, if_false, ite_not, Bool.false_eq_true, ne_eq, not_true_eq_false, not_false_eq_true, true_and, and_true, Nat.add_assoc, Nat.reduceAdd, zift, ziff]
      rfl
    · have e1 : ¬ nI 1 ≠ (1 : Int32) := by decide
      have e2 : (4096 : Int32) + nI (2 ^ k) = nI (mor 1 k) := by
        rw [mor, if_pos rfl, show (4096 : Int32) = nI 4096 from rfl, nI_add]
      simp (disch := first | assumption | omega | decide | exact zin_d (by assumption) (by omega) (by omega) | (simp only [zb01]; done)) only [s_Remedies_goOn_0, s_Remedies_goOn_1, s_Remedies_goOn_2, s_Remedies_goOn_5, s_Remedies_goOn_8, s_Remedies_goOn_9, s_Remedies_goOn_10, s_Remedies_goOn_11, s_Remedies_goOn_12, s_Remedies_goOn_15, s_Remedies_goOn_16, s_Remedies_goOn_18, s_Remedies_goOn_20, s_Remedies_goOn_24, s_Remedies_goOn_26, s_Remedies_goOn_29, s_Remedies_goOn_31, s_Remedies_goOn_32, s_Remedies_goOn_35, s_Remedies_goOn_37, s_Remedies_goOn_39, s_Remedies_goOn_40, s_Remedies_goOn_43, s_Remedies_goOn_44, s_Remedies_goOn_47, s_Remedies_goOn_48, s_Remedies_goOn_49, s_Remedies_goOn_52, s_Remedies_goOn_54, s_Remedies_goOn_56, s_Remedies_goOn_57, s_Remedies_goOn_59, s_Remedies_goOn_62, s_Remedies_goOn_65, s_Remedies_goOn_67, s_Remedies_goOn_68, s_Remedies_goOn_70, s_Remedies_goOn_73, s_Remedies_goOn_76, s_Remedies_goOn_77, s_Remedies_goOn_80, s_Remedies_goOn_82, s_Remedies_goOn_83, s_Remedies_goOn_85, s_Remedies_goOn_88, s_Remedies_goOn_89, s_Remedies_goOn_92, s_Remedies_goOn_94, s_Remedies_goOn_95, s_Remedies_goOn_98, s_Remedies_goOn_100, s_Remedies_goOn_101, s_Remedies_goOn_102, s_Remedies_goOn_105, s_Remedies_goOn_107, s_Remedies_goOn_108, s_Remedies_goOn_110, s_Remedies_goOn_111, s_Remedies_goOn_114, s_Remedies_goOn_115, s_Remedies_goOn_118, s_Remedies_goOn_121, zlt, zle, zeq, zclamp, zinc, zdec, zdi, zdr, zdl, zdn, zpi, zpn, if_true, if_false, ite_not, Bool.false_eq_true, ne_eq, not_true_eq_false, not_false_eq_true, true_and, and_true, Nat.add_assoc, Nat.reduceAdd, bit_n k (by omega), zift, ziff, e2]
  have hmor : mor c k ≤ 8192 := by
    have := pow12 (show k ≤ 12 by omega)
    rw [mor]; split <;> omega
  rw [e0]
  refine loopI (α := Option Value × Option Value) (N := 13) (fun z σ1 j => Ev zshX 50 22 [some (.ref 36), some (.int (nI k)), some (.int (nI bf)), some (.int (nI c)), some (.int (nI (mor c k))), some (.int (nI j - 6)), z.1, z.2] [] σ1 Q) (fun j σ1 => ∃ g', WY σ1 43 g' ∧ (∀ a, a ≠ 43 → σ1 a = σ a) ∧ (∀ p, p < 26 → g' p ≤ g p) ∧ (∀ m v, m < j → v ≤ 12 → w (2 * m + bf) ≠ zNO → nI v - 6 = nI m - 6 + leanv (Kc k) (Fc k) → g' (2 * v + c) ≤ w (2 * m + bf) + mor c k) ∧ (∀ p, p < 26 → g' p = g p ∨ ∃ m v, m ≤ 12 ∧ v ≤ 12 ∧ w (2 * m + bf) ≠ zNO ∧ nI v - 6 = nI m - 6 + leanv (Kc k) (Fc k) ∧ p = 2 * v + c ∧ g' p = w (2 * m + bf) + mor c k)) (fun z j σ1 hj hp kk => ?_) (fun z σ1 hp => ?_) 0 (none, none) σ (Nat.zero_le _) ⟨g, hg, fun _ _ => rfl, fun _ _ => Nat.le_refl _, fun m v h => by omega, fun _ _ => Or.inl rfl⟩
  · obtain ⟨g', hg1, hf1, hl1, hA1, hB1⟩ := hp
    have hW1 : WS σ1 37 n Kc Fc L := hW.keep (fun a _ _ => hf1 a (by omega))
    have hw1 : WY σ1 42 w := hw.keep (hf1 42 (by omega))
    have hj12 : j ≤ 12 := by omega
    have hh := lean_head j hj12
    have hnx := lean_next j hj12
    have b1 := place_btw (2 * j + bf) (by omega)
    have w1 := hw1 (2 * j + bf) (by omega)
    rw [s_Remedies_goOn_22]
    by_cases hb1 : btw (nI j - 6 + leanv (Kc k) (Fc k)) (-6) 6 = true
    · obtain ⟨v, hv, ev⟩ := lean_of_btw hj12 hb1
      have b2 := place_btw (2 * v + c) (by omega)
      have g1 := hg1 (2 * v + c) (by omega)
      by_cases hN : w (2 * j + bf) = zNO
      · simp (disch := first | assumption | omega | decide | exact zin_d (by assumption) (by omega) (by omega) | (simp only [zb01]; done)) only [s_Remedies_goOn_0, s_Remedies_goOn_1, s_Remedies_goOn_2, s_Remedies_goOn_5, s_Remedies_goOn_8, s_Remedies_goOn_9, s_Remedies_goOn_10, s_Remedies_goOn_11, s_Remedies_goOn_12, s_Remedies_goOn_15, s_Remedies_goOn_16, s_Remedies_goOn_18, s_Remedies_goOn_20, s_Remedies_goOn_24, s_Remedies_goOn_26, s_Remedies_goOn_29, s_Remedies_goOn_31, s_Remedies_goOn_32, s_Remedies_goOn_35, s_Remedies_goOn_37, s_Remedies_goOn_39, s_Remedies_goOn_40, s_Remedies_goOn_43, s_Remedies_goOn_44, s_Remedies_goOn_47, s_Remedies_goOn_48, s_Remedies_goOn_49, s_Remedies_goOn_52, s_Remedies_goOn_54, s_Remedies_goOn_56, s_Remedies_goOn_57, s_Remedies_goOn_59, s_Remedies_goOn_62, s_Remedies_goOn_65, s_Remedies_goOn_67, s_Remedies_goOn_68, s_Remedies_goOn_70, s_Remedies_goOn_73, s_Remedies_goOn_76, s_Remedies_goOn_77, s_Remedies_goOn_80, s_Remedies_goOn_82, s_Remedies_goOn_83, s_Remedies_goOn_85, s_Remedies_goOn_88, s_Remedies_goOn_89, s_Remedies_goOn_92, s_Remedies_goOn_94, s_Remedies_goOn_95, s_Remedies_goOn_98, s_Remedies_goOn_100, s_Remedies_goOn_101, s_Remedies_goOn_102, s_Remedies_goOn_105, s_Remedies_goOn_107, s_Remedies_goOn_108, s_Remedies_goOn_110, s_Remedies_goOn_111, s_Remedies_goOn_114, s_Remedies_goOn_115, s_Remedies_goOn_118, s_Remedies_goOn_121, zlt, zle, zeq, zclamp, zinc, zdec, zdi, zdr, zdl, zdn, zpi, zpn, if_true, if_false, ite_not, Bool.false_eq_true, ne_eq, not_true_eq_false, not_false_eq_true, true_and, and_true, Nat.add_assoc, Nat.reduceAdd, Remedies_placeOfWay hj12 hbf, Stones_leanOf_in hW1 hk, ← ev, Remedies_placeOfWay hv hc, X_between, b1, b2, w1.2, hN, zNOe, hnx, zift, ziff]
        refine kk (_, _) σ1 ⟨g', hg1, hf1, hl1, fun m u hm hu hmN hmu => ?_, hB1⟩
        by_cases e : m = j
        · subst e; exact absurd hN hmN
        · exact hA1 m u (by omega) hu hmN hmu
      · have hlt : w (2 * j + bf) < zNO := by omega
        simp (disch := first | assumption | omega | decide | exact zin_d (by assumption) (by omega) (by omega) | (simp only [zb01]; done)) only [s_Remedies_goOn_0, s_Remedies_goOn_1, s_Remedies_goOn_2, s_Remedies_goOn_5, s_Remedies_goOn_8, s_Remedies_goOn_9, s_Remedies_goOn_10, s_Remedies_goOn_11, s_Remedies_goOn_12, s_Remedies_goOn_15, s_Remedies_goOn_16, s_Remedies_goOn_18, s_Remedies_goOn_20, s_Remedies_goOn_24, s_Remedies_goOn_26, s_Remedies_goOn_29, s_Remedies_goOn_31, s_Remedies_goOn_32, s_Remedies_goOn_35, s_Remedies_goOn_37, s_Remedies_goOn_39, s_Remedies_goOn_40, s_Remedies_goOn_43, s_Remedies_goOn_44, s_Remedies_goOn_47, s_Remedies_goOn_48, s_Remedies_goOn_49, s_Remedies_goOn_52, s_Remedies_goOn_54, s_Remedies_goOn_56, s_Remedies_goOn_57, s_Remedies_goOn_59, s_Remedies_goOn_62, s_Remedies_goOn_65, s_Remedies_goOn_67, s_Remedies_goOn_68, s_Remedies_goOn_70, s_Remedies_goOn_73, s_Remedies_goOn_76, s_Remedies_goOn_77, s_Remedies_goOn_80, s_Remedies_goOn_82, s_Remedies_goOn_83, s_Remedies_goOn_85, s_Remedies_goOn_88, s_Remedies_goOn_89, s_Remedies_goOn_92, s_Remedies_goOn_94, s_Remedies_goOn_95, s_Remedies_goOn_98, s_Remedies_goOn_100, s_Remedies_goOn_101, s_Remedies_goOn_102, s_Remedies_goOn_105, s_Remedies_goOn_107, s_Remedies_goOn_108, s_Remedies_goOn_110, s_Remedies_goOn_111, s_Remedies_goOn_114, s_Remedies_goOn_115, s_Remedies_goOn_118, s_Remedies_goOn_121, zlt, zle, zeq, zclamp, zinc, zdec, zdi, zdr, zdl, zdn, zpi, zpn, if_true, if_false, ite_not, Bool.false_eq_true, ne_eq, not_true_eq_false, not_false_eq_true, true_and, and_true, Nat.add_assoc, Nat.reduceAdd, zup_ne, zup_self, pk_us, pk_un, Remedies_placeOfWay hj12 hbf, Stones_leanOf_in hW1 hk, ← ev, Remedies_placeOfWay hv hc, X_between, b1, b2, w1.2, g1.2, hN, zNOe, hnx, nI_add, zift, ziff]
        refine kk (_, _) _ ⟨fun p => if p = 2 * v + c then (if w (2 * j + bf) + mor c k < g' (2 * v + c) then w (2 * j + bf) + mor c k else g' (2 * v + c)) else g' p, fun p hp => ?_, fun a ha => ?_, fun p hp => ?_, fun m u hm hu hmN hmu => ?_, fun p hp => ?_⟩
        · by_cases e : p = 2 * v + c
          · subst e
            simp only [if_true, zup_self, pk_us]
            by_cases h2 : w (2 * j + bf) + mor c k < g' (2 * v + c)
            · simp only [h2, if_true]; exact ⟨by omega, trivial⟩
            · simp only [h2, if_false]; exact ⟨g1.1, trivial⟩
          · simp only [e, if_false, zup_self, pk_un e]
            exact hg1 p hp
        · rw [zup_ne ha]; exact hf1 a ha
        · dsimp only
          have l1 := hl1 p hp
          by_cases e : p = 2 * v + c
          · subst e
            rw [if_pos rfl]; split <;> omega
          · rw [if_neg e]; exact l1
        · dsimp only
          by_cases e : m = j
          · subst e
            obtain rfl : u = v := lean_inj u hu v hv (hmu.trans ev.symm)
            rw [if_pos rfl]; split <;> omega
          · have l1 := hA1 m u (by omega) hu hmN hmu
            by_cases e2 : 2 * u + c = 2 * v + c
            · rw [if_pos e2]
              rw [e2] at l1
              split <;> omega
            · rw [if_neg e2]; exact l1
        · dsimp only
          by_cases e : p = 2 * v + c
          · subst e
            rw [if_pos rfl]
            by_cases h2 : w (2 * j + bf) + mor c k < g' (2 * v + c)
            · rw [if_pos h2]
              exact Or.inr ⟨j, v, hj12, hv, hN, ev, rfl, rfl⟩
            · rw [if_neg h2]; exact hB1 _ hp
          · rw [if_neg e]; exact hB1 p hp
    · have b9 : ¬ btw (-9) 0 25 = true := by decide
      simp (disch := first | assumption | omega | decide | exact zin_d (by assumption) (by omega) (by omega) | (simp only [zb01]; done)) only [s_Remedies_goOn_0, s_Remedies_goOn_1, s_Remedies_goOn_2, s_Remedies_goOn_5, s_Remedies_goOn_8, s_Remedies_goOn_9, s_Remedies_goOn_10, s_Remedies_goOn_11, s_Remedies_goOn_12, s_Remedies_goOn_15, s_Remedies_goOn_16, s_Remedies_goOn_18, s_Remedies_goOn_20, s_Remedies_goOn_24, s_Remedies_goOn_26, s_Remedies_goOn_29, s_Remedies_goOn_31, s_Remedies_goOn_32, s_Remedies_goOn_35, s_Remedies_goOn_37, s_Remedies_goOn_39, s_Remedies_goOn_40, s_Remedies_goOn_43, s_Remedies_goOn_44, s_Remedies_goOn_47, s_Remedies_goOn_48, s_Remedies_goOn_49, s_Remedies_goOn_52, s_Remedies_goOn_54, s_Remedies_goOn_56, s_Remedies_goOn_57, s_Remedies_goOn_59, s_Remedies_goOn_62, s_Remedies_goOn_65, s_Remedies_goOn_67, s_Remedies_goOn_68, s_Remedies_goOn_70, s_Remedies_goOn_73, s_Remedies_goOn_76, s_Remedies_goOn_77, s_Remedies_goOn_80, s_Remedies_goOn_82, s_Remedies_goOn_83, s_Remedies_goOn_85, s_Remedies_goOn_88, s_Remedies_goOn_89, s_Remedies_goOn_92, s_Remedies_goOn_94, s_Remedies_goOn_95, s_Remedies_goOn_98, s_Remedies_goOn_100, s_Remedies_goOn_101, s_Remedies_goOn_102, s_Remedies_goOn_105, s_Remedies_goOn_107, s_Remedies_goOn_108, s_Remedies_goOn_110, s_Remedies_goOn_111, s_Remedies_goOn_114, s_Remedies_goOn_115, s_Remedies_goOn_118, s_Remedies_goOn_121, zlt, zle, zeq, zclamp, zinc, zdec, zdi, zdr, zdl, zdn, zpi, zpn, if_true, if_false, ite_not, Bool.false_eq_true, ne_eq, not_true_eq_false, not_false_eq_true, true_and, and_true, Nat.add_assoc, Nat.reduceAdd, Remedies_placeOfWay hj12 hbf, Stones_leanOf_in hW1 hk, Remedies_placeOfWay_out hb1, X_between, b1, b9, hnx, zift, ziff]
      refine kk (_, _) σ1 ⟨g', hg1, hf1, hl1, fun m u hm hu hmN hmu => ?_, hB1⟩
      by_cases e : m = j
      · subst e
        rw [← hmu] at hb1
        exact absurd (lean_btw u hu) hb1
      · exact hA1 m u (by omega) hu hmN hmu
  · obtain ⟨g', hg1, hf1, hl1, hA1, hB1⟩ := hp
    have hh : (6 : Int32) < nI 13 - 6 := by decide
    rw [s_Remedies_goOn_22]
    simp (disch := first | assumption | omega | decide | exact zin_d (by assumption) (by omega) (by omega) | (simp only [zb01]; done)) only [s_Remedies_goOn_0, s_Remedies_goOn_1, s_Remedies_goOn_2, s_Remedies_goOn_5, s_Remedies_goOn_8, s_Remedies_goOn_9, s_Remedies_goOn_10, s_Remedies_goOn_11, s_Remedies_goOn_12, s_Remedies_goOn_15, s_Remedies_goOn_16, s_Remedies_goOn_18, s_Remedies_goOn_20, s_Remedies_goOn_24, s_Remedies_goOn_26, s_Remedies_goOn_29, s_Remedies_goOn_31, s_Remedies_goOn_32, s_Remedies_goOn_35, s_Remedies_goOn_37, s_Remedies_goOn_39, s_Remedies_goOn_40, s_Remedies_goOn_43, s_Remedies_goOn_44, s_Remedies_goOn_47, s_Remedies_goOn_48, s_Remedies_goOn_49, s_Remedies_goOn_52, s_Remedies_goOn_54, s_Remedies_goOn_56, s_Remedies_goOn_57, s_Remedies_goOn_59, s_Remedies_goOn_62, s_Remedies_goOn_65, s_Remedies_goOn_67, s_Remedies_goOn_68, s_Remedies_goOn_70, s_Remedies_goOn_73, s_Remedies_goOn_76, s_Remedies_goOn_77, s_Remedies_goOn_80, s_Remedies_goOn_82, s_Remedies_goOn_83, s_Remedies_goOn_85, s_Remedies_goOn_88, s_Remedies_goOn_89, s_Remedies_goOn_92, s_Remedies_goOn_94, s_Remedies_goOn_95, s_Remedies_goOn_98, s_Remedies_goOn_100, s_Remedies_goOn_101, s_Remedies_goOn_102, s_Remedies_goOn_105, s_Remedies_goOn_107, s_Remedies_goOn_108, s_Remedies_goOn_110, s_Remedies_goOn_111, s_Remedies_goOn_114, s_Remedies_goOn_115, s_Remedies_goOn_118, s_Remedies_goOn_121, zlt, zle, zeq, zclamp, zinc, zdec, zdi, zdr, zdl, zdn, zpi, zpn, if_true, if_false, ite_not, Bool.false_eq_true, ne_eq, not_true_eq_false, not_false_eq_true, true_and, and_true, Nat.add_assoc, Nat.reduceAdd, zift]
    exact hQ σ1 g' hg1 hf1 hl1 (fun m v hm => hA1 m v (by omega)) hB1
theorem Stones_remake_m1 (hC : WS σ 37 n Kc Fc L) {y z : Int32} : Ev zshX 65 0 [some (.ref 37), some (.int (-1)), some (.int y), some (.int z)] [] σ Q = Q none σ := by
  have h7 := hC.1.1
  have e1 : ¬ ((0 : Int32) ≤ -1 ∧ -1 < nI n) := fun h => absurd h.1 (by decide)
  simp (disch := first | assumption | omega | decide | exact zin_d (by assumption) (by omega) (by omega) | (simp only [zb01]; done)) only [s_Stones_remake_0, s_Stones_remake_1, s_Stones_remake_2, s_Stones_remake_5, s_Stones_remake_8, s_Stones_remake_9, s_Stones_remake_12, s_Stones_remake_13, s_Stones_remake_14, s_Stones_remake_15, s_Stones_remake_16, s_Stones_remake_19, s_Stones_remake_20, s_Stones_remake_21, s_Stones_remake_22, zlt, zle, zeq, zclamp, zinc, zdec, zdi, zdr, zdl, zdn, zpi, zpn, if_true, if_false, ite_not, Bool.false_eq_true, ne_eq, not_true_eq_false, not_false_eq_true, true_and, and_true, Nat.add_assoc, Nat.reduceAdd, Stones_has hC, e1, zift, ziff]
theorem Stones_kindOf_m1 (hW : WS σ 2 n K F L) : Ev zshX 73 0 [some (.ref 2), some (.int (-1))] [] σ Q = Q (some (.int (-9))) σ := by
  have h7 := hW.1.1
  have e1 : ¬ ((0 : Int32) ≤ -1 ∧ -1 < nI n) := fun h => absurd h.1 (by decide)
  simp (disch := first | assumption | omega | decide | exact zin_d (by assumption) (by omega) (by omega) | (simp only [zb01]; done)) only [s_Stones_kindOf_0, s_Stones_kindOf_1, s_Stones_kindOf_2, s_Stones_kindOf_5, s_Stones_kindOf_8, s_Stones_kindOf_9, s_Stones_kindOf_12, s_Stones_kindOf_13, s_Stones_kindOf_14, s_Stones_kindOf_17, s_Stones_kindOf_19, zlt, zle, zeq, zclamp, zinc, zdec, zdi, zdr, zdl, zdn, zpi, zpn, if_true, if_false, ite_not, Bool.false_eq_true, ne_eq, not_true_eq_false, not_false_eq_true, true_and, and_true, Nat.add_assoc, Nat.reduceAdd, Stones_has hW, e1, zift, ziff]
theorem Stones_figureOf_m1 (hW : WS σ 2 n K F L) : Ev zshX 74 0 [some (.ref 2), some (.int (-1))] [] σ Q = Q (some (.int (-9))) σ := by
  have h7 := hW.1.1
  have e1 : ¬ ((0 : Int32) ≤ -1 ∧ -1 < nI n) := fun h => absurd h.1 (by decide)
  simp (disch := first | assumption | omega | decide | exact zin_d (by assumption) (by omega) (by omega) | (simp only [zb01]; done)) only [s_Stones_figureOf_0, s_Stones_figureOf_1, s_Stones_figureOf_2, s_Stones_figureOf_5, s_Stones_figureOf_8, s_Stones_figureOf_9, s_Stones_figureOf_12, s_Stones_figureOf_13, s_Stones_figureOf_14, s_Stones_figureOf_17, s_Stones_figureOf_19, zlt, zle, zeq, zclamp, zinc, zdec, zdi, zdr, zdl, zdn, zpi, zpn, if_true, if_false, ite_not, Bool.false_eq_true, ne_eq, not_true_eq_false, not_false_eq_true, true_and, and_true, Nat.add_assoc, Nat.reduceAdd, Stones_has hW, e1, zift, ziff]
theorem Remedies_makeOf_m1 (hW : WS σ 2 n K F L) (hC : WS σ 37 n Kc Fc L) (hc : c ≤ 1) : Ev zshX 49 0 [some (.ref 36), some (.int (-1)), some (.int (nI c))] [] σ Q = Q none σ := by
  rcases (show c = 0 ∨ c = 1 by omega) with rfl | rfl
  · have e1 : nI 0 ≠ (1 : Int32) := by decide
    simp (disch := first | assumption | omega | decide | exact zin_d (by assumption) (by omega) (by omega) | (simp only [zb01]; done)) only [s_Remedies_makeOf_0, s_Remedies_makeOf_1, s_Remedies_makeOf_2, s_Remedies_makeOf_5, s_Remedies_makeOf_6, s_Remedies_makeOf_9, s_Remedies_makeOf_10, s_Remedies_makeOf_11, s_Remedies_makeOf_13, s_Remedies_makeOf_16, s_Remedies_makeOf_19, s_Remedies_makeOf_20, s_Remedies_makeOf_23, s_Remedies_makeOf_24, s_Remedies_makeOf_25, s_Remedies_makeOf_28, s_Remedies_makeOf_29, s_Remedies_makeOf_32, s_Remedies_makeOf_33, s_Remedies_makeOf_36, s_Remedies_makeOf_37, s_Remedies_makeOf_40, s_Remedies_makeOf_43, zlt, zle, zeq, zclamp, zinc, zdec, zdi, zdr, zdl, zdn, zpi, zpn, if_true, if_false, ite_not, Bool.false_eq_true, ne_eq, not_true_eq_false, not_false_eq_true, true_and, and_true, Nat.add_assoc, Nat.reduceAdd, Stones_kindOf_m1 hW, Stones_figureOf_m1 hW, Stones_remake_m1 hC, zift, ziff]
  · have e1 : ¬ nI 1 ≠ (1 : Int32) := by decide
    simp (disch := first | assumption | omega | decide | exact zin_d (by assumption) (by omega) (by omega) | (simp only [zb01]; done)) only [s_Remedies_makeOf_0, s_Remedies_makeOf_1, s_Remedies_makeOf_2, s_Remedies_makeOf_5, s_Remedies_makeOf_6, s_Remedies_makeOf_9, s_Remedies_makeOf_10, s_Remedies_makeOf_11, s_Remedies_makeOf_13, s_Remedies_makeOf_16, s_Remedies_makeOf_19, s_Remedies_makeOf_20, s_Remedies_makeOf_23, s_Remedies_makeOf_24, s_Remedies_makeOf_25, s_Remedies_makeOf_28, s_Remedies_makeOf_29, s_Remedies_makeOf_32, s_Remedies_makeOf_33, s_Remedies_makeOf_36, s_Remedies_makeOf_37, s_Remedies_makeOf_40, s_Remedies_makeOf_43, zlt, zle, zeq, zclamp, zinc, zdec, zdi, zdr, zdl, zdn, zpi, zpn, if_true, if_false, ite_not, Bool.false_eq_true, ne_eq, not_true_eq_false, not_false_eq_true, true_and, and_true, Nat.add_assoc, Nat.reduceAdd, Stones_remake_m1 hC, zift, ziff]
theorem Remedies_makeOf (hW : WS σ 2 n K F L) (hC : WS σ 37 n Kc Fc L) (hi : i < n) (hc : c ≤ 1) (hQ : ∀ σ', WS σ' 37 n (upd Kc i (pkK c (K i))) (upd Fc i (pkF c (F i))) L → frS 37 σ σ' → Q none σ') : Ev zshX 49 0 [some (.ref 36), some (.int (nI i)), some (.int (nI c))] [] σ Q := by
  rcases (show c = 0 ∨ c = 1 by omega) with rfl | rfl
  · have e1 : nI 0 ≠ (1 : Int32) := by decide
    simp (disch := first | assumption | omega | decide | exact zin_d (by assumption) (by omega) (by omega) | (simp only [zb01]; done)) only [s_Remedies_makeOf_0, s_Remedies_makeOf_1, s_Remedies_makeOf_2, s_Remedies_makeOf_5, s_Remedies_makeOf_6, s_Remedies_makeOf_9, s_Remedies_makeOf_10, s_Remedies_makeOf_11, s_Remedies_makeOf_13, s_Remedies_makeOf_16, s_Remedies_makeOf_19, s_Remedies_makeOf_20, s_Remedies_makeOf_23, s_Remedies_makeOf_24, s_Remedies_makeOf_25, s_Remedies_makeOf_28, s_Remedies_makeOf_29, s_Remedies_makeOf_32, s_Remedies_makeOf_33, s_Remedies_makeOf_36, s_Remedies_makeOf_37, s_Remedies_makeOf_40, s_Remedies_makeOf_43, zlt, zle, zeq, zclamp, zinc, zdec, zdi, zdr, zdl, zdn, zpi, zpn, if_true, if_false, ite_not, Bool.false_eq_true, ne_eq, not_true_eq_false, not_false_eq_true, true_and, and_true, Nat.add_assoc, Nat.reduceAdd, Stones_kindOf hW hi, Stones_figureOf hW hi, zift, ziff]
    refine Stones_remake hC hi (fun σ1 h1 f1 => ?_)
    simp (disch := first | assumption | omega | decide | exact zin_d (by assumption) (by omega) (by omega) | (simp only [zb01]; done)) only [s_Remedies_makeOf_0, s_Remedies_makeOf_1, s_Remedies_makeOf_2, s_Remedies_makeOf_5, s_Remedies_makeOf_6, s_Remedies_makeOf_9, s_Remedies_makeOf_10, s_Remedies_makeOf_11, s_Remedies_makeOf_13, s_Remedies_makeOf_16, s_Remedies_makeOf_19, s_Remedies_makeOf_20, s_Remedies_makeOf_23, s_Remedies_makeOf_24, s_Remedies_makeOf_25, s_Remedies_makeOf_28, s_Remedies_makeOf_29, s_Remedies_makeOf_32, s_Remedies_makeOf_33, s_Remedies_makeOf_36, s_Remedies_makeOf_37, s_Remedies_makeOf_40, s_Remedies_makeOf_43, zlt, zle, zeq, zclamp, zinc, zdec, zdi, zdr, zdl, zdn, zpi, zpn, if_true, if_false, ite_not, Bool.false_eq_true, ne_eq, not_true_eq_false, not_false_eq_true, true_and, and_true, Nat.add_assoc, Nat.reduceAdd]
    exact hQ σ1 h1 f1
  · have e1 : ¬ nI 1 ≠ (1 : Int32) := by decide
    simp (disch := first | assumption | omega | decide | exact zin_d (by assumption) (by omega) (by omega) | (simp only [zb01]; done)) only [s_Remedies_makeOf_0, s_Remedies_makeOf_1, s_Remedies_makeOf_2, s_Remedies_makeOf_5, s_Remedies_makeOf_6, s_Remedies_makeOf_9, s_Remedies_makeOf_10, s_Remedies_makeOf_11, s_Remedies_makeOf_13, s_Remedies_makeOf_16, s_Remedies_makeOf_19, s_Remedies_makeOf_20, s_Remedies_makeOf_23, s_Remedies_makeOf_24, s_Remedies_makeOf_25, s_Remedies_makeOf_28, s_Remedies_makeOf_29, s_Remedies_makeOf_32, s_Remedies_makeOf_33, s_Remedies_makeOf_36, s_Remedies_makeOf_37, s_Remedies_makeOf_40, s_Remedies_makeOf_43, zlt, zle, zeq, zclamp, zinc, zdec, zdi, zdr, zdl, zdn, zpi, zpn, if_true, if_false, ite_not, Bool.false_eq_true, ne_eq, not_true_eq_false, not_false_eq_true, true_and, and_true, Nat.add_assoc, Nat.reduceAdd, zift, ziff]
    refine Stones_remake hC hi (fun σ1 h1 f1 => ?_)
    simp (disch := first | assumption | omega | decide | exact zin_d (by assumption) (by omega) (by omega) | (simp only [zb01]; done)) only [s_Remedies_makeOf_0, s_Remedies_makeOf_1, s_Remedies_makeOf_2, s_Remedies_makeOf_5, s_Remedies_makeOf_6, s_Remedies_makeOf_9, s_Remedies_makeOf_10, s_Remedies_makeOf_11, s_Remedies_makeOf_13, s_Remedies_makeOf_16, s_Remedies_makeOf_19, s_Remedies_makeOf_20, s_Remedies_makeOf_23, s_Remedies_makeOf_24, s_Remedies_makeOf_25, s_Remedies_makeOf_28, s_Remedies_makeOf_29, s_Remedies_makeOf_32, s_Remedies_makeOf_33, s_Remedies_makeOf_36, s_Remedies_makeOf_37, s_Remedies_makeOf_40, s_Remedies_makeOf_43, zlt, zle, zeq, zclamp, zinc, zdec, zdi, zdr, zdl, zdn, zpi, zpn, if_true, if_false, ite_not, Bool.false_eq_true, ne_eq, not_true_eq_false, not_false_eq_true, true_and, and_true, Nat.add_assoc, Nat.reduceAdd]
    exact hQ σ1 h1 f1
end
