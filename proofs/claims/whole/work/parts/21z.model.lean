section
variable {σ σ0 σ1 : zG} {Q : Option Value → zG → Prop} {a : At} {x y z w b : Int32} {ln k s q j p n i N : Nat} {L : SF} {T : Nat → Int32} {β : Bt}
theorem fst_psn (h : ∀ i, i < N → psn ln L i < ln ∧ strayS ln L (psn ln L i) = -9) (hN : N ≤ 32) : ∀ k, k ≤ N → fstS ln L 96 0 = fstS ln L (96 - k) (psn ln L k) := by
  intro k
  induction k with
  | zero => intro _; rfl
  | succ k ih =>
    intro hk
    obtain ⟨h1, h2⟩ := h k (by omega)
    rw [ih (by omega), show 96 - k = (96 - (k + 1)) + 1 by omega, fstS, if_pos h1, if_pos h2]
    rfl
theorem cnt_psn (h : ∀ i, i < N → psn ln L i < ln) (hN : N ≤ 32) : ∀ k, k ≤ N → cntS ln L 96 0 = cntS ln L (96 - k) (psn ln L k) + k := by
  intro k
  induction k with
  | zero => intro _; rfl
  | succ k ih =>
    intro hk
    rw [ih (by omega), show 96 - k = (96 - (k + 1)) + 1 by omega, cntS, if_pos (h k (by omega))]
    show cntS ln L (96 - (k + 1)) (nxt ln L (psn ln L k)) + 1 + k = cntS ln L (96 - (k + 1)) (nxt ln L (psn ln L k)) + (k + 1)
    omega
theorem WX_setL0 {σ' : zG} (h : WX σ a) (hB : WMd σ' β) (hk : Bok β) (hd : num 999 β.2.2.2.2) (h14 : σ' 0 14 = nI 0) (f1 : ∀ c, c = 1 ∨ c = 14 → σ' c = σ c) (f2 : ∀ k, k = 18 ∨ k = 25 → σ' 0 k = σ 0 k) (f3 : ∀ j, j < 48 → σ' 12 j = σ 12 j) : WX σ' (setB (setL a 0 a.2.2.1.2) β) := by
  obtain ⟨-, h4, ⟨-, h6⟩, ⟨h7, h7b, h7c⟩, h8⟩ := h
  exact ⟨⟨hB, hk, hd⟩, h4.keep (f2 18 (by omega)) f3, ⟨⟨Nat.zero_le _, h14, fun i hi => absurd hi (Nat.not_lt_zero i)⟩, fun i hi => absurd hi (Nat.not_lt_zero i)⟩, ⟨h7, by rw [f2 25 (by omega)]; exact h7b, fun i hi => by rw [f1 14 (by omega)]; exact h7c i hi⟩, fun i hi => by rw [f1 1 (by omega)]; exact h8 i hi⟩
/-- the second loop of bridge: the statements come -/
theorem M_bridge2 {β0 : Bt} {σ4 : zG} (hL : Lok ln L) (h96 : ln ≤ 96) (hN : N ≤ 32) (hrec : ∀ i, i < N → psn ln L i < ln ∧ strayS ln L (psn ln L i) = -9 ∧ recM σ4 ln L i) (hend : ¬ psn ln L N < ln) (hst : σ4 0 16 = nI N) (hkp : KP σ4 48 β0) (hQ1 : ∀ σ', (wrgS ln L 96 0 β0).1 = -9 → WMd σ' (wrgS ln L 96 0 β0).2 → Bok (wrgS ln L 96 0 β0).2 → num 999 (wrgS ln L 96 0 β0).2.2.2.2.2 → frM σ4 σ' → Q (some (.int (nI N))) σ') (hQ0 : ∀ σ' q, q < 1000 → (wrgS ln L 96 0 β0).1 = nI q → WMd σ' β0 → frU σ4 σ' → Q (some (.int (-2000 - nI q))) σ') : ∀ (m k : Nat) (β : Bt) (σ2 : zG), m + k = N → WMd σ2 β → Bok β → num 999 β.2.2.2.2 → frM σ4 σ2 → wrgS ln L 96 0 β0 = wrgS ln L (96 - k) (psn ln L k) β → Ev zshM 180 86 [some (.ref 0), some (.int 1), some (.int (nI k))] [] σ2 Q := by
  have z10 : zshM 10 = 100 + 48 := rfl
  generalize wrgS ln L 96 0 β0 = W0 at *
  intro m
  induction m with
  | zero =>
    intro k β σ2 hk hW hB hd f hw
    obtain rfl : k = N := by omega
    have hs2 : σ2 0 16 = nI k := by rw [f.2 16 (by omega)]; exact hst
    have ew : wrgS ln L (96 - k) (psn ln L k) β = (-9, β) := by
      rw [show 96 - k = (95 - k) + 1 by omega, wrgS, if_neg hend]
    rw [ew] at hw
    rw [hw] at hQ1
    rw [s_M_bridge_86]
    simp (disch := first | assumption | omega | decide | exact zin_d (by assumption) (by omega) (by omega) | (simp only [zb01]; done)) only [s_M_bridge_0, s_M_bridge_1, s_M_bridge_2, s_M_bridge_5, s_M_bridge_6, s_M_bridge_7, s_M_bridge_10, s_M_bridge_11, s_M_bridge_13, s_M_bridge_16, s_M_bridge_17, s_M_bridge_20, s_M_bridge_21, s_M_bridge_24, s_M_bridge_27, s_M_bridge_28, s_M_bridge_31, s_M_bridge_34, s_M_bridge_35, s_M_bridge_38, s_M_bridge_39, s_M_bridge_40, s_M_bridge_41, s_M_bridge_44, s_M_bridge_45, s_M_bridge_48, s_M_bridge_49, s_M_bridge_52, s_M_bridge_53, s_M_bridge_54, s_M_bridge_57, s_M_bridge_60, s_M_bridge_61, s_M_bridge_62, s_M_bridge_65, s_M_bridge_66, s_M_bridge_69, s_M_bridge_72, s_M_bridge_73, s_M_bridge_76, s_M_bridge_77, s_M_bridge_78, s_M_bridge_79, s_M_bridge_80, s_M_bridge_81, s_M_bridge_84, s_M_bridge_85, s_M_bridge_87, s_M_bridge_88, s_M_bridge_91, s_M_bridge_94, s_M_bridge_95, s_M_bridge_96, s_M_bridge_99, s_M_bridge_102, s_M_bridge_105, s_M_bridge_106, s_M_bridge_107, s_M_bridge_108, s_M_bridge_111, s_M_bridge_114, s_M_bridge_115, s_M_bridge_118, s_M_bridge_119, s_M_bridge_120, s_M_bridge_121, s_M_bridge_122, s_M_bridge_125, s_M_bridge_128, s_M_bridge_129, s_M_bridge_132, zlt, zle, zeq, zclamp, zinc, zdec, zdi, zdr, zdl, zdn, zpi, zpn, if_true, if_false, ite_not, Bool.false_eq_true, ne_eq, not_true_eq_false, not_false_eq_true, true_and, and_true, Nat.add_assoc, Nat.reduceAdd, hs2, zift]
    exact hQ1 σ2 rfl hW hB hd f
  | succ m ih =>
    intro k β σ2 hk hW hB hd f hw
    have hs2 : σ2 0 16 = nI N := by rw [f.2 16 (by omega)]; exact hst
    obtain ⟨r1, r2, r3⟩ := hrec k (by omega)
    obtain ⟨t1, t2, t3⟩ := r3
    have e9 : σ2 9 = σ4 9 := f.1 9 (by omega)
    have e10 : σ2 10 = σ4 10 := f.1 10 (by omega)
    have e11 : σ2 11 = σ4 11 := f.1 11 (by omega)
    have hkN : ¬ N ≤ k := by omega
    have hk48 : k < 48 := by omega
    rw [show 96 - k = (96 - (k + 1)) + 1 by omega, wrgS, if_pos r1] at hw
    rw [s_M_bridge_86]
    simp (disch := first | assumption | omega | decide | exact zin_d (by assumption) (by omega) (by omega) | (simp only [zb01]; done)) only [s_M_bridge_87, s_M_bridge_88, s_M_bridge_91, s_M_bridge_94, s_M_bridge_95, s_M_bridge_96, s_M_bridge_99, s_M_bridge_102, s_M_bridge_105, s_M_bridge_106, s_M_bridge_107, s_M_bridge_108, s_M_bridge_111, s_M_bridge_114, s_M_bridge_115, s_M_bridge_118, s_M_bridge_119, s_M_bridge_120, s_M_bridge_121, s_M_bridge_122, s_M_bridge_125, zlt, zle, zeq, zclamp, zinc, zdec, zdi, zdr, zdl, zdn, zpi, zpn, if_true, if_false, ite_not, Bool.false_eq_true, ne_eq, not_true_eq_false, not_false_eq_true, true_and, and_true, Nat.add_assoc, Nat.reduceAdd, hs2, ziff]
    refine M_comes hL (by omega) hk48 (by rw [e9]; exact t1) (by rw [e11]; exact t3) r2 hW hB hd (fun β' σ3 hsm h3 f3 => ?_) (fun hsm => ?_)
    · rw [hsm] at hw
      obtain ⟨b1, b2⟩ := stm_ok hL hB hd (by omega) r2 hsm
      simp (disch := first | assumption | omega | decide | exact zin_d (by assumption) (by omega) (by omega) | (simp only [zb01]; done)) only [s_M_bridge_87, s_M_bridge_88, s_M_bridge_91, s_M_bridge_94, s_M_bridge_95, s_M_bridge_96, s_M_bridge_99, s_M_bridge_102, s_M_bridge_105, s_M_bridge_106, s_M_bridge_107, s_M_bridge_108, s_M_bridge_111, s_M_bridge_114, s_M_bridge_115, s_M_bridge_118, s_M_bridge_119, s_M_bridge_120, s_M_bridge_121, s_M_bridge_122, s_M_bridge_125, zlt, zle, zeq, zclamp, zinc, zdec, zdi, zdr, zdl, zdn, zpi, zpn, if_true, if_false, ite_not, Bool.false_eq_true, ne_eq, not_true_eq_false, not_false_eq_true, true_and, and_true, Nat.add_assoc, Nat.reduceAdd, zift, ziff]
      exact ih (k + 1) β' σ3 (by omega) h3 b1 b2 (f.tr f3) hw
    · rw [hsm] at hw
      simp (disch := first | assumption | omega | decide | exact zin_d (by assumption) (by omega) (by omega) | (simp only [zb01]; done)) only [s_M_bridge_87, s_M_bridge_88, s_M_bridge_91, s_M_bridge_94, s_M_bridge_95, s_M_bridge_96, s_M_bridge_99, s_M_bridge_102, s_M_bridge_105, s_M_bridge_106, s_M_bridge_107, s_M_bridge_108, s_M_bridge_111, s_M_bridge_114, s_M_bridge_115, s_M_bridge_118, s_M_bridge_119, s_M_bridge_120, s_M_bridge_121, s_M_bridge_122, s_M_bridge_125, zlt, zle, zeq, zclamp, zinc, zdec, zdi, zdr, zdl, zdn, zpi, zpn, if_true, if_false, ite_not, Bool.false_eq_true, ne_eq, not_true_eq_false, not_false_eq_true, true_and, and_true, Nat.add_assoc, Nat.reduceAdd, zift, ziff]
      refine M_backs (w := 1) (hkp.keep (f.1 12 (by omega))) (by omega) (fun σ3 h3 f1 f2 => ?_)
      have ea : σ3 10 k = nI (psn ln L k) := by rw [f1 10 (by omega), e10]; exact t2
      simp (disch := first | assumption | omega | decide | exact zin_d (by assumption) (by omega) (by omega) | (simp only [zb01]; done)) only [s_M_bridge_87, s_M_bridge_88, s_M_bridge_91, s_M_bridge_94, s_M_bridge_95, s_M_bridge_96, s_M_bridge_99, s_M_bridge_102, s_M_bridge_105, s_M_bridge_106, s_M_bridge_107, s_M_bridge_108, s_M_bridge_111, s_M_bridge_114, s_M_bridge_115, s_M_bridge_118, s_M_bridge_119, s_M_bridge_120, s_M_bridge_121, s_M_bridge_122, s_M_bridge_125, zlt, zle, zeq, zclamp, zinc, zdec, zdi, zdr, zdl, zdn, zpi, zpn, if_true, if_false, ite_not, Bool.false_eq_true, ne_eq, not_true_eq_false, not_false_eq_true, true_and, and_true, Nat.add_assoc, Nat.reduceAdd, ea]
      refine hQ0 σ3 (psn ln L k) (by omega) (by rw [hw]) h3 ⟨fun c hc => ?_, fun i hi => ?_, fun j hj => ?_⟩
      · rw [f1 c (by omega)]; exact f.1 c (by omega)
      · rw [f2 i (by omega) (by omega) (by omega)]; exact f.2 i (by omega)
      · rw [f1 12 (by omega), f.1 12 (by omega)]
theorem M_bridge (hR : WX σ a) (hQ : ∀ σ', WX σ' (c_bridge a).2 → Q (some (.int (c_bridge a).1)) σ') : Ev zshM 180 0 [some (.ref 0), none, none] [] σ Q := by
  obtain ⟨⟨g1, g2, g3⟩, g4, ⟨⟨h96, hn, hA⟩, h6⟩, ⟨h7, h7b, h7c⟩, g8⟩ := id hR
  rw [c_bridge] at hQ
  simp (disch := first | assumption | omega | decide | exact zin_d (by assumption) (by omega) (by omega) | (simp only [zb01]; done)) only [s_M_bridge_0, s_M_bridge_1, s_M_bridge_2, s_M_bridge_5, s_M_bridge_6, s_M_bridge_7, s_M_bridge_10, s_M_bridge_11, zlt, zle, zeq, zclamp, zinc, zdec, zdi, zdr, zdl, zdn, zpi, zpn, if_true, if_false, ite_not, Bool.false_eq_true, ne_eq, not_true_eq_false, not_false_eq_true, true_and, and_true, Nat.add_assoc, Nat.reduceAdd]
  have w1 : WLm (zup (zup σ 0 15 0) 0 16 0) a.2.2.1.1 a.2.2.1.2 := ⟨h96, by simp (disch := first | assumption | omega | decide | exact zin_d (by assumption) (by omega) (by omega) | (simp only [zb01]; done)) only [zup_ne, zup_self, pk_us, pk_un]; exact hn, fun i hi => by simp (disch := first | assumption | omega | decide | exact zin_d (by assumption) (by omega) (by omega) | (simp only [zb01]; done)) only [zup_ne, zup_self, pk_us, pk_un]; exact hA i hi⟩
  have s0 : ∀ (σ' : zG), (∀ c, c ≠ 0 → c ≠ 9 → c ≠ 10 → c ≠ 11 → σ' c = zup (zup σ 0 15 0) 0 16 0 c) → (∀ i, i ≠ 15 → i ≠ 16 → σ' 0 i = zup (zup σ 0 15 0) 0 16 0 0 i) → (∀ c, c ≠ 0 → c ≠ 9 → c ≠ 10 → c ≠ 11 → σ' c = σ c) ∧ (∀ i, i ≠ 15 → i ≠ 16 → σ' 0 i = σ 0 i) := by
    intro σ' q1 q2
    refine ⟨fun c c0 c1 c2 c3 => ?_, fun i i1 i2 => ?_⟩
    · rw [q1 c c0 c1 c2 c3, zup_ne c0, zup_ne c0]
    · rw [q2 i i1 i2, zup_self, pk_un i2, zup_self, pk_un i1]
  refine M_bridge1 h6 w1 (by simp (disch := first | assumption | omega | decide | exact zin_d (by assumption) (by omega) (by omega) | (simp only [zb01]; done)) only [zup_ne, zup_self, pk_us, pk_un]) (by simp (disch := first | assumption | omega | decide | exact zin_d (by assumption) (by omega) (by omega) | (simp only [zb01]; done)) only [zup_ne, zup_self, pk_us, pk_un]) (fun N σ1 hN hN1 q1 q2 q3 q4 q5 => ?_) (fun q σ1 q1 q2 q3 q4 q5 => ?_)
  · obtain ⟨p1, p2⟩ := s0 σ1 q1 q2
    generalize hln : a.2.2.1.1 = ln at *
    generalize hLL : a.2.2.1.2 = L at *
    have hz : strz a = -9 := by
      have hf := fst_psn (fun i hi => ⟨(q4 i hi).1, (q4 i hi).2.1⟩) hN N (Nat.le_refl _)
      have hl0 : ¬ ln = 0 := by
        have := (q4 0 (by omega)).1
        omega
      rw [strz, hln, hLL, if_neg hl0, hf, show 96 - N = (95 - N) + 1 by omega, fstS, if_neg q5]
    have hc : cntS ln L 96 0 = N := by
      rw [cnt_psn (fun i hi => (q4 i hi).1) hN N (Nat.le_refl _), show 96 - N = (95 - N) + 1 by omega, cntS, if_neg q5, Nat.zero_add]
    rw [if_pos hz, hc] at hQ
    simp (disch := first | assumption | omega | decide | exact zin_d (by assumption) (by omega) (by omega) | (simp only [zb01]; done)) only [s_M_bridge_60, s_M_bridge_61, s_M_bridge_62, s_M_bridge_65, s_M_bridge_66, s_M_bridge_69, s_M_bridge_72, s_M_bridge_73, s_M_bridge_76, s_M_bridge_77, s_M_bridge_78, s_M_bridge_79, s_M_bridge_80, s_M_bridge_81, s_M_bridge_84, s_M_bridge_85, zlt, zle, zeq, zclamp, zinc, zdec, zdi, zdr, zdl, zdn, zpi, zpn, if_true, if_false, ite_not, Bool.false_eq_true, ne_eq, not_true_eq_false, not_false_eq_true, true_and, and_true, Nat.add_assoc, Nat.reduceAdd, zift, ziff]
    have m1 : WMd (zup σ1 0 14 0) a.1 := WMd.z0 (g1.keep (fun c _ _ => p1 c (by omega) (by omega) (by omega) (by omega)) (fun k _ _ => p2 k (by omega) (by omega))) (by omega)
    refine M_keeps (w := 1) m1 (by omega) (fun σ4 k4 f1 f2 f3 => ?_)
    simp (disch := first | assumption | omega | decide | exact zin_d (by assumption) (by omega) (by omega) | (simp only [zb01]; done)) only [s_M_bridge_60, s_M_bridge_61, s_M_bridge_62, s_M_bridge_65, s_M_bridge_66, s_M_bridge_69, s_M_bridge_72, s_M_bridge_73, s_M_bridge_76, s_M_bridge_77, s_M_bridge_78, s_M_bridge_79, s_M_bridge_80, s_M_bridge_81, s_M_bridge_84, s_M_bridge_85, zlt, zle, zeq, zclamp, zinc, zdec, zdi, zdr, zdl, zdn, zpi, zpn, if_true, if_false, ite_not, Bool.false_eq_true, ne_eq, not_true_eq_false, not_false_eq_true, true_and, and_true, Nat.add_assoc, Nat.reduceAdd]
    have m4 : WMd σ4 a.1 := m1.keep (fun c _ _ => f1 c (by omega) (by omega)) (fun k _ _ => f2 k (by omega) (by omega))
    have e14 : σ4 0 14 = nI 0 := by rw [f2 14 (by omega) (by omega), zup_self, pk_us]; rfl
    have fc : ∀ c, c ≠ 0 → c ≠ 9 → c ≠ 10 → c ≠ 11 → c ≠ 12 → σ4 c = σ c := fun c c0 c1 c2 c3 c4 => by rw [f1 c c0 c4, zup_ne c0]; exact p1 c c0 c1 c2 c3
    have f0 : ∀ i, i ≠ 14 → i ≠ 15 → i ≠ 16 → i ≠ 19 → i ≠ 20 → σ4 0 i = σ 0 i := fun i i1 i2 i3 i4 i5 => by rw [f2 i i4 i5, zup_self, pk_un i1]; exact p2 i i2 i3
    have f12 : ∀ j, j < 48 → σ4 12 j = σ 12 j := fun j hj => by rw [f3 j (by omega), zup_ne (by omega)]; exact congrFun (p1 12 (by omega) (by omega) (by omega) (by omega)) j
    have ef : ∀ c, c = 9 ∨ c = 10 ∨ c = 11 → σ4 c = σ1 c := fun c hc => by rw [f1 c (by omega) (by omega), zup_ne (by omega)]
    refine M_bridge2 (β0 := a.1) (σ4 := σ4) h6 h96 hN (fun i hi => ⟨(q4 i hi).1, (q4 i hi).2.1, (q4 i hi).2.2.keep (by rw [ef 9 (by omega)]) (by rw [ef 10 (by omega)]) (fun t _ => by rw [ef 11 (by omega)])⟩) q5 (by rw [f2 16 (by omega) (by omega), zup_self, pk_un (by omega)]; exact q3) k4 (fun σ5 u1 u2 u3 u4 u5 => ?_) (fun σ5 q u0 u1 u2 u3 => ?_) N 0 a.1 σ4 (by omega) m4 g2 g3 frM.rf rfl
    · rw [if_pos u1] at hQ
      refine hQ σ5 ?_
      have wx := WX_setL0 (σ' := σ5) hR u2 u3 u4 (by rw [u5.2 14 (by omega)]; exact e14) (fun c hc => by rw [u5.1 c (by omega)]; exact fc c (by omega) (by omega) (by omega) (by omega) (by omega)) (fun k hk => by rw [u5.2 k (by omega)]; exact f0 k (by omega) (by omega) (by omega) (by omega) (by omega)) (fun j hj => by rw [u5.1 12 (by omega)]; exact f12 j hj)
      rw [hLL] at wx
      exact wx
    · have n9 : ¬ nI q = -9 := nI_ne9 (by omega)
      rw [u1, if_neg n9] at hQ
      refine hQ σ5 ?_
      have wx := WX_setL0 (σ' := σ5) hR u2 g2 g3 (by rw [u3.2.1 14 (by omega)]; exact e14) (fun c hc => by rw [u3.1 c (by omega)]; exact fc c (by omega) (by omega) (by omega) (by omega) (by omega)) (fun k hk => by rw [u3.2.1 k (by omega)]; exact f0 k (by omega) (by omega) (by omega) (by omega) (by omega)) (fun j hj => by rw [u3.2.2 j hj]; exact f12 j hj)
      rw [hLL] at wx
      exact wx
  · obtain ⟨p1, p2⟩ := s0 σ1 q1 q2
    have hz : strz a = nI q := q4
    have n9 : ¬ strz a = -9 := by rw [hz]; exact nI_ne9 (by omega)
    rw [if_neg n9, hz] at hQ
    have e15 : zup σ1 0 14 0 0 15 = nI q := by rw [zup_self, pk_un (by omega)]; exact q3
    simp (disch := first | assumption | omega | decide | exact zin_d (by assumption) (by omega) (by omega) | (simp only [zb01]; done)) only [s_M_bridge_60, s_M_bridge_61, s_M_bridge_62, s_M_bridge_65, s_M_bridge_66, s_M_bridge_69, s_M_bridge_72, s_M_bridge_73, s_M_bridge_76, s_M_bridge_77, s_M_bridge_78, s_M_bridge_79, s_M_bridge_80, s_M_bridge_81, s_M_bridge_84, s_M_bridge_85, zlt, zle, zeq, zclamp, zinc, zdec, zdi, zdr, zdl, zdn, zpi, zpn, if_true, if_false, ite_not, Bool.false_eq_true, ne_eq, not_true_eq_false, not_false_eq_true, true_and, and_true, Nat.add_assoc, Nat.reduceAdd, e15, zift, ziff]
    refine hQ _ ?_
    have m1 : WMd (zup σ1 0 14 0) a.1 := WMd.z0 (g1.keep (fun c _ _ => p1 c (by omega) (by omega) (by omega) (by omega)) (fun k _ _ => p2 k (by omega) (by omega))) (by omega)
    exact WX_setL0 (σ' := zup σ1 0 14 0) hR m1 g2 g3 (by rw [zup_self, pk_us]; rfl) (fun c hc => by rw [zup_ne (by omega)]; exact p1 c (by omega) (by omega) (by omega) (by omega)) (fun k hk => by rw [zup_self, pk_un (by omega)]; exact p2 k (by omega) (by omega)) (fun j hj => by rw [zup_ne (by omega)]; exact congrFun (p1 12 (by omega) (by omega) (by omega) (by omega)) j)
end
