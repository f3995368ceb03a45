/-- how many of the first k bits are 0 -/
def zbt (b : Int32) : Nat → Nat
  | 0 => 0
  | k + 1 => if hb b k = true then zbt b k else zbt b k + 1
theorem zbt_eq : ∀ n, n ≤ 7 → ∀ b, b < 2 ^ n → (nI n - bitc (nI b)).toNatClampNeg = zbt (nI b) n := by decide +kernel
theorem zbt_le {b : Int32} : ∀ k, zbt b k ≤ k := by
  intro k
  induction k with
  | zero => exact Nat.le_refl _
  | succ k ih =>
    rw [zbt]
    split <;> omega
theorem pow_19 : ∀ k, k ≤ 7 → ∀ t, t ≤ 20 → t ^ k ≤ 1280000000 := by decide +kernel
theorem powS_lN {t : Nat} (ht : t < 2 ^ 31) : ∀ k, powS (nI t) k = lN (t ^ k) := by
  intro k
  induction k with
  | zero => rfl
  | succ k ih => rw [powS, ih, nI_l ht, lN_mul, Nat.pow_succ]
theorem fevS_lN {β : Bt} {n t : Nat} (hn : n ≤ 7) (ht : t ≤ 20) : ∀ b, b ≤ 2 ^ n → ∃ u, u ≤ 1280000000 * b ∧ fevS β n t b = lN u := by
  intro b
  induction b with
  | zero => intro _; exact ⟨0, by omega, rfl⟩
  | succ b ih =>
    intro hb
    obtain ⟨u, h1, h2⟩ := ih (by omega)
    rw [fevS]
    split
    · rw [zbt_eq n hn b (by omega), powS_lN (show t - 1 < 2 ^ 31 by omega), h2, lN_add]
      have := pow_19 (zbt (nI b) n) (Nat.le_trans (zbt_le n) hn) (t - 1) (by omega)
      exact ⟨u + (t - 1) ^ zbt (nI b) n, by omega, rfl⟩
    · exact ⟨u, by omega, h2⟩
theorem day_nh {β : Bt} {b : Int32} {k : Nat} (h : hb b k = true) : dayS (¬ True) β = dayS (hb b k = false) β := by
  rw [dayS, dayS, if_neg (fun z => z trivial), if_neg (by rw [h]; decide)]
theorem day_yh {β : Bt} {b : Int32} {k : Nat} (h : ¬ hb b k = true) : dayS (¬ False) β = dayS (hb b k = false) β := by
  rw [dayS, dayS, if_pos id, if_pos (by cases hh : hb b k with | false => rfl | true => exact absurd hh h)]
theorem lN_mul1 (x : Int64) : x * 1 = x := Int64.mul_one x
section
variable {σ : zG} {Q : Option Value → zG → Prop} {a : At} {x y z w p : Int32} {β : Bt} {b i j k n t : Nat} {u d : Int64}
/-- one way of the fevers -/
theorem M_feverWay (hW : WMd σ β) (hB : Bok β) (hn : n ≤ 7) (ht : 2 ≤ t ∧ t ≤ 20) {o10 o11 o12 : Option Value} (hQ : ∀ σ' o10 o11 o12, WMd σ' β → frT σ σ' → Ev zshM 245 91 [some (.ref 0), some (.int (nI n)), some (.int (nI t)), some (.int p), some (.int 0), some (.long (if stB (fevD β (nI b) n) = true then u + powS (nI (t - 1)) (zbt (nI b) n) else u)), none, some (.long d), none, some (.int (nI (b + 1))), o10, o11, o12] [] σ' Q) : Ev zshM 245 99 [some (.ref 0), some (.int (nI n)), some (.int (nI t)), some (.int p), some (.int 0), some (.long u), none, some (.long d), none, some (.int (nI b)), o10, o11, o12] [] σ Q := by
  have et : nI t - 1 = nI (t - 1) := zdec (by omega)
  simp (disch := first | assumption | omega | decide | exact zin_d (by assumption) (by omega) (by omega) | (simp only [zb01]; done)) only [s_M_fever_99, s_M_fever_100, zlt, zle, zeq, zclamp, zinc, zdec, zdi, zdr, zdl, zdn, zpi, zpn, if_true, if_false, ite_not, Bool.false_eq_true, ne_eq, not_true_eq_false, not_false_eq_true, true_and, and_true, Nat.add_assoc, Nat.reduceAdd]
  refine M_thinks hW (fun σ1 h1 k1 f1 => ?_)
  simp (disch := first | assumption | omega | decide | exact zin_d (by assumption) (by omega) (by omega) | (simp only [zb01]; done)) only [s_M_fever_103, s_M_fever_104, s_M_fever_106, s_M_fever_107, zlt, zle, zeq, zclamp, zinc, zdec, zdi, zdr, zdl, zdn, zpi, zpn, if_true, if_false, ite_not, Bool.false_eq_true, ne_eq, not_true_eq_false, not_false_eq_true, true_and, and_true, Nat.add_assoc, Nat.reduceAdd]
  refine loopI (α := Unit) (N := n) (fun _ σ2 j => Ev zshM 245 109 [some (.ref 0), some (.int (nI n)), some (.int (nI t)), some (.int p), some (.int 0), some (.long u), none, some (.long d), none, some (.int (nI b)), some (.long (powS (nI (t - 1)) (zbt (nI b) j))), none, some (.int (nI j))] [] σ2 Q) (fun j σ2 => WMd σ2 (fevD β (nI b) j) ∧ frM σ1 σ2) (fun _ j σ2 hj hp kk => ?_) (fun _ σ2 hp => ?_) 0 () σ1 (Nat.zero_le _) ⟨h1, frM.rf⟩
  · obtain ⟨q1, q2⟩ := hp
    rw [s_M_fever_109]
    by_cases h : hb (nI b) j = true
    · simp (disch := first | assumption | omega | decide | exact zin_d (by assumption) (by omega) (by omega) | (simp only [zb01]; done)) only [s_M_fever_111, s_M_fever_112, s_M_fever_115, s_M_fever_117, s_M_fever_119, s_M_fever_121, s_M_fever_124, s_M_fever_127, s_M_fever_128, s_M_fever_131, s_M_fever_132, s_M_fever_133, s_M_fever_134, s_M_fever_135, s_M_fever_136, s_M_fever_138, s_M_fever_139, s_M_fever_141, s_M_fever_143, s_M_fever_146, s_M_fever_149, s_M_fever_152, zlt, zle, zeq, zclamp, zinc, zdec, zdi, zdr, zdl, zdn, zpi, zpn, if_true, if_false, ite_not, Bool.false_eq_true, ne_eq, not_true_eq_false, not_false_eq_true, true_and, and_true, Nat.add_assoc, Nat.reduceAdd, M_has, zift, ziff]
      refine M_goesDay (c := True) q1 (fevD_ok hB j) (fun σ3 h3 f3 => ?_)
      rw [day_nh h] at h3
      have kk2 := kk () σ3 ⟨h3, q2.tr f3⟩
      rw [zbt, if_pos h] at kk2
      simp (disch := first | assumption | omega | decide | exact zin_d (by assumption) (by omega) (by omega) | (simp only [zb01]; done)) only [s_M_fever_111, s_M_fever_112, s_M_fever_115, s_M_fever_117, s_M_fever_119, s_M_fever_121, s_M_fever_124, s_M_fever_127, s_M_fever_128, s_M_fever_131, s_M_fever_132, s_M_fever_133, s_M_fever_134, s_M_fever_135, s_M_fever_136, s_M_fever_138, s_M_fever_139, s_M_fever_141, s_M_fever_143, s_M_fever_146, s_M_fever_149, s_M_fever_152, zlt, zle, zeq, zclamp, zinc, zdec, zdi, zdr, zdl, zdn, zpi, zpn, if_true, if_false, ite_not, Bool.false_eq_true, ne_eq, not_true_eq_false, not_false_eq_true, true_and, and_true, Nat.add_assoc, Nat.reduceAdd, lN_mul1]
      exact kk2
    · simp (disch := first | assumption | omega | decide | exact zin_d (by assumption) (by omega) (by omega) | (simp only [zb01]; done)) only [s_M_fever_111, s_M_fever_112, s_M_fever_115, s_M_fever_117, s_M_fever_119, s_M_fever_121, s_M_fever_124, s_M_fever_127, s_M_fever_128, s_M_fever_131, s_M_fever_132, s_M_fever_133, s_M_fever_134, s_M_fever_135, s_M_fever_136, s_M_fever_138, s_M_fever_139, s_M_fever_141, s_M_fever_143, s_M_fever_146, s_M_fever_149, s_M_fever_152, zlt, zle, zeq, zclamp, zinc, zdec, zdi, zdr, zdl, zdn, zpi, zpn, if_true, if_false, ite_not, Bool.false_eq_true, ne_eq, not_true_eq_false, not_false_eq_true, true_and, and_true, Nat.add_assoc, Nat.reduceAdd, M_has, et, zift, ziff]
      refine M_goesDay (c := False) q1 (fevD_ok hB j) (fun σ3 h3 f3 => ?_)
      rw [day_yh h] at h3
      have kk2 := kk () σ3 ⟨h3, q2.tr f3⟩
      rw [zbt, if_neg h, powS] at kk2
      simp (disch := first | assumption | omega | decide | exact zin_d (by assumption) (by omega) (by omega) | (simp only [zb01]; done)) only [s_M_fever_111, s_M_fever_112, s_M_fever_115, s_M_fever_117, s_M_fever_119, s_M_fever_121, s_M_fever_124, s_M_fever_127, s_M_fever_128, s_M_fever_131, s_M_fever_132, s_M_fever_133, s_M_fever_134, s_M_fever_135, s_M_fever_136, s_M_fever_138, s_M_fever_139, s_M_fever_141, s_M_fever_143, s_M_fever_146, s_M_fever_149, s_M_fever_152, zlt, zle, zeq, zclamp, zinc, zdec, zdi, zdr, zdl, zdn, zpi, zpn, if_true, if_false, ite_not, Bool.false_eq_true, ne_eq, not_true_eq_false, not_false_eq_true, true_and, and_true, Nat.add_assoc, Nat.reduceAdd]
      exact kk2
  · obtain ⟨q1, q2⟩ := hp
    have hD := fevD_ok hB (b := nI b) n
    have est : stB (fevD β (nI b) n) = stndB (fevD β (nI b) n).1.1 (fevD β (nI b) n).1.2.1 (fevD β (nI b) n).1.2.2.1 (fevD β (nI b) n).1.2.2.2 := by rw [stB]
    rw [est] at hQ
    have hF := hD.1.F
    have hK := q1.1
    generalize fevD β (nI b) n = γ at *
    rw [s_M_fever_109]
    by_cases h : stndB γ.1.1 γ.1.2.1 γ.1.2.2.1 γ.1.2.2.2 = true
    · simp (disch := first | assumption | omega | decide | exact zin_d (by assumption) (by omega) (by omega) | (simp only [zb01]; done)) only [s_M_fever_111, s_M_fever_112, s_M_fever_115, s_M_fever_117, s_M_fever_119, s_M_fever_121, s_M_fever_124, s_M_fever_127, s_M_fever_128, s_M_fever_131, s_M_fever_132, s_M_fever_133, s_M_fever_134, s_M_fever_135, s_M_fever_136, s_M_fever_138, s_M_fever_139, s_M_fever_141, s_M_fever_143, s_M_fever_146, s_M_fever_149, s_M_fever_152, s_M_fever_155, s_M_fever_157, s_M_fever_158, s_M_fever_161, s_M_fever_164, s_M_fever_166, s_M_fever_169, s_M_fever_170, s_M_fever_171, s_M_fever_173, s_M_fever_174, s_M_fever_177, zlt, zle, zeq, zclamp, zinc, zdec, zdi, zdr, zdl, zdn, zpi, zpn, if_true, if_false, ite_not, Bool.false_eq_true, ne_eq, not_true_eq_false, not_false_eq_true, true_and, and_true, Nat.add_assoc, Nat.reduceAdd, M_isUpright hK hF, zift, ziff]
      refine M_forgets (k1.keep (q2.1 12 (by omega))) (fun σ3 h3 f3 => ?_)
      have hq := fun o1 o2 o3 => hQ σ3 o1 o2 o3 h3 ((f1.tr q2.T).tr f3)
      rw [if_pos h] at hq
      simp (disch := first | assumption | omega | decide | exact zin_d (by assumption) (by omega) (by omega) | (simp only [zb01]; done)) only [s_M_fever_155, s_M_fever_157, s_M_fever_158, s_M_fever_161, s_M_fever_164, s_M_fever_166, s_M_fever_169, s_M_fever_170, s_M_fever_171, s_M_fever_173, s_M_fever_174, s_M_fever_177, s_M_fever_180, zlt, zle, zeq, zclamp, zinc, zdec, zdi, zdr, zdl, zdn, zpi, zpn, if_true, if_false, ite_not, Bool.false_eq_true, ne_eq, not_true_eq_false, not_false_eq_true, true_and, and_true, Nat.add_assoc, Nat.reduceAdd]
      exact hq _ _ _
    · simp (disch := first | assumption | omega | decide | exact zin_d (by assumption) (by omega) (by omega) | (simp only [zb01]; done)) only [s_M_fever_111, s_M_fever_112, s_M_fever_115, s_M_fever_117, s_M_fever_119, s_M_fever_121, s_M_fever_124, s_M_fever_127, s_M_fever_128, s_M_fever_131, s_M_fever_132, s_M_fever_133, s_M_fever_134, s_M_fever_135, s_M_fever_136, s_M_fever_138, s_M_fever_139, s_M_fever_141, s_M_fever_143, s_M_fever_146, s_M_fever_149, s_M_fever_152, s_M_fever_155, s_M_fever_157, s_M_fever_158, s_M_fever_161, s_M_fever_164, s_M_fever_166, s_M_fever_169, s_M_fever_170, s_M_fever_171, s_M_fever_173, s_M_fever_174, s_M_fever_177, zlt, zle, zeq, zclamp, zinc, zdec, zdi, zdr, zdl, zdn, zpi, zpn, if_true, if_false, ite_not, Bool.false_eq_true, ne_eq, not_true_eq_false, not_false_eq_true, true_and, and_true, Nat.add_assoc, Nat.reduceAdd, M_isUpright hK hF, zift, ziff]
      refine M_forgets (k1.keep (q2.1 12 (by omega))) (fun σ3 h3 f3 => ?_)
      have hq := fun o1 o2 o3 => hQ σ3 o1 o2 o3 h3 ((f1.tr q2.T).tr f3)
      rw [if_neg h] at hq
      simp (disch := first | assumption | omega | decide | exact zin_d (by assumption) (by omega) (by omega) | (simp only [zb01]; done)) only [s_M_fever_155, s_M_fever_157, s_M_fever_158, s_M_fever_161, s_M_fever_164, s_M_fever_166, s_M_fever_169, s_M_fever_170, s_M_fever_171, s_M_fever_173, s_M_fever_174, s_M_fever_177, s_M_fever_180, zlt, zle, zeq, zclamp, zinc, zdec, zdi, zdr, zdl, zdn, zpi, zpn, if_true, if_false, ite_not, Bool.false_eq_true, ne_eq, not_true_eq_false, not_false_eq_true, true_and, and_true, Nat.add_assoc, Nat.reduceAdd, Int64.add_zero]
      exact hq _ _ _
theorem M_feverAll (hR : WX σ a) (hn : n ≤ 7) (ht : 2 ≤ t ∧ t ≤ 20) (hQ : ∀ σ', WX σ' a → Q (some (.long (ltS (fevS a.1 n t (2 ^ n)) (powS (nI t) n) p))) σ') : Ev zshM 245 60 [some (.ref 0), some (.int (nI n)), some (.int (nI t)), some (.int p), some (.int 0), none, none, none, none, none, none, none, none] [] σ Q := by
  have hok := hR.1.2.1
  have eb := bit_n n (by omega)
  have hp128 := pow2_128 n hn
  simp (disch := first | assumption | omega | decide | exact zin_d (by assumption) (by omega) (by omega) | (simp only [zb01]; done)) only [s_M_fever_60, s_M_fever_61, s_M_fever_63, s_M_fever_64, s_M_fever_66, s_M_fever_67, zlt, zle, zeq, zclamp, zinc, zdec, zdi, zdr, zdl, zdn, zpi, zpn, if_true, if_false, ite_not, Bool.false_eq_true, ne_eq, not_true_eq_false, not_false_eq_true, true_and, and_true, Nat.add_assoc, Nat.reduceAdd]
  have l1 : Ev zshM 245 69 [some (.ref 0), some (.int (nI n)), some (.int (nI t)), some (.int p), some (.int 0), some (.long 0), none, some (.long (powS (nI t) 0)), none, some (.int (nI 0)), none, none, none] [] σ Q = Ev zshM 245 88 [some (.ref 0), some (.int (nI n)), some (.int (nI t)), some (.int p), some (.int 0), some (.long 0), none, some (.long (powS (nI t) n)), none, some (.int (nI n)), none, none, none] [] σ Q := by
    refine loopE (N := n) (fun j => Ev zshM 245 69 [some (.ref 0), some (.int (nI n)), some (.int (nI t)), some (.int p), some (.int 0), some (.long 0), none, some (.long (powS (nI t) j)), none, some (.int (nI j)), none, none, none] [] σ Q) (fun j hj => ?_) ?_ 0 (by omega)
    · rw [s_M_fever_69, powS]
      simp (disch := first | assumption | omega | decide | exact zin_d (by assumption) (by omega) (by omega) | (simp only [zb01]; done)) only [s_M_fever_71, s_M_fever_72, s_M_fever_75, s_M_fever_77, s_M_fever_78, s_M_fever_79, s_M_fever_80, s_M_fever_82, s_M_fever_85, zlt, zle, zeq, zclamp, zinc, zdec, zdi, zdr, zdl, zdn, zpi, zpn, if_true, if_false, ite_not, Bool.false_eq_true, ne_eq, not_true_eq_false, not_false_eq_true, true_and, and_true, Nat.add_assoc, Nat.reduceAdd, ziff]
    · rw [s_M_fever_69]
      simp (disch := first | assumption | omega | decide | exact zin_d (by assumption) (by omega) (by omega) | (simp only [zb01]; done)) only [s_M_fever_71, s_M_fever_72, s_M_fever_75, s_M_fever_77, s_M_fever_78, s_M_fever_79, s_M_fever_80, s_M_fever_82, s_M_fever_85, zlt, zle, zeq, zclamp, zinc, zdec, zdi, zdr, zdl, zdn, zpi, zpn, if_true, if_false, ite_not, Bool.false_eq_true, ne_eq, not_true_eq_false, not_false_eq_true, true_and, and_true, Nat.add_assoc, Nat.reduceAdd, zift]
  refine Eq.mpr l1 ?_
  simp (disch := first | assumption | omega | decide | exact zin_d (by assumption) (by omega) (by omega) | (simp only [zb01]; done)) only [s_M_fever_88, s_M_fever_89, zlt, zle, zeq, zclamp, zinc, zdec, zdi, zdr, zdl, zdn, zpi, zpn, if_true, if_false, ite_not, Bool.false_eq_true, ne_eq, not_true_eq_false, not_false_eq_true, true_and, and_true, Nat.add_assoc, Nat.reduceAdd]
  refine loopI (α := Option Value × Option Value × Option Value) (N := 2 ^ n) (fun o σ2 b => Ev zshM 245 91 [some (.ref 0), some (.int (nI n)), some (.int (nI t)), some (.int p), some (.int 0), some (.long (fevS a.1 n t b)), none, some (.long (powS (nI t) n)), none, some (.int (nI b)), o.1, o.2.1, o.2.2] [] σ2 Q) (fun b σ2 => WMd σ2 a.1 ∧ frT σ σ2) (fun o b σ2 hb hp kk => ?_) (fun o σ2 hp => ?_) 0 (none, none, none) σ (Nat.zero_le _) ⟨hR.1.1, frT.rf⟩
  · obtain ⟨q1, q2⟩ := hp
    rw [s_M_fever_91]
    simp (disch := first | assumption | omega | decide | exact zin_d (by assumption) (by omega) (by omega) | (simp only [zb01]; done)) only [s_M_fever_93, s_M_fever_94, s_M_fever_95, s_M_fever_96, zlt, zle, zeq, zclamp, zinc, zdec, zdi, zdr, zdl, zdn, zpi, zpn, if_true, if_false, ite_not, Bool.false_eq_true, ne_eq, not_true_eq_false, not_false_eq_true, true_and, and_true, Nat.add_assoc, Nat.reduceAdd, eb, ziff]
    refine M_feverWay q1 hok hn ht (fun σ3 o1 o2 o3 h3 f3 => ?_)
    have kk2 := kk (o1, o2, o3) σ3 ⟨h3, q2.tr f3⟩
    rw [fevS, zbt_eq n hn b hb] at kk2
    exact kk2
  · obtain ⟨q1, q2⟩ := hp
    have hq := hQ σ2 (hR.T q1 q2)
    obtain ⟨u, hu, eu⟩ := fevS_lN (β := a.1) hn ht.2 (2 ^ n) (Nat.le_refl _)
    have ep := powS_lN (show t < 2 ^ 31 by omega) n
    have hpt := pow_19 n hn t ht.2
    have hp0 : 0 < t ^ n := Nat.pow_pos (by omega)
    rw [eu, ep] at hq ⊢
    rw [s_M_fever_91]
    simp (disch := first | assumption | omega | decide | exact zin_d (by assumption) (by omega) (by omega) | (simp only [zb01]; done)) only [s_M_fever_93, s_M_fever_94, s_M_fever_95, s_M_fever_96, s_M_fever_183, s_M_fever_185, s_M_fever_187, s_M_fever_188, s_M_fever_191, zlt, zle, zeq, zclamp, zinc, zdec, zdi, zdr, zdl, zdn, zpi, zpn, if_true, if_false, ite_not, Bool.false_eq_true, ne_eq, not_true_eq_false, not_false_eq_true, true_and, and_true, Nat.add_assoc, Nat.reduceAdd, eb, zift]
    rw [M_partOf (by omega) hp0 (by omega)]
    simp (disch := first | assumption | omega | decide | exact zin_d (by assumption) (by omega) (by omega) | (simp only [zb01]; done)) only [s_M_fever_183, s_M_fever_185, s_M_fever_187, s_M_fever_188, s_M_fever_191, zlt, zle, zeq, zclamp, zinc, zdec, zdi, zdr, zdl, zdn, zpi, zpn, if_true, if_false, ite_not, Bool.false_eq_true, ne_eq, not_true_eq_false, not_false_eq_true, true_and, and_true, Nat.add_assoc, Nat.reduceAdd]
    exact hq
end
