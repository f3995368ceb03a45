/-- the bridge, the image, the letters, the row of told numbers, the refusals -/
abbrev At : Type := Bt × Option Bt × (Nat × SF) × (Nat × SF) × SF
def imgOk (σ : zG) : Option Bt → Prop
  | none => σ 0 2 = 0
  | some b => σ 0 2 = 1 ∧ WB σ 8 b ∧ Bok b ∧ num 999 b.2.2.2.2
def RX (σ : zG) (a : At) : Prop := (WB σ 1 a.1 ∧ Bok a.1 ∧ num 999 a.1.2.2.2.2) ∧ imgOk σ a.2.1 ∧ (WL σ a.2.2.1.1 a.2.2.1.2 ∧ Lok a.2.2.1.1 a.2.2.1.2) ∧ WR σ a.2.2.2.1.1 a.2.2.2.1.2 ∧ ∀ i, i < 7 → σ 41 i = a.2.2.2.2 i
theorem imgOk.keep {σ σ' : zG} {o : Option Bt} (h : imgOk σ o) (hk : ∀ o, (o = 0 ∨ (8 ≤ o ∧ o ≤ 14)) → σ' o = σ o) : imgOk σ' o := by
  cases o with
  | none => rw [imgOk] at h ⊢; rw [hk 0 (Or.inl rfl)]; exact h
  | some b => rw [imgOk] at h ⊢; rw [hk 0 (Or.inl rfl)]; exact ⟨h.1, h.2.1.keep (fun c g1 g2 => hk c (by omega)), h.2.2⟩
theorem RX.keep {σ σ' : zG} {a : At} (h : RX σ a) (hk : ∀ o, (o ≤ 14 ∨ (22 ≤ o ∧ o ≤ 25) ∨ o = 41) → σ' o = σ o) : RX σ' a := by
  obtain ⟨⟨h1, h2, h3⟩, h4, ⟨h5, h6⟩, h7, h8⟩ := h
  exact ⟨⟨h1.keep (fun c g1 g2 => hk c (by omega)), h2, h3⟩, h4.keep (fun c g => hk c (by omega)), ⟨h5.keep (hk 22 (by omega)) (hk 23 (by omega)), h6⟩, h7.keep (hk 24 (by omega)) (hk 25 (by omega)), fun i hi => by rw [hk 41 (by omega)]; exact h8 i hi⟩
/-- another bridge now -/
def setB (a : At) (β : Bt) : At := (β, a.2)
theorem RX.setB {σ σ' : zG} {a : At} (h : RX σ a) {β : Bt} (hB : WB σ' 1 β) (hk : Bok β) (hd : num 999 β.2.2.2.2) (f : ∀ o, (o = 0 ∨ (8 ≤ o ∧ o ≤ 14) ∨ (22 ≤ o ∧ o ≤ 25) ∨ o = 41) → σ' o = σ o) : RX σ' (setB a β) := by
  obtain ⟨-, h4, ⟨h5, h6⟩, h7, h8⟩ := h
  exact ⟨⟨hB, hk, hd⟩, h4.keep (fun c g => f c (by omega)), ⟨h5.keep (f 22 (by omega)) (f 23 (by omega)), h6⟩, h7.keep (f 24 (by omega)) (f 25 (by omega)), fun i hi => by rw [f 41 (by omega)]; exact h8 i hi⟩
def setL (a : At) (ln : Nat) (L : SF) : At := (a.1, a.2.1, (ln, L), a.2.2.2)
def refA (k : Nat) (a : At) : At := (a.1, a.2.1, a.2.2.1, a.2.2.2.1, upd a.2.2.2.2 k (a.2.2.2.2 k + 1))
def refO (o : Int32) (a : At) : Int32 × At := (o, refA (-o).toNatClampNeg a)
def refF (o : Int32) (a : At) : Int32 × At := (1000000000 - o, refA (-o).toNatClampNeg a)
def outs (v a b : Int32) : Int32 := if v < a then -4 else if b < v then -6 else 0
def isRef (o : Int32) : Prop := ∃ k, 1 ≤ k ∧ k ≤ 6 ∧ -o = nI k
theorem outs_ref {v a b : Int32} (h : ¬ outs v a b = 0) : isRef (outs v a b) := by
  rw [outs] at h ⊢
  split
  · exact ⟨4, by omega, by omega, rfl⟩
  split
  · exact ⟨6, by omega, by omega, rfl⟩
  · rename_i h1 h2
    rw [if_neg h1, if_neg h2] at h
    exact absurd rfl h
theorem outs_in {v a b : Int32} (h : outs v a b = 0) : a ≤ v ∧ v ≤ b := by
  rw [outs] at h
  by_cases h1 : v < a
  · rw [if_pos h1] at h; exact absurd h (by decide)
  · rw [if_neg h1] at h
    by_cases h2 : b < v
    · rw [if_pos h2] at h; exact absurd h (by decide)
    · exact ⟨Int32.not_lt.mp h1, Int32.not_lt.mp h2⟩
theorem in_nI {x : Int32} {n : Nat} (hn : n < 2147483648) (h : 0 ≤ x ∧ x < nI n) : ∃ i, i < n ∧ x = nI i := by
  obtain ⟨j, hj, rfl⟩ := nI_of (Int32.not_lt.mpr h.1)
  exact ⟨j, by rw [zlt (by omega) hn] at h; exact h.2, rfl⟩
theorem in_le {x : Int32} {n : Nat} (hn : n < 2147483648) (h : 0 ≤ x ∧ x ≤ nI n) : ∃ i, i ≤ n ∧ x = nI i := by
  obtain ⟨j, hj, rfl⟩ := nI_of (Int32.not_lt.mpr h.1)
  exact ⟨j, by rw [zle (by omega) hn] at h; exact h.2, rfl⟩
section
variable {σ : zG} {Q : Option Value → zG → Prop} {a : At} {x y z o : Int32}
theorem X_outside {p q : Int32} : Ev zshX 149 0 [some (.int x), some (.int p), some (.int q)] [] σ Q = Q (some (.int (outs x p q))) σ := by
  rw [outs]
  by_cases h1 : x < p
  · have h1' := Int32.not_le.mpr h1
    simp (disch := first | assumption | omega | decide | exact zin_d (by assumption) (by omega) (by omega) | (simp only [zb01]; done)) only [s_X_outside_0, s_X_outside_1, s_X_outside_2, s_X_outside_5, s_X_outside_7, s_X_outside_8, s_X_outside_9, s_X_outside_10, s_X_outside_13, s_X_outside_15, s_X_outside_18, s_X_outside_19, zlt, zle, zeq, zclamp, zinc, zdec, zdi, zdr, zdl, zdn, zpi, zpn, if_true, if_false, ite_not, Bool.false_eq_true, ne_eq, not_true_eq_false, not_false_eq_true, true_and, and_true, Nat.add_assoc, Nat.reduceAdd, ziff, zift]
  · have h1' := Int32.not_lt.mp h1
    by_cases h2 : q < x
    · have h2' := Int32.not_le.mpr h2
      simp (disch := first | assumption | omega | decide | exact zin_d (by assumption) (by omega) (by omega) | (simp only [zb01]; done)) only [s_X_outside_0, s_X_outside_1, s_X_outside_2, s_X_outside_5, s_X_outside_7, s_X_outside_8, s_X_outside_9, s_X_outside_10, s_X_outside_13, s_X_outside_15, s_X_outside_18, s_X_outside_19, zlt, zle, zeq, zclamp, zinc, zdec, zdi, zdr, zdl, zdn, zpi, zpn, if_true, if_false, ite_not, Bool.false_eq_true, ne_eq, not_true_eq_false, not_false_eq_true, true_and, and_true, Nat.add_assoc, Nat.reduceAdd, ziff, zift]
    · have h2' := Int32.not_lt.mp h2
      simp (disch := first | assumption | omega | decide | exact zin_d (by assumption) (by omega) (by omega) | (simp only [zb01]; done)) only [s_X_outside_0, s_X_outside_1, s_X_outside_2, s_X_outside_5, s_X_outside_7, s_X_outside_8, s_X_outside_9, s_X_outside_10, s_X_outside_13, s_X_outside_15, s_X_outside_18, s_X_outside_19, zlt, zle, zeq, zclamp, zinc, zdec, zdi, zdr, zdl, zdn, zpi, zpn, if_true, if_false, ite_not, Bool.false_eq_true, ne_eq, not_true_eq_false, not_false_eq_true, true_and, and_true, Nat.add_assoc, Nat.reduceAdd, ziff, zift]
theorem X_refuse (hR : RX σ a) (ho : isRef o) (hQ : ∀ σ', RX σ' (refA (-o).toNatClampNeg a) → Q (some (.int o)) σ') : Ev zshX 145 0 [some (.ref 0), some (.int o), none] [] σ Q := by
  obtain ⟨k, h1, h6, e⟩ := ho
  have hb : btw (-o) 1 6 = true := by rw [btw_eq, e, show (1 : Int32) = nI 1 from rfl, show (6 : Int32) = nI 6 from rfl, zle (by omega) (by omega), zle (by omega) (by omega)]; exact ⟨h1, h6⟩
  have hz : zshX 41 = 100 + 7 := rfl
  have hk7 : k < 7 := by omega
  have hc : (-o).toNatClampNeg = k := by rw [e, zclamp (by omega)]
  rw [hc] at hQ
  rw [e] at hb
  simp (disch := first | assumption | omega | decide | exact zin_d (by assumption) (by omega) (by omega) | (simp only [zb01]; done)) only [s_X_refuse_0, s_X_refuse_1, s_X_refuse_2, s_X_refuse_3, s_X_refuse_4, s_X_refuse_5, s_X_refuse_7, s_X_refuse_10, s_X_refuse_13, s_X_refuse_14, s_X_refuse_17, s_X_refuse_18, s_X_refuse_19, s_X_refuse_20, s_X_refuse_21, s_X_refuse_22, s_X_refuse_23, s_X_refuse_24, zlt, zle, zeq, zclamp, zinc, zdec, zdi, zdr, zdl, zdn, zpi, zpn, if_true, if_false, ite_not, Bool.false_eq_true, ne_eq, not_true_eq_false, not_false_eq_true, true_and, and_true, Nat.add_assoc, Nat.reduceAdd, X_between, e, zift, ziff]
  refine hQ _ ?_
  obtain ⟨⟨g1, g2, g3⟩, g4, ⟨g5, g6⟩, g7, g8⟩ := hR
  refine ⟨⟨g1.keep (fun c q1 q2 => zup_ne (by omega)), g2, g3⟩, g4.keep (fun c g => zup_ne (by omega)), ⟨g5.keep (zup_ne (by omega)) (zup_ne (by omega)), g6⟩, g7.keep (zup_ne (by omega)) (zup_ne (by omega)), fun i hi => ?_⟩
  rw [zup_self, g8 k hk7]
  by_cases e2 : i = k
  · subst e2; rw [pk_us]; exact (pk_us).symm
  · rw [pk_un e2]; exact (g8 i hi).trans (pk_un e2).symm
theorem X_refuseFar (hR : RX σ a) (ho : isRef o) (hQ : ∀ σ', RX σ' (refF o a).2 → Q (some (.int (refF o a).1)) σ') : Ev zshX 146 0 [some (.ref 0), some (.int o)] [] σ Q := by
  simp (disch := first | assumption | omega | decide | exact zin_d (by assumption) (by omega) (by omega) | (simp only [zb01]; done)) only [s_X_refuseFar_0, s_X_refuseFar_3, s_X_refuseFar_4, s_X_refuseFar_5, s_X_refuseFar_8, s_X_refuseFar_9, zlt, zle, zeq, zclamp, zinc, zdec, zdi, zdr, zdl, zdn, zpi, zpn, if_true, if_false, ite_not, Bool.false_eq_true, ne_eq, not_true_eq_false, not_false_eq_true, true_and, and_true, Nat.add_assoc, Nat.reduceAdd]
  refine X_refuse hR ho (fun σ' h => ?_)
  simp (disch := first | assumption | omega | decide | exact zin_d (by assumption) (by omega) (by omega) | (simp only [zb01]; done)) only [s_X_refuseFar_0, s_X_refuseFar_3, s_X_refuseFar_4, s_X_refuseFar_5, s_X_refuseFar_8, s_X_refuseFar_9, zlt, zle, zeq, zclamp, zinc, zdec, zdi, zdr, zdl, zdn, zpi, zpn, if_true, if_false, ite_not, Bool.false_eq_true, ne_eq, not_true_eq_false, not_false_eq_true, true_and, and_true, Nat.add_assoc, Nat.reduceAdd]
  exact hQ σ' h
theorem X_refusalOfTrait : Ev zshX 148 0 [some (.int x), some (.int y)] [] σ Q = Q (some (.int (if x = 0 ∨ x = 1 then outs y 0 9 else -1))) σ := by
  by_cases h : x = 0 ∨ x = 1
  · simp (disch := first | assumption | omega | decide | exact zin_d (by assumption) (by omega) (by omega) | (simp only [zb01]; done)) only [s_X_refusalOfTrait_0, s_X_refusalOfTrait_1, s_X_refusalOfTrait_4, s_X_refusalOfTrait_7, s_X_refusalOfTrait_8, s_X_refusalOfTrait_9, s_X_refusalOfTrait_11, s_X_refusalOfTrait_14, s_X_refusalOfTrait_17, s_X_refusalOfTrait_18, zlt, zle, zeq, zclamp, zinc, zdec, zdi, zdr, zdl, zdn, zpi, zpn, if_true, if_false, ite_not, Bool.false_eq_true, ne_eq, not_true_eq_false, not_false_eq_true, true_and, and_true, Nat.add_assoc, Nat.reduceAdd, X_isMason, X_outside, zift, ziff]
  · simp (disch := first | assumption | omega | decide | exact zin_d (by assumption) (by omega) (by omega) | (simp only [zb01]; done)) only [s_X_refusalOfTrait_0, s_X_refusalOfTrait_1, s_X_refusalOfTrait_4, s_X_refusalOfTrait_7, s_X_refusalOfTrait_8, s_X_refusalOfTrait_9, s_X_refusalOfTrait_11, s_X_refusalOfTrait_14, s_X_refusalOfTrait_17, s_X_refusalOfTrait_18, zlt, zle, zeq, zclamp, zinc, zdec, zdi, zdr, zdl, zdn, zpi, zpn, if_true, if_false, ite_not, Bool.false_eq_true, ne_eq, not_true_eq_false, not_false_eq_true, true_and, and_true, Nat.add_assoc, Nat.reduceAdd, X_isMason, X_outside, zift, ziff]
end
