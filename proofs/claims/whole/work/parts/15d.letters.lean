section
variable {σ : zG} {Q : Option Value → zG → Prop} {ln k i p s : Nat} {L : SF} {x y z : Int32} {β : Bt}
theorem Letters_perform (hW : WL σ ln L) (hL : Lok ln L) (hB : WB σ 15 β) (hk : Bok β) (hd : num 999 β.2.2.2.2) (hs : s ≤ 110) (hg : strayS ln L s = -9) (hQ1 : ∀ β' σ', stm ln L s β = some β' → WB σ' 15 β' → frB 15 σ σ' → Q (some (.int 1)) σ') (hQ0 : stm ln L s β = none → Q (some (.int 0)) σ) : Ev zshX 38 0 [some (.ref 22), some (.int (nI s)), some (.ref 15)] [] σ Q := by
  obtain ⟨g5, g⟩ := stray_ok (by omega) hg
  have q1 : ∀ {x : Int32}, (if x = 1 ∨ x = 0 then True else True) := fun {x} => by split <;> trivial
  rw [stm] at hQ1 hQ0
  by_cases c1 : lat ln L s = 99
  · have hf : frm (lat ln L s) = 1 := by rw [c1]; rfl
    rw [hf] at g hQ1 hQ0
    simp (disch := first | assumption | omega | decide | exact zin_d (by assumption) (by omega) (by omega) | (simp only [zb01]; done)) only [s_Letters_perform_0, s_Letters_perform_1, s_Letters_perform_2, s_Letters_perform_5, s_Letters_perform_56, s_Letters_perform_57, s_Letters_perform_58, s_Letters_perform_59, s_Letters_perform_62, s_Letters_perform_65, s_Letters_perform_66, s_Letters_perform_67, s_Letters_perform_68, s_Letters_perform_69, s_Letters_perform_72, s_Letters_perform_75, s_Letters_perform_76, s_Letters_perform_77, s_Letters_perform_78, s_Letters_perform_79, s_Letters_perform_82, s_Letters_perform_83, s_Letters_perform_84, s_Letters_perform_85, s_Letters_perform_86, s_Letters_perform_89, s_Letters_perform_92, s_Letters_perform_93, s_Letters_perform_94, s_Letters_perform_95, s_Letters_perform_96, s_Letters_perform_99, s_Letters_perform_100, s_Letters_perform_101, zlt, zle, zeq, zclamp, zinc, zdec, zdi, zdr, zdl, zdn, zpi, zpn, if_true, if_false, ite_not, Bool.false_eq_true, ne_eq, not_true_eq_false, not_false_eq_true, true_and, and_true, Nat.add_assoc, Nat.reduceAdd, Letters_letterAt hW, c1, zift, ziff]
    refine Letters_correctStone hW hL hB hk hs (g 0 (by decide)).2 (g 1 (by decide)).2 (g 2 (by decide)).2 (fun β' σ' h1 h2 h3 => ?_) (fun h => ?_)
    · simp (disch := first | assumption | omega | decide | exact zin_d (by assumption) (by omega) (by omega) | (simp only [zb01]; done)) only [s_Letters_perform_0, s_Letters_perform_1, s_Letters_perform_2, s_Letters_perform_5, s_Letters_perform_56, s_Letters_perform_57, s_Letters_perform_58, s_Letters_perform_59, s_Letters_perform_62, s_Letters_perform_65, s_Letters_perform_66, s_Letters_perform_67, s_Letters_perform_68, s_Letters_perform_69, s_Letters_perform_72, s_Letters_perform_75, s_Letters_perform_76, s_Letters_perform_77, s_Letters_perform_78, s_Letters_perform_79, s_Letters_perform_82, s_Letters_perform_83, s_Letters_perform_84, s_Letters_perform_85, s_Letters_perform_86, s_Letters_perform_89, s_Letters_perform_92, s_Letters_perform_93, s_Letters_perform_94, s_Letters_perform_95, s_Letters_perform_96, s_Letters_perform_99, s_Letters_perform_100, s_Letters_perform_101, zlt, zle, zeq, zclamp, zinc, zdec, zdi, zdr, zdl, zdn, zpi, zpn, if_true, if_false, ite_not, Bool.false_eq_true, ne_eq, not_true_eq_false, not_false_eq_true, true_and, and_true, Nat.add_assoc, Nat.reduceAdd]
      exact hQ1 β' σ' h1 h2 h3
    · simp (disch := first | assumption | omega | decide | exact zin_d (by assumption) (by omega) (by omega) | (simp only [zb01]; done)) only [s_Letters_perform_0, s_Letters_perform_1, s_Letters_perform_2, s_Letters_perform_5, s_Letters_perform_56, s_Letters_perform_57, s_Letters_perform_58, s_Letters_perform_59, s_Letters_perform_62, s_Letters_perform_65, s_Letters_perform_66, s_Letters_perform_67, s_Letters_perform_68, s_Letters_perform_69, s_Letters_perform_72, s_Letters_perform_75, s_Letters_perform_76, s_Letters_perform_77, s_Letters_perform_78, s_Letters_perform_79, s_Letters_perform_82, s_Letters_perform_83, s_Letters_perform_84, s_Letters_perform_85, s_Letters_perform_86, s_Letters_perform_89, s_Letters_perform_92, s_Letters_perform_93, s_Letters_perform_94, s_Letters_perform_95, s_Letters_perform_96, s_Letters_perform_99, s_Letters_perform_100, s_Letters_perform_101, zlt, zle, zeq, zclamp, zinc, zdec, zdi, zdr, zdl, zdn, zpi, zpn, if_true, if_false, ite_not, Bool.false_eq_true, ne_eq, not_true_eq_false, not_false_eq_true, true_and, and_true, Nat.add_assoc, Nat.reduceAdd]
      exact hQ0 h
  by_cases c2 : lat ln L s = 100
  · have hf : frm (lat ln L s) = 4 := by rw [c2]; rfl
    rw [hf] at g hQ1 hQ0
    simp (disch := first | assumption | omega | decide | exact zin_d (by assumption) (by omega) (by omega) | (simp only [zb01]; done)) only [s_Letters_perform_0, s_Letters_perform_1, s_Letters_perform_2, s_Letters_perform_5, s_Letters_perform_56, s_Letters_perform_57, s_Letters_perform_58, s_Letters_perform_59, s_Letters_perform_62, s_Letters_perform_65, s_Letters_perform_66, s_Letters_perform_67, s_Letters_perform_68, s_Letters_perform_69, s_Letters_perform_72, s_Letters_perform_75, s_Letters_perform_76, s_Letters_perform_77, s_Letters_perform_78, s_Letters_perform_79, s_Letters_perform_82, s_Letters_perform_83, s_Letters_perform_84, s_Letters_perform_85, s_Letters_perform_86, s_Letters_perform_89, s_Letters_perform_92, s_Letters_perform_93, s_Letters_perform_94, s_Letters_perform_95, s_Letters_perform_96, s_Letters_perform_99, s_Letters_perform_100, s_Letters_perform_101, zlt, zle, zeq, zclamp, zinc, zdec, zdi, zdr, zdl, zdn, zpi, zpn, if_true, if_false, ite_not, Bool.false_eq_true, ne_eq, not_true_eq_false, not_false_eq_true, true_and, and_true, Nat.add_assoc, Nat.reduceAdd, Letters_letterAt hW, c2, zift, ziff]
    refine Letters_passDays hW hL hB hk hd hs (g 0 (by decide)).2 (g 1 (by decide)).2 (fun β' σ' h1 h2 h3 => ?_) (fun h => ?_)
    · simp (disch := first | assumption | omega | decide | exact zin_d (by assumption) (by omega) (by omega) | (simp only [zb01]; done)) only [s_Letters_perform_0, s_Letters_perform_1, s_Letters_perform_2, s_Letters_perform_5, s_Letters_perform_56, s_Letters_perform_57, s_Letters_perform_58, s_Letters_perform_59, s_Letters_perform_62, s_Letters_perform_65, s_Letters_perform_66, s_Letters_perform_67, s_Letters_perform_68, s_Letters_perform_69, s_Letters_perform_72, s_Letters_perform_75, s_Letters_perform_76, s_Letters_perform_77, s_Letters_perform_78, s_Letters_perform_79, s_Letters_perform_82, s_Letters_perform_83, s_Letters_perform_84, s_Letters_perform_85, s_Letters_perform_86, s_Letters_perform_89, s_Letters_perform_92, s_Letters_perform_93, s_Letters_perform_94, s_Letters_perform_95, s_Letters_perform_96, s_Letters_perform_99, s_Letters_perform_100, s_Letters_perform_101, zlt, zle, zeq, zclamp, zinc, zdec, zdi, zdr, zdl, zdn, zpi, zpn, if_true, if_false, ite_not, Bool.false_eq_true, ne_eq, not_true_eq_false, not_false_eq_true, true_and, and_true, Nat.add_assoc, Nat.reduceAdd]
      exact hQ1 β' σ' h1 h2 h3
    · simp (disch := first | assumption | omega | decide | exact zin_d (by assumption) (by omega) (by omega) | (simp only [zb01]; done)) only [s_Letters_perform_0, s_Letters_perform_1, s_Letters_perform_2, s_Letters_perform_5, s_Letters_perform_56, s_Letters_perform_57, s_Letters_perform_58, s_Letters_perform_59, s_Letters_perform_62, s_Letters_perform_65, s_Letters_perform_66, s_Letters_perform_67, s_Letters_perform_68, s_Letters_perform_69, s_Letters_perform_72, s_Letters_perform_75, s_Letters_perform_76, s_Letters_perform_77, s_Letters_perform_78, s_Letters_perform_79, s_Letters_perform_82, s_Letters_perform_83, s_Letters_perform_84, s_Letters_perform_85, s_Letters_perform_86, s_Letters_perform_89, s_Letters_perform_92, s_Letters_perform_93, s_Letters_perform_94, s_Letters_perform_95, s_Letters_perform_96, s_Letters_perform_99, s_Letters_perform_100, s_Letters_perform_101, zlt, zle, zeq, zclamp, zinc, zdec, zdi, zdr, zdl, zdn, zpi, zpn, if_true, if_false, ite_not, Bool.false_eq_true, ne_eq, not_true_eq_false, not_false_eq_true, true_and, and_true, Nat.add_assoc, Nat.reduceAdd]
      exact hQ0 h
  by_cases c3 : lat ln L s = 109
  · have hf : frm (lat ln L s) = 2 := by rw [c3]; rfl
    rw [hf] at g hQ1 hQ0
    simp (disch := first | assumption | omega | decide | exact zin_d (by assumption) (by omega) (by omega) | (simp only [zb01]; done)) only [s_Letters_perform_0, s_Letters_perform_1, s_Letters_perform_2, s_Letters_perform_5, s_Letters_perform_56, s_Letters_perform_57, s_Letters_perform_58, s_Letters_perform_59, s_Letters_perform_62, s_Letters_perform_65, s_Letters_perform_66, s_Letters_perform_67, s_Letters_perform_68, s_Letters_perform_69, s_Letters_perform_72, s_Letters_perform_75, s_Letters_perform_76, s_Letters_perform_77, s_Letters_perform_78, s_Letters_perform_79, s_Letters_perform_82, s_Letters_perform_83, s_Letters_perform_84, s_Letters_perform_85, s_Letters_perform_86, s_Letters_perform_89, s_Letters_perform_92, s_Letters_perform_93, s_Letters_perform_94, s_Letters_perform_95, s_Letters_perform_96, s_Letters_perform_99, s_Letters_perform_100, s_Letters_perform_101, zlt, zle, zeq, zclamp, zinc, zdec, zdi, zdr, zdl, zdn, zpi, zpn, if_true, if_false, ite_not, Bool.false_eq_true, ne_eq, not_true_eq_false, not_false_eq_true, true_and, and_true, Nat.add_assoc, Nat.reduceAdd, Letters_letterAt hW, c3, zift, ziff]
    refine Letters_changeMason hW hL hB hk hs (g 0 (by decide)).2 (g 1 (by decide)).2 (g 2 (by decide)).2 (g 3 (by decide)).2 (fun β' σ' h1 h2 h3 => ?_) (fun h => ?_)
    · simp (disch := first | assumption | omega | decide | exact zin_d (by assumption) (by omega) (by omega) | (simp only [zb01]; done)) only [s_Letters_perform_0, s_Letters_perform_1, s_Letters_perform_2, s_Letters_perform_5, s_Letters_perform_56, s_Letters_perform_57, s_Letters_perform_58, s_Letters_perform_59, s_Letters_perform_62, s_Letters_perform_65, s_Letters_perform_66, s_Letters_perform_67, s_Letters_perform_68, s_Letters_perform_69, s_Letters_perform_72, s_Letters_perform_75, s_Letters_perform_76, s_Letters_perform_77, s_Letters_perform_78, s_Letters_perform_79, s_Letters_perform_82, s_Letters_perform_83, s_Letters_perform_84, s_Letters_perform_85, s_Letters_perform_86, s_Letters_perform_89, s_Letters_perform_92, s_Letters_perform_93, s_Letters_perform_94, s_Letters_perform_95, s_Letters_perform_96, s_Letters_perform_99, s_Letters_perform_100, s_Letters_perform_101, zlt, zle, zeq, zclamp, zinc, zdec, zdi, zdr, zdl, zdn, zpi, zpn, if_true, if_false, ite_not, Bool.false_eq_true, ne_eq, not_true_eq_false, not_false_eq_true, true_and, and_true, Nat.add_assoc, Nat.reduceAdd]
      exact hQ1 β' σ' h1 h2 h3
    · simp (disch := first | assumption | omega | decide | exact zin_d (by assumption) (by omega) (by omega) | (simp only [zb01]; done)) only [s_Letters_perform_0, s_Letters_perform_1, s_Letters_perform_2, s_Letters_perform_5, s_Letters_perform_56, s_Letters_perform_57, s_Letters_perform_58, s_Letters_perform_59, s_Letters_perform_62, s_Letters_perform_65, s_Letters_perform_66, s_Letters_perform_67, s_Letters_perform_68, s_Letters_perform_69, s_Letters_perform_72, s_Letters_perform_75, s_Letters_perform_76, s_Letters_perform_77, s_Letters_perform_78, s_Letters_perform_79, s_Letters_perform_82, s_Letters_perform_83, s_Letters_perform_84, s_Letters_perform_85, s_Letters_perform_86, s_Letters_perform_89, s_Letters_perform_92, s_Letters_perform_93, s_Letters_perform_94, s_Letters_perform_95, s_Letters_perform_96, s_Letters_perform_99, s_Letters_perform_100, s_Letters_perform_101, zlt, zle, zeq, zclamp, zinc, zdec, zdi, zdr, zdl, zdn, zpi, zpn, if_true, if_false, ite_not, Bool.false_eq_true, ne_eq, not_true_eq_false, not_false_eq_true, true_and, and_true, Nat.add_assoc, Nat.reduceAdd]
      exact hQ0 h
  by_cases c4 : lat ln L s = 115
  · have hf : frm (lat ln L s) = 0 := by rw [c4]; rfl
    rw [hf] at g hQ1 hQ0
    simp (disch := first | assumption | omega | decide | exact zin_d (by assumption) (by omega) (by omega) | (simp only [zb01]; done)) only [s_Letters_perform_0, s_Letters_perform_1, s_Letters_perform_2, s_Letters_perform_5, s_Letters_perform_56, s_Letters_perform_57, s_Letters_perform_58, s_Letters_perform_59, s_Letters_perform_62, s_Letters_perform_65, s_Letters_perform_66, s_Letters_perform_67, s_Letters_perform_68, s_Letters_perform_69, s_Letters_perform_72, s_Letters_perform_75, s_Letters_perform_76, s_Letters_perform_77, s_Letters_perform_78, s_Letters_perform_79, s_Letters_perform_82, s_Letters_perform_83, s_Letters_perform_84, s_Letters_perform_85, s_Letters_perform_86, s_Letters_perform_89, s_Letters_perform_92, s_Letters_perform_93, s_Letters_perform_94, s_Letters_perform_95, s_Letters_perform_96, s_Letters_perform_99, s_Letters_perform_100, s_Letters_perform_101, zlt, zle, zeq, zclamp, zinc, zdec, zdi, zdr, zdl, zdn, zpi, zpn, if_true, if_false, ite_not, Bool.false_eq_true, ne_eq, not_true_eq_false, not_false_eq_true, true_and, and_true, Nat.add_assoc, Nat.reduceAdd, Letters_letterAt hW, c4, zift, ziff]
    refine Letters_layStone hW hL hB hk hs (g 0 (by decide)).2 (g 1 (by decide)).2 (g 2 (by decide)).2 (fun β' σ' h1 h2 h3 => ?_) (fun h => ?_)
    · simp (disch := first | assumption | omega | decide | exact zin_d (by assumption) (by omega) (by omega) | (simp only [zb01]; done)) only [s_Letters_perform_0, s_Letters_perform_1, s_Letters_perform_2, s_Letters_perform_5, s_Letters_perform_56, s_Letters_perform_57, s_Letters_perform_58, s_Letters_perform_59, s_Letters_perform_62, s_Letters_perform_65, s_Letters_perform_66, s_Letters_perform_67, s_Letters_perform_68, s_Letters_perform_69, s_Letters_perform_72, s_Letters_perform_75, s_Letters_perform_76, s_Letters_perform_77, s_Letters_perform_78, s_Letters_perform_79, s_Letters_perform_82, s_Letters_perform_83, s_Letters_perform_84, s_Letters_perform_85, s_Letters_perform_86, s_Letters_perform_89, s_Letters_perform_92, s_Letters_perform_93, s_Letters_perform_94, s_Letters_perform_95, s_Letters_perform_96, s_Letters_perform_99, s_Letters_perform_100, s_Letters_perform_101, zlt, zle, zeq, zclamp, zinc, zdec, zdi, zdr, zdl, zdn, zpi, zpn, if_true, if_false, ite_not, Bool.false_eq_true, ne_eq, not_true_eq_false, not_false_eq_true, true_and, and_true, Nat.add_assoc, Nat.reduceAdd]
      exact hQ1 β' σ' h1 h2 h3
    · simp (disch := first | assumption | omega | decide | exact zin_d (by assumption) (by omega) (by omega) | (simp only [zb01]; done)) only [s_Letters_perform_0, s_Letters_perform_1, s_Letters_perform_2, s_Letters_perform_5, s_Letters_perform_56, s_Letters_perform_57, s_Letters_perform_58, s_Letters_perform_59, s_Letters_perform_62, s_Letters_perform_65, s_Letters_perform_66, s_Letters_perform_67, s_Letters_perform_68, s_Letters_perform_69, s_Letters_perform_72, s_Letters_perform_75, s_Letters_perform_76, s_Letters_perform_77, s_Letters_perform_78, s_Letters_perform_79, s_Letters_perform_82, s_Letters_perform_83, s_Letters_perform_84, s_Letters_perform_85, s_Letters_perform_86, s_Letters_perform_89, s_Letters_perform_92, s_Letters_perform_93, s_Letters_perform_94, s_Letters_perform_95, s_Letters_perform_96, s_Letters_perform_99, s_Letters_perform_100, s_Letters_perform_101, zlt, zle, zeq, zclamp, zinc, zdec, zdi, zdr, zdl, zdn, zpi, zpn, if_true, if_false, ite_not, Bool.false_eq_true, ne_eq, not_true_eq_false, not_false_eq_true, true_and, and_true, Nat.add_assoc, Nat.reduceAdd]
      exact hQ0 h
  by_cases c5 : lat ln L s = 117
  · have hf : frm (lat ln L s) = 3 := by rw [c5]; rfl
    rw [hf] at g hQ1 hQ0
    simp (disch := first | assumption | omega | decide | exact zin_d (by assumption) (by omega) (by omega) | (simp only [zb01]; done)) only [s_Letters_perform_0, s_Letters_perform_1, s_Letters_perform_2, s_Letters_perform_5, s_Letters_perform_56, s_Letters_perform_57, s_Letters_perform_58, s_Letters_perform_59, s_Letters_perform_62, s_Letters_perform_65, s_Letters_perform_66, s_Letters_perform_67, s_Letters_perform_68, s_Letters_perform_69, s_Letters_perform_72, s_Letters_perform_75, s_Letters_perform_76, s_Letters_perform_77, s_Letters_perform_78, s_Letters_perform_79, s_Letters_perform_82, s_Letters_perform_83, s_Letters_perform_84, s_Letters_perform_85, s_Letters_perform_86, s_Letters_perform_89, s_Letters_perform_92, s_Letters_perform_93, s_Letters_perform_94, s_Letters_perform_95, s_Letters_perform_96, s_Letters_perform_99, s_Letters_perform_100, s_Letters_perform_101, zlt, zle, zeq, zclamp, zinc, zdec, zdi, zdr, zdl, zdn, zpi, zpn, if_true, if_false, ite_not, Bool.false_eq_true, ne_eq, not_true_eq_false, not_false_eq_true, true_and, and_true, Nat.add_assoc, Nat.reduceAdd, Letters_letterAt hW, c5, zift, ziff]
    refine Letters_takeStones hW hL hB hk hs (g 0 (by decide)).2 (fun β' σ' h1 h2 h3 => ?_) (fun h => ?_)
    · simp (disch := first | assumption | omega | decide | exact zin_d (by assumption) (by omega) (by omega) | (simp only [zb01]; done)) only [s_Letters_perform_0, s_Letters_perform_1, s_Letters_perform_2, s_Letters_perform_5, s_Letters_perform_56, s_Letters_perform_57, s_Letters_perform_58, s_Letters_perform_59, s_Letters_perform_62, s_Letters_perform_65, s_Letters_perform_66, s_Letters_perform_67, s_Letters_perform_68, s_Letters_perform_69, s_Letters_perform_72, s_Letters_perform_75, s_Letters_perform_76, s_Letters_perform_77, s_Letters_perform_78, s_Letters_perform_79, s_Letters_perform_82, s_Letters_perform_83, s_Letters_perform_84, s_Letters_perform_85, s_Letters_perform_86, s_Letters_perform_89, s_Letters_perform_92, s_Letters_perform_93, s_Letters_perform_94, s_Letters_perform_95, s_Letters_perform_96, s_Letters_perform_99, s_Letters_perform_100, s_Letters_perform_101, zlt, zle, zeq, zclamp, zinc, zdec, zdi, zdr, zdl, zdn, zpi, zpn, if_true, if_false, ite_not, Bool.false_eq_true, ne_eq, not_true_eq_false, not_false_eq_true, true_and, and_true, Nat.add_assoc, Nat.reduceAdd]
      exact hQ1 β' σ' h1 h2 h3
    · simp (disch := first | assumption | omega | decide | exact zin_d (by assumption) (by omega) (by omega) | (simp only [zb01]; done)) only [s_Letters_perform_0, s_Letters_perform_1, s_Letters_perform_2, s_Letters_perform_5, s_Letters_perform_56, s_Letters_perform_57, s_Letters_perform_58, s_Letters_perform_59, s_Letters_perform_62, s_Letters_perform_65, s_Letters_perform_66, s_Letters_perform_67, s_Letters_perform_68, s_Letters_perform_69, s_Letters_perform_72, s_Letters_perform_75, s_Letters_perform_76, s_Letters_perform_77, s_Letters_perform_78, s_Letters_perform_79, s_Letters_perform_82, s_Letters_perform_83, s_Letters_perform_84, s_Letters_perform_85, s_Letters_perform_86, s_Letters_perform_89, s_Letters_perform_92, s_Letters_perform_93, s_Letters_perform_94, s_Letters_perform_95, s_Letters_perform_96, s_Letters_perform_99, s_Letters_perform_100, s_Letters_perform_101, zlt, zle, zeq, zclamp, zinc, zdec, zdi, zdr, zdl, zdn, zpi, zpn, if_true, if_false, ite_not, Bool.false_eq_true, ne_eq, not_true_eq_false, not_false_eq_true, true_and, and_true, Nat.add_assoc, Nat.reduceAdd]
      exact hQ0 h
  exact absurd (by rw [frm, if_neg c1, if_neg c2, if_neg c3, if_neg c4, if_neg c5]) g5
theorem workS_day (m : Int32) : (workS m β).2.2.2.2 = β.2.2.2.2 := by
  rw [workS]
  split
  · rfl
  · split <;> rfl
theorem dayS_day (c : Prop) [Decidable c] : (dayS c β).2.2.2.2 = β.2.2.2.2 + 1 := by
  rw [dayS]
  split
  · rw [workS_day, workS_day]
  · rw [workS_day]
theorem daysS_day : ∀ n, (daysS n β).2.2.2.2 = β.2.2.2.2 + nI n := by
  intro n
  induction n with
  | zero => exact (zadd0 _).symm
  | succ n ih => rw [daysS, dayS_day, ih, Int32.add_assoc, zinc]
theorem daysS_dok {d n : Nat} (h : β.2.2.2.2 = nI d) (h2 : d + n ≤ 999) : num 999 (daysS n β).2.2.2.2 := ⟨d + n, h2, by rw [daysS_day, h, nI_add]⟩
theorem Sok_sub {S : Nat × SF × SF × SF} (h : Sok S) (n : Nat) : Sok (S.1 - n, S.2) := ⟨Nat.le_trans (Nat.sub_le _ _) h.1, fun i hi => h.2 i (Nat.lt_of_lt_of_le hi (Nat.sub_le _ _))⟩
theorem Sok_re {S : Nat × SF × SF × SF} (h : Sok S) {j : Nat} {k f : Int32} (hk : num 5 k) (hf : num 9 f) : Sok (S.1, upd S.2.1 j k, upd S.2.2.1 j f, S.2.2.2) := by
  refine ⟨h.1, fun i hi => ?_⟩
  by_cases e : i = j
  · subst e
    simp only [pk_us]
    exact ⟨hk, hf, (h.2 i hi).2.2⟩
  · simp only [pk_un e]
    exact h.2 i hi
theorem stm_ok {β' : Bt} (hL : Lok ln L) (hk : Bok β) (hd : num 999 β.2.2.2.2) (hs : s ≤ 110) (hg : strayS ln L s = -9) (h : stm ln L s β = some β') : Bok β' ∧ num 999 β'.2.2.2.2 := by
  obtain ⟨g5, g⟩ := stray_ok (by omega) hg
  rw [stm] at h
  by_cases c0 : frm (lat ln L s) = 0
  · rw [if_pos c0, stm0] at h
    rw [c0] at g
    split at h
    · rename_i hc
      cases h
      have k1 := kd_ok hL (g 0 (by decide)).2
      obtain ⟨b2, -⟩ := dg_ok hL (g 1 (by decide)).2
      exact ⟨⟨Sok_add hk.1 hc.2 k1 ⟨_, b2, rfl⟩ ⟨_, hc.1, rfl⟩, hk.2⟩, hd⟩
    · cases h
  rw [if_neg c0] at h
  by_cases c1 : frm (lat ln L s) = 1
  · rw [if_pos c1, stm1] at h
    rw [c1] at g
    split at h
    · rename_i hc
      cases h
      have k1 := kd_ok hL (g 1 (by decide)).2
      obtain ⟨b2, -⟩ := dg_ok hL (g 2 (by decide)).2
      exact ⟨⟨Sok_re hk.1 k1 ⟨_, b2, rfl⟩, hk.2⟩, hd⟩
    · cases h
  rw [if_neg c1] at h
  by_cases c2 : frm (lat ln L s) = 2
  · rw [if_pos c2, stm2] at h
    rw [c2] at g
    split at h
    · rename_i hc
      have k1 := kd_ok hL (g 1 (by decide)).2
      obtain ⟨b2, -⟩ := dg_ok hL (g 2 (by decide)).2
      obtain ⟨b3, -⟩ := dg_ok hL (g 3 (by decide)).2
      split at h
      · cases h
        exact ⟨⟨hk.1, hk.2.1, ⟨k1, ⟨_, b2, rfl⟩, ⟨_, b3, rfl⟩⟩, hk.2.2.2⟩, hd⟩
      · cases h
        exact ⟨⟨hk.1, ⟨k1, ⟨_, b2, rfl⟩, ⟨_, b3, rfl⟩⟩, hk.2.2.1, hk.2.2.2⟩, hd⟩
    · cases h
  rw [if_neg c2] at h
  by_cases c3 : frm (lat ln L s) = 3
  · rw [if_pos c3, stm3] at h
    split at h
    · cases h
      exact ⟨⟨Sok_sub hk.1 _, hk.2⟩, hd⟩
    · cases h
  rw [if_neg c3] at h
  by_cases c4 : frm (lat ln L s) = 4
  · rw [if_pos c4, stm4] at h
    split at h
    · rename_i hc
      cases h
      obtain ⟨d, hd9, ed⟩ := hd
      rw [ed, zclamp (by omega)] at hc
      exact ⟨daysS_ok hk _, daysS_dok ed hc.2⟩
    · cases h
  rw [if_neg c4] at h
  cases h
def allOk (ln : Nat) (L : SF) : Nat → Nat → Prop
  | 0, _ => True
  | f + 1, s => s < ln → strayS ln L s = -9 ∧ allOk ln L f (nxt ln L s)
theorem allOk_of {ln : Nat} {L : SF} : ∀ f s, s ≤ 110 → ln ≤ 96 → fstS ln L f s = -9 → allOk ln L f s := by
  intro f
  induction f with
  | zero => intro s _ _ _; trivial
  | succ f ih =>
    intro s hs h96 h hl
    rw [fstS, if_pos hl] at h
    by_cases h1 : strayS ln L s = -9
    · rw [if_pos h1] at h
      have h6 := fln_le _ (Nat.le_succ_of_le (frm_le (lat ln L s)))
      exact ⟨h1, ih _ (by rw [nxt]; omega) h96 h⟩
    · rw [if_neg h1] at h; exact absurd h h1
theorem Letters_firstWrong (hW : WL σ ln L) (hL : Lok ln L) (hB : WB σ 15 β) (hk : Bok β) (hd : num 999 β.2.2.2.2) (hg : fstS ln L 96 0 = -9) (hQ : ∀ σ', WB σ' 15 (wrgS ln L 96 0 β).2 → Bok (wrgS ln L 96 0 β).2 → num 999 (wrgS ln L 96 0 β).2.2.2.2.2 → frB 15 σ σ' → Q (some (.int (wrgS ln L 96 0 β).1)) σ') : Ev zshX 29 0 [some (.ref 22), some (.ref 15), none] [] σ Q := by
  have h96 := hW.1
  have key : ∀ (f s : Nat) (σ : zG) (β : Bt), ln ≤ s + f → s ≤ 110 → allOk ln L f s → WL σ ln L → WB σ 15 β → Bok β → num 999 β.2.2.2.2 → (∀ σ', WB σ' 15 (wrgS ln L f s β).2 → Bok (wrgS ln L f s β).2 → num 999 (wrgS ln L f s β).2.2.2.2.2 → frB 15 σ σ' → Q (some (.int (wrgS ln L f s β).1)) σ') → Ev zshX 29 2 [some (.ref 22), some (.ref 15), some (.int (nI s))] [] σ Q := by
    intro f
    induction f with
    | zero =>
      intro s σ β h1 h2 _ hW hB hk hd hQ
      have hn : σ 22 1 = nI ln := hW.2.1
      rw [s_Letters_firstWrong_2]
      simp (disch := first | assumption | omega | decide | exact zin_d (by assumption) (by omega) (by omega) | (simp only [zb01]; done)) only [s_Letters_firstWrong_0, s_Letters_firstWrong_1, s_Letters_firstWrong_3, s_Letters_firstWrong_4, s_Letters_firstWrong_7, s_Letters_firstWrong_10, s_Letters_firstWrong_11, s_Letters_firstWrong_12, s_Letters_firstWrong_13, s_Letters_firstWrong_16, s_Letters_firstWrong_19, s_Letters_firstWrong_20, s_Letters_firstWrong_21, s_Letters_firstWrong_22, s_Letters_firstWrong_23, s_Letters_firstWrong_24, s_Letters_firstWrong_25, s_Letters_firstWrong_28, s_Letters_firstWrong_29, s_Letters_firstWrong_30, s_Letters_firstWrong_31, s_Letters_firstWrong_34, s_Letters_firstWrong_36, zlt, zle, zeq, zclamp, zinc, zdec, zdi, zdr, zdl, zdn, zpi, zpn, if_true, if_false, ite_not, Bool.false_eq_true, ne_eq, not_true_eq_false, not_false_eq_true, true_and, and_true, Nat.add_assoc, Nat.reduceAdd, hn, zift]
      exact hQ σ hB hk hd frB.rf
    | succ f ih =>
      intro s σ β h1 h2 ha hW hB hk hd hQ
      have hn : σ 22 1 = nI ln := hW.2.1
      rw [s_Letters_firstWrong_2]
      by_cases h3 : s < ln
      · have h6 := fln_le _ (Nat.le_succ_of_le (frm_le (lat ln L s)))
        obtain ⟨g1, g2⟩ := ha h3
        simp (disch := first | assumption | omega | decide | exact zin_d (by assumption) (by omega) (by omega) | (simp only [zb01]; done)) only [s_Letters_firstWrong_0, s_Letters_firstWrong_1, s_Letters_firstWrong_3, s_Letters_firstWrong_4, s_Letters_firstWrong_7, s_Letters_firstWrong_10, s_Letters_firstWrong_11, s_Letters_firstWrong_12, s_Letters_firstWrong_13, s_Letters_firstWrong_16, s_Letters_firstWrong_19, s_Letters_firstWrong_20, s_Letters_firstWrong_21, s_Letters_firstWrong_22, s_Letters_firstWrong_23, s_Letters_firstWrong_24, s_Letters_firstWrong_25, s_Letters_firstWrong_28, s_Letters_firstWrong_29, s_Letters_firstWrong_30, s_Letters_firstWrong_31, s_Letters_firstWrong_34, s_Letters_firstWrong_36, zlt, zle, zeq, zclamp, zinc, zdec, zdi, zdr, zdl, zdn, zpi, zpn, if_true, if_false, ite_not, Bool.false_eq_true, ne_eq, not_true_eq_false, not_false_eq_true, true_and, and_true, Nat.add_assoc, Nat.reduceAdd, hn, ziff]
        refine Letters_perform hW hL hB hk hd h2 g1 (fun β' σ' e1 hB' f1 => ?_) (fun e1 => ?_)
        · have hW' := hW.keep (f1 22 (by omega)) (f1 23 (by omega))
          obtain ⟨hk', hd'⟩ := stm_ok hL hk hd h2 g1 e1
          have e : wrgS ln L (f + 1) s β = wrgS ln L f (nxt ln L s) β' := by rw [wrgS, if_pos h3, e1]
          rw [e] at hQ
          simp (disch := first | assumption | omega | decide | exact zin_d (by assumption) (by omega) (by omega) | (simp only [zb01]; done)) only [s_Letters_firstWrong_0, s_Letters_firstWrong_1, s_Letters_firstWrong_3, s_Letters_firstWrong_4, s_Letters_firstWrong_7, s_Letters_firstWrong_10, s_Letters_firstWrong_11, s_Letters_firstWrong_12, s_Letters_firstWrong_13, s_Letters_firstWrong_16, s_Letters_firstWrong_19, s_Letters_firstWrong_20, s_Letters_firstWrong_21, s_Letters_firstWrong_22, s_Letters_firstWrong_23, s_Letters_firstWrong_24, s_Letters_firstWrong_25, s_Letters_firstWrong_28, s_Letters_firstWrong_29, s_Letters_firstWrong_30, s_Letters_firstWrong_31, s_Letters_firstWrong_34, s_Letters_firstWrong_36, zlt, zle, zeq, zclamp, zinc, zdec, zdi, zdr, zdl, zdn, zpi, zpn, if_true, if_false, ite_not, Bool.false_eq_true, ne_eq, not_true_eq_false, not_false_eq_true, true_and, and_true, Nat.add_assoc, Nat.reduceAdd, Letters_lengthBehind hW', zift, ziff]
          have ea : nI s + (1 + nI (fln (frm (lat ln L s)))) = nI (nxt ln L s) := by rw [show (1 : Int32) = nI 1 from rfl, nI_add, nI_add, nxt]
          rw [ea]
          exact ih _ σ' β' (by rw [nxt]; omega) (by rw [nxt]; omega) g2 hW' hB' hk' hd' (fun σ2 k1 k2 k3 k4 => hQ σ2 k1 k2 k3 (f1.tr k4))
        · have e : wrgS ln L (f + 1) s β = (nI s, β) := by rw [wrgS, if_pos h3, e1]
          rw [e] at hQ
          simp (disch := first | assumption | omega | decide | exact zin_d (by assumption) (by omega) (by omega) | (simp only [zb01]; done)) only [s_Letters_firstWrong_0, s_Letters_firstWrong_1, s_Letters_firstWrong_3, s_Letters_firstWrong_4, s_Letters_firstWrong_7, s_Letters_firstWrong_10, s_Letters_firstWrong_11, s_Letters_firstWrong_12, s_Letters_firstWrong_13, s_Letters_firstWrong_16, s_Letters_firstWrong_19, s_Letters_firstWrong_20, s_Letters_firstWrong_21, s_Letters_firstWrong_22, s_Letters_firstWrong_23, s_Letters_firstWrong_24, s_Letters_firstWrong_25, s_Letters_firstWrong_28, s_Letters_firstWrong_29, s_Letters_firstWrong_30, s_Letters_firstWrong_31, s_Letters_firstWrong_34, s_Letters_firstWrong_36, zlt, zle, zeq, zclamp, zinc, zdec, zdi, zdr, zdl, zdn, zpi, zpn, if_true, if_false, ite_not, Bool.false_eq_true, ne_eq, not_true_eq_false, not_false_eq_true, true_and, and_true, Nat.add_assoc, Nat.reduceAdd, zift, ziff]
          exact hQ σ hB hk hd frB.rf
      · have e : wrgS ln L (f + 1) s β = (-9, β) := by rw [wrgS, if_neg h3]
        rw [e] at hQ
        simp (disch := first | assumption | omega | decide | exact zin_d (by assumption) (by omega) (by omega) | (simp only [zb01]; done)) only [s_Letters_firstWrong_0, s_Letters_firstWrong_1, s_Letters_firstWrong_3, s_Letters_firstWrong_4, s_Letters_firstWrong_7, s_Letters_firstWrong_10, s_Letters_firstWrong_11, s_Letters_firstWrong_12, s_Letters_firstWrong_13, s_Letters_firstWrong_16, s_Letters_firstWrong_19, s_Letters_firstWrong_20, s_Letters_firstWrong_21, s_Letters_firstWrong_22, s_Letters_firstWrong_23, s_Letters_firstWrong_24, s_Letters_firstWrong_25, s_Letters_firstWrong_28, s_Letters_firstWrong_29, s_Letters_firstWrong_30, s_Letters_firstWrong_31, s_Letters_firstWrong_34, s_Letters_firstWrong_36, zlt, zle, zeq, zclamp, zinc, zdec, zdi, zdr, zdl, zdn, zpi, zpn, if_true, if_false, ite_not, Bool.false_eq_true, ne_eq, not_true_eq_false, not_false_eq_true, true_and, and_true, Nat.add_assoc, Nat.reduceAdd, hn, zift]
        exact hQ σ hB hk hd frB.rf
  simp (disch := first | assumption | omega | decide | exact zin_d (by assumption) (by omega) (by omega) | (simp only [zb01]; done)) only [s_Letters_firstWrong_0, s_Letters_firstWrong_1, s_Letters_firstWrong_3, s_Letters_firstWrong_4, s_Letters_firstWrong_7, s_Letters_firstWrong_10, s_Letters_firstWrong_11, s_Letters_firstWrong_12, s_Letters_firstWrong_13, s_Letters_firstWrong_16, s_Letters_firstWrong_19, s_Letters_firstWrong_20, s_Letters_firstWrong_21, s_Letters_firstWrong_22, s_Letters_firstWrong_23, s_Letters_firstWrong_24, s_Letters_firstWrong_25, s_Letters_firstWrong_28, s_Letters_firstWrong_29, s_Letters_firstWrong_30, s_Letters_firstWrong_31, s_Letters_firstWrong_34, s_Letters_firstWrong_36, zlt, zle, zeq, zclamp, zinc, zdec, zdi, zdr, zdl, zdn, zpi, zpn, if_true, if_false, ite_not, Bool.false_eq_true, ne_eq, not_true_eq_false, not_false_eq_true, true_and, and_true, Nat.add_assoc, Nat.reduceAdd]
  exact key 96 0 σ β (by omega) (by omega) (allOk_of 96 0 (by omega) h96 hg) hW hB hk hd hQ
end
