def c_stands (a : At) (w : Int32) : Int32 × At := if w = 0 then (if stndB a.1.1.1 a.1.1.2.1 a.1.1.2.2.1 a.1.1.2.2.2 = true then 1 else 0, a) else if w = 1 then (brk a.1.1.1 a.1.1.2.1 a.1.1.2.2.1 a.1.1.2.2.2, a) else if w = 2 then (lng a.1.1.1 a.1.1.2.1 a.1.1.2.2.1, a) else refO (-2) a
def c_spare (a : At) (w : Int32) : Int32 × At := if w = 0 then (lsp a.1.1.1 a.1.1.2.1 a.1.1.2.2.1 a.1.1.2.2.2, a) else if w = 1 then (wkj a.1.1.1 a.1.1.2.1 a.1.1.2.2.1 a.1.1.2.2.2, a) else refF (-2) a
def c_lean (a : At) (w : Int32) : Int32 × At := if w = 0 then (lsum a.1.1.2.1 a.1.1.2.2.1 a.1.1.1, a) else if w = 1 then (far a.1.1.2.1 a.1.1.2.2.1 a.1.1.1, a) else refF (-2) a
def c_runs (a : At) (w : Int32) : Int32 × At := if w = 0 then ((if a.1.1.1 = 0 then 0 else 1) + twos a.1.1.2.2.2 (a.1.1.1 - 1), a) else if w = 1 then (if a.1.1.1 = 0 then 0 else (runL a.1.1.2.2.2 (a.1.1.1 - 1)).2, a) else if w = 2 then (agr a.1.1.2.1 a.1.1.2.2.2 (a.1.1.1 - 1), a) else refO (-2) a
def c_kinds (a : At) (m : Int32) : Int32 × At := if m = 0 ∨ m = 1 then (kindB a.1.1.2.1 a.1.1.2.2.2 m a.1.1.1, a) else refO (-1) a
def c_keystone (a : At) : Int32 × At := ((strg a.1.1.2.1 a.1.1.2.2.1 a.1.1.1).1, a)
def c_mortar (a : At) : Int32 × At := (lack a.1.1.1 a.1.1.2.1 a.1.1.2.2.1 a.1.1.2.2.2 (a.1.1.1 - 1), a)
section
variable {σ : zG} {Q : Option Value → zG → Prop} {a : At} {x y z m w : Int32}
theorem X_stone (hR : RX σ a) (hQ : ∀ σ', RX σ' (c_stone a x w).2 → Q (some (.int (c_stone a x w).1)) σ') : Ev zshX 105 0 [some (.ref 0), some (.int x), some (.int w)] [] σ Q := by
  have hS : WS σ 2 _ _ _ _ := hR.1.1.2.1
  have hok := hR.1.2.1
  have h12 := hok.1.1
  have hF : Fok _ _ := hok.1.F
  rw [c_stone] at hQ
  by_cases h : 0 ≤ x ∧ x < nI a.1.1.1
  · rw [if_pos h] at hQ
    obtain ⟨i, hi, rfl⟩ := in_nI (by omega) h
    rw [zclamp (by omega)] at hQ
    by_cases w0 : w = 0
    · subst w0
      rw [if_pos rfl] at hQ
      simp (disch := first | assumption | omega | decide | exact zin_d (by assumption) (by omega) (by omega) | (simp only [zb01]; done)) only [s_X_stone_0, s_X_stone_1, s_X_stone_4, s_X_stone_7, s_X_stone_8, s_X_stone_11, s_X_stone_14, s_X_stone_15, s_X_stone_16, s_X_stone_19, s_X_stone_20, s_X_stone_21, s_X_stone_60, s_X_stone_61, s_X_stone_64, s_X_stone_67, s_X_stone_68, s_X_stone_71, s_X_stone_72, s_X_stone_73, s_X_stone_76, s_X_stone_79, s_X_stone_80, s_X_stone_83, s_X_stone_84, s_X_stone_85, s_X_stone_88, s_X_stone_91, s_X_stone_92, s_X_stone_95, s_X_stone_96, s_X_stone_97, s_X_stone_100, s_X_stone_103, s_X_stone_104, s_X_stone_107, s_X_stone_108, s_X_stone_109, s_X_stone_112, s_X_stone_115, s_X_stone_116, s_X_stone_119, s_X_stone_120, s_X_stone_121, s_X_stone_124, s_X_stone_127, s_X_stone_128, s_X_stone_131, s_X_stone_132, s_X_stone_133, s_X_stone_135, s_X_stone_138, zlt, zle, zeq, zclamp, zinc, zdec, zdi, zdr, zdl, zdn, zpi, zpn, if_true, if_false, ite_not, Bool.false_eq_true, ne_eq, not_true_eq_false, not_false_eq_true, true_and, and_true, Nat.add_assoc, Nat.reduceAdd, Stones_has_in hS.1.1 hS.2.2.1 hS.2.1, Stones_kindOf hS hi, zift, ziff]
      exact hQ σ hR
    rw [if_neg w0] at hQ
    by_cases w1 : w = 1
    · subst w1
      rw [if_pos rfl] at hQ
      simp (disch := first | assumption | omega | decide | exact zin_d (by assumption) (by omega) (by omega) | (simp only [zb01]; done)) only [s_X_stone_0, s_X_stone_1, s_X_stone_4, s_X_stone_7, s_X_stone_8, s_X_stone_11, s_X_stone_14, s_X_stone_15, s_X_stone_16, s_X_stone_19, s_X_stone_20, s_X_stone_21, s_X_stone_60, s_X_stone_61, s_X_stone_64, s_X_stone_67, s_X_stone_68, s_X_stone_71, s_X_stone_72, s_X_stone_73, s_X_stone_76, s_X_stone_79, s_X_stone_80, s_X_stone_83, s_X_stone_84, s_X_stone_85, s_X_stone_88, s_X_stone_91, s_X_stone_92, s_X_stone_95, s_X_stone_96, s_X_stone_97, s_X_stone_100, s_X_stone_103, s_X_stone_104, s_X_stone_107, s_X_stone_108, s_X_stone_109, s_X_stone_112, s_X_stone_115, s_X_stone_116, s_X_stone_119, s_X_stone_120, s_X_stone_121, s_X_stone_124, s_X_stone_127, s_X_stone_128, s_X_stone_131, s_X_stone_132, s_X_stone_133, s_X_stone_135, s_X_stone_138, zlt, zle, zeq, zclamp, zinc, zdec, zdi, zdr, zdl, zdn, zpi, zpn, if_true, if_false, ite_not, Bool.false_eq_true, ne_eq, not_true_eq_false, not_false_eq_true, true_and, and_true, Nat.add_assoc, Nat.reduceAdd, Stones_has_in hS.1.1 hS.2.2.1 hS.2.1, Stones_figureOf hS hi, zift, ziff]
      exact hQ σ hR
    rw [if_neg w1] at hQ
    by_cases w2 : w = 2
    · subst w2
      rw [if_pos rfl] at hQ
      simp (disch := first | assumption | omega | decide | exact zin_d (by assumption) (by omega) (by omega) | (simp only [zb01]; done)) only [s_X_stone_0, s_X_stone_1, s_X_stone_4, s_X_stone_7, s_X_stone_8, s_X_stone_11, s_X_stone_14, s_X_stone_15, s_X_stone_16, s_X_stone_19, s_X_stone_20, s_X_stone_21, s_X_stone_60, s_X_stone_61, s_X_stone_64, s_X_stone_67, s_X_stone_68, s_X_stone_71, s_X_stone_72, s_X_stone_73, s_X_stone_76, s_X_stone_79, s_X_stone_80, s_X_stone_83, s_X_stone_84, s_X_stone_85, s_X_stone_88, s_X_stone_91, s_X_stone_92, s_X_stone_95, s_X_stone_96, s_X_stone_97, s_X_stone_100, s_X_stone_103, s_X_stone_104, s_X_stone_107, s_X_stone_108, s_X_stone_109, s_X_stone_112, s_X_stone_115, s_X_stone_116, s_X_stone_119, s_X_stone_120, s_X_stone_121, s_X_stone_124, s_X_stone_127, s_X_stone_128, s_X_stone_131, s_X_stone_132, s_X_stone_133, s_X_stone_135, s_X_stone_138, zlt, zle, zeq, zclamp, zinc, zdec, zdi, zdr, zdl, zdn, zpi, zpn, if_true, if_false, ite_not, Bool.false_eq_true, ne_eq, not_true_eq_false, not_false_eq_true, true_and, and_true, Nat.add_assoc, Nat.reduceAdd, Stones_has_in hS.1.1 hS.2.2.1 hS.2.1, Stones_layerOf hS hi, zift, ziff]
      exact hQ σ hR
    rw [if_neg w2] at hQ
    by_cases w3 : w = 3
    · subst w3
      rw [if_pos rfl] at hQ
      simp (disch := first | assumption | omega | decide | exact zin_d (by assumption) (by omega) (by omega) | (simp only [zb01]; done)) only [s_X_stone_0, s_X_stone_1, s_X_stone_4, s_X_stone_7, s_X_stone_8, s_X_stone_11, s_X_stone_14, s_X_stone_15, s_X_stone_16, s_X_stone_19, s_X_stone_20, s_X_stone_21, s_X_stone_60, s_X_stone_61, s_X_stone_64, s_X_stone_67, s_X_stone_68, s_X_stone_71, s_X_stone_72, s_X_stone_73, s_X_stone_76, s_X_stone_79, s_X_stone_80, s_X_stone_83, s_X_stone_84, s_X_stone_85, s_X_stone_88, s_X_stone_91, s_X_stone_92, s_X_stone_95, s_X_stone_96, s_X_stone_97, s_X_stone_100, s_X_stone_103, s_X_stone_104, s_X_stone_107, s_X_stone_108, s_X_stone_109, s_X_stone_112, s_X_stone_115, s_X_stone_116, s_X_stone_119, s_X_stone_120, s_X_stone_121, s_X_stone_124, s_X_stone_127, s_X_stone_128, s_X_stone_131, s_X_stone_132, s_X_stone_133, s_X_stone_135, s_X_stone_138, zlt, zle, zeq, zclamp, zinc, zdec, zdi, zdr, zdl, zdn, zpi, zpn, if_true, if_false, ite_not, Bool.false_eq_true, ne_eq, not_true_eq_false, not_false_eq_true, true_and, and_true, Nat.add_assoc, Nat.reduceAdd, Stones_has_in hS.1.1 hS.2.2.1 hS.2.1, Stones_holdOf hS hi, zift, ziff]
      exact hQ σ hR
    rw [if_neg w3] at hQ
    by_cases w4 : w = 4
    · subst w4
      rw [if_pos rfl] at hQ
      simp (disch := first | assumption | omega | decide | exact zin_d (by assumption) (by omega) (by omega) | (simp only [zb01]; done)) only [s_X_stone_0, s_X_stone_1, s_X_stone_4, s_X_stone_7, s_X_stone_8, s_X_stone_11, s_X_stone_14, s_X_stone_15, s_X_stone_16, s_X_stone_19, s_X_stone_20, s_X_stone_21, s_X_stone_60, s_X_stone_61, s_X_stone_64, s_X_stone_67, s_X_stone_68, s_X_stone_71, s_X_stone_72, s_X_stone_73, s_X_stone_76, s_X_stone_79, s_X_stone_80, s_X_stone_83, s_X_stone_84, s_X_stone_85, s_X_stone_88, s_X_stone_91, s_X_stone_92, s_X_stone_95, s_X_stone_96, s_X_stone_97, s_X_stone_100, s_X_stone_103, s_X_stone_104, s_X_stone_107, s_X_stone_108, s_X_stone_109, s_X_stone_112, s_X_stone_115, s_X_stone_116, s_X_stone_119, s_X_stone_120, s_X_stone_121, s_X_stone_124, s_X_stone_127, s_X_stone_128, s_X_stone_131, s_X_stone_132, s_X_stone_133, s_X_stone_135, s_X_stone_138, zlt, zle, zeq, zclamp, zinc, zdec, zdi, zdr, zdl, zdn, zpi, zpn, if_true, if_false, ite_not, Bool.false_eq_true, ne_eq, not_true_eq_false, not_false_eq_true, true_and, and_true, Nat.add_assoc, Nat.reduceAdd, Stones_has_in hS.1.1 hS.2.2.1 hS.2.1, Stones_leanOf_in hS hi, zift, ziff]
      exact hQ σ hR
    rw [if_neg w4] at hQ
    by_cases w5 : w = 5
    · subst w5
      rw [if_pos rfl] at hQ
      simp (disch := first | assumption | omega | decide | exact zin_d (by assumption) (by omega) (by omega) | (simp only [zb01]; done)) only [s_X_stone_0, s_X_stone_1, s_X_stone_4, s_X_stone_7, s_X_stone_8, s_X_stone_11, s_X_stone_14, s_X_stone_15, s_X_stone_16, s_X_stone_19, s_X_stone_20, s_X_stone_21, s_X_stone_60, s_X_stone_61, s_X_stone_64, s_X_stone_67, s_X_stone_68, s_X_stone_71, s_X_stone_72, s_X_stone_73, s_X_stone_76, s_X_stone_79, s_X_stone_80, s_X_stone_83, s_X_stone_84, s_X_stone_85, s_X_stone_88, s_X_stone_91, s_X_stone_92, s_X_stone_95, s_X_stone_96, s_X_stone_97, s_X_stone_100, s_X_stone_103, s_X_stone_104, s_X_stone_107, s_X_stone_108, s_X_stone_109, s_X_stone_112, s_X_stone_115, s_X_stone_116, s_X_stone_119, s_X_stone_120, s_X_stone_121, s_X_stone_124, s_X_stone_127, s_X_stone_128, s_X_stone_131, s_X_stone_132, s_X_stone_133, s_X_stone_135, s_X_stone_138, zlt, zle, zeq, zclamp, zinc, zdec, zdi, zdr, zdl, zdn, zpi, zpn, if_true, if_false, ite_not, Bool.false_eq_true, ne_eq, not_true_eq_false, not_false_eq_true, true_and, and_true, Nat.add_assoc, Nat.reduceAdd, Stones_has_in hS.1.1 hS.2.2.1 hS.2.1, Stones_leanUpTo hS hi, zift, ziff]
      exact hQ σ hR
    rw [if_neg w5] at hQ
    simp (disch := first | assumption | omega | decide | exact zin_d (by assumption) (by omega) (by omega) | (simp only [zb01]; done)) only [s_X_stone_0, s_X_stone_1, s_X_stone_4, s_X_stone_7, s_X_stone_8, s_X_stone_11, s_X_stone_14, s_X_stone_15, s_X_stone_16, s_X_stone_19, s_X_stone_20, s_X_stone_21, s_X_stone_60, s_X_stone_61, s_X_stone_64, s_X_stone_67, s_X_stone_68, s_X_stone_71, s_X_stone_72, s_X_stone_73, s_X_stone_76, s_X_stone_79, s_X_stone_80, s_X_stone_83, s_X_stone_84, s_X_stone_85, s_X_stone_88, s_X_stone_91, s_X_stone_92, s_X_stone_95, s_X_stone_96, s_X_stone_97, s_X_stone_100, s_X_stone_103, s_X_stone_104, s_X_stone_107, s_X_stone_108, s_X_stone_109, s_X_stone_112, s_X_stone_115, s_X_stone_116, s_X_stone_119, s_X_stone_120, s_X_stone_121, s_X_stone_124, s_X_stone_127, s_X_stone_128, s_X_stone_131, s_X_stone_132, s_X_stone_133, s_X_stone_135, s_X_stone_138, zlt, zle, zeq, zclamp, zinc, zdec, zdi, zdr, zdl, zdn, zpi, zpn, if_true, if_false, ite_not, Bool.false_eq_true, ne_eq, not_true_eq_false, not_false_eq_true, true_and, and_true, Nat.add_assoc, Nat.reduceAdd, Stones_has_in hS.1.1 hS.2.2.1 hS.2.1, zift, ziff]
    refine X_refuseFar hR ref2 (fun σ' h => ?_)
    simp (disch := first | assumption | omega | decide | exact zin_d (by assumption) (by omega) (by omega) | (simp only [zb01]; done)) only [s_X_stone_0, s_X_stone_1, s_X_stone_4, s_X_stone_7, s_X_stone_8, s_X_stone_11, s_X_stone_14, s_X_stone_15, s_X_stone_16, s_X_stone_19, s_X_stone_20, s_X_stone_21, s_X_stone_60, s_X_stone_61, s_X_stone_64, s_X_stone_67, s_X_stone_68, s_X_stone_71, s_X_stone_72, s_X_stone_73, s_X_stone_76, s_X_stone_79, s_X_stone_80, s_X_stone_83, s_X_stone_84, s_X_stone_85, s_X_stone_88, s_X_stone_91, s_X_stone_92, s_X_stone_95, s_X_stone_96, s_X_stone_97, s_X_stone_100, s_X_stone_103, s_X_stone_104, s_X_stone_107, s_X_stone_108, s_X_stone_109, s_X_stone_112, s_X_stone_115, s_X_stone_116, s_X_stone_119, s_X_stone_120, s_X_stone_121, s_X_stone_124, s_X_stone_127, s_X_stone_128, s_X_stone_131, s_X_stone_132, s_X_stone_133, s_X_stone_135, s_X_stone_138, zlt, zle, zeq, zclamp, zinc, zdec, zdi, zdr, zdl, zdn, zpi, zpn, if_true, if_false, ite_not, Bool.false_eq_true, ne_eq, not_true_eq_false, not_false_eq_true, true_and, and_true, Nat.add_assoc, Nat.reduceAdd]
    exact hQ σ' h
  · rw [if_neg h] at hQ
    simp (disch := first | assumption | omega | decide | exact zin_d (by assumption) (by omega) (by omega) | (simp only [zb01]; done)) only [s_X_stone_0, s_X_stone_1, s_X_stone_4, s_X_stone_7, s_X_stone_8, s_X_stone_11, s_X_stone_14, s_X_stone_15, s_X_stone_16, s_X_stone_19, s_X_stone_20, s_X_stone_21, s_X_stone_60, s_X_stone_61, s_X_stone_64, s_X_stone_67, s_X_stone_68, s_X_stone_71, s_X_stone_72, s_X_stone_73, s_X_stone_76, s_X_stone_79, s_X_stone_80, s_X_stone_83, s_X_stone_84, s_X_stone_85, s_X_stone_88, s_X_stone_91, s_X_stone_92, s_X_stone_95, s_X_stone_96, s_X_stone_97, s_X_stone_100, s_X_stone_103, s_X_stone_104, s_X_stone_107, s_X_stone_108, s_X_stone_109, s_X_stone_112, s_X_stone_115, s_X_stone_116, s_X_stone_119, s_X_stone_120, s_X_stone_121, s_X_stone_124, s_X_stone_127, s_X_stone_128, s_X_stone_131, s_X_stone_132, s_X_stone_133, s_X_stone_135, s_X_stone_138, zlt, zle, zeq, zclamp, zinc, zdec, zdi, zdr, zdl, zdn, zpi, zpn, if_true, if_false, ite_not, Bool.false_eq_true, ne_eq, not_true_eq_false, not_false_eq_true, true_and, and_true, Nat.add_assoc, Nat.reduceAdd, Stones_has hS, zift, ziff]
    refine X_refuseFar hR ref1 (fun σ' h => ?_)
    simp (disch := first | assumption | omega | decide | exact zin_d (by assumption) (by omega) (by omega) | (simp only [zb01]; done)) only [s_X_stone_0, s_X_stone_1, s_X_stone_4, s_X_stone_7, s_X_stone_8, s_X_stone_11, s_X_stone_14, s_X_stone_15, s_X_stone_16, s_X_stone_19, s_X_stone_20, s_X_stone_21, s_X_stone_60, s_X_stone_61, s_X_stone_64, s_X_stone_67, s_X_stone_68, s_X_stone_71, s_X_stone_72, s_X_stone_73, s_X_stone_76, s_X_stone_79, s_X_stone_80, s_X_stone_83, s_X_stone_84, s_X_stone_85, s_X_stone_88, s_X_stone_91, s_X_stone_92, s_X_stone_95, s_X_stone_96, s_X_stone_97, s_X_stone_100, s_X_stone_103, s_X_stone_104, s_X_stone_107, s_X_stone_108, s_X_stone_109, s_X_stone_112, s_X_stone_115, s_X_stone_116, s_X_stone_119, s_X_stone_120, s_X_stone_121, s_X_stone_124, s_X_stone_127, s_X_stone_128, s_X_stone_131, s_X_stone_132, s_X_stone_133, s_X_stone_135, s_X_stone_138, zlt, zle, zeq, zclamp, zinc, zdec, zdi, zdr, zdl, zdn, zpi, zpn, if_true, if_false, ite_not, Bool.false_eq_true, ne_eq, not_true_eq_false, not_false_eq_true, true_and, and_true, Nat.add_assoc, Nat.reduceAdd]
    exact hQ σ' h
theorem X_joint (hR : RX σ a) (hQ : ∀ σ', RX σ' (c_joint a x w).2 → Q (some (.int (c_joint a x w).1)) σ') : Ev zshX 106 0 [some (.ref 0), some (.int x), some (.int w)] [] σ Q := by
  have hS : WS σ 2 _ _ _ _ := hR.1.1.2.1
  have hok := hR.1.2.1
  have h12 := hok.1.1
  have hF : Fok _ _ := hok.1.F
  rw [c_joint] at hQ
  by_cases h : 0 ≤ x ∧ x < nI (a.1.1.1 - 1)
  · rw [if_pos h] at hQ
    obtain ⟨i, hi, rfl⟩ := in_nI (by omega) h
    rw [zclamp (by omega)] at hQ
    have hi2 : i + 1 < a.1.1.1 := by omega
    by_cases w0 : w = 0
    · subst w0
      rw [if_pos rfl] at hQ
      simp (disch := first | assumption | omega | decide | exact zin_d (by assumption) (by omega) (by omega) | (simp only [zb01]; done)) only [s_X_joint_0, s_X_joint_1, s_X_joint_4, s_X_joint_7, s_X_joint_8, s_X_joint_11, s_X_joint_14, s_X_joint_15, s_X_joint_16, s_X_joint_19, s_X_joint_20, s_X_joint_21, s_X_joint_48, s_X_joint_49, s_X_joint_52, s_X_joint_55, s_X_joint_56, s_X_joint_59, s_X_joint_60, s_X_joint_61, s_X_joint_64, s_X_joint_67, s_X_joint_68, s_X_joint_71, s_X_joint_72, s_X_joint_73, s_X_joint_75, s_X_joint_78, zlt, zle, zeq, zclamp, zinc, zdec, zdi, zdr, zdl, zdn, zpi, zpn, if_true, if_false, ite_not, Bool.false_eq_true, ne_eq, not_true_eq_false, not_false_eq_true, true_and, and_true, Nat.add_assoc, Nat.reduceAdd, Stones_hasJoint_in hS hi2, Stones_heldBy hS hi2, zift, ziff]
      exact hQ σ hR
    rw [if_neg w0] at hQ
    by_cases w1 : w = 1
    · subst w1
      rw [if_pos rfl] at hQ
      simp (disch := first | assumption | omega | decide | exact zin_d (by assumption) (by omega) (by omega) | (simp only [zb01]; done)) only [s_X_joint_0, s_X_joint_1, s_X_joint_4, s_X_joint_7, s_X_joint_8, s_X_joint_11, s_X_joint_14, s_X_joint_15, s_X_joint_16, s_X_joint_19, s_X_joint_20, s_X_joint_21, s_X_joint_48, s_X_joint_49, s_X_joint_52, s_X_joint_55, s_X_joint_56, s_X_joint_59, s_X_joint_60, s_X_joint_61, s_X_joint_64, s_X_joint_67, s_X_joint_68, s_X_joint_71, s_X_joint_72, s_X_joint_73, s_X_joint_75, s_X_joint_78, zlt, zle, zeq, zclamp, zinc, zdec, zdi, zdr, zdl, zdn, zpi, zpn, if_true, if_false, ite_not, Bool.false_eq_true, ne_eq, not_true_eq_false, not_false_eq_true, true_and, and_true, Nat.add_assoc, Nat.reduceAdd, Stones_hasJoint_in hS hi2, Stones_loadOn hS, zift, ziff]
      exact hQ σ hR
    rw [if_neg w1] at hQ
    simp (disch := first | assumption | omega | decide | exact zin_d (by assumption) (by omega) (by omega) | (simp only [zb01]; done)) only [s_X_joint_0, s_X_joint_1, s_X_joint_4, s_X_joint_7, s_X_joint_8, s_X_joint_11, s_X_joint_14, s_X_joint_15, s_X_joint_16, s_X_joint_19, s_X_joint_20, s_X_joint_21, s_X_joint_48, s_X_joint_49, s_X_joint_52, s_X_joint_55, s_X_joint_56, s_X_joint_59, s_X_joint_60, s_X_joint_61, s_X_joint_64, s_X_joint_67, s_X_joint_68, s_X_joint_71, s_X_joint_72, s_X_joint_73, s_X_joint_75, s_X_joint_78, zlt, zle, zeq, zclamp, zinc, zdec, zdi, zdr, zdl, zdn, zpi, zpn, if_true, if_false, ite_not, Bool.false_eq_true, ne_eq, not_true_eq_false, not_false_eq_true, true_and, and_true, Nat.add_assoc, Nat.reduceAdd, Stones_hasJoint_in hS hi2, zift, ziff]
    refine X_refuse hR ref2 (fun σ' h => ?_)
    simp (disch := first | assumption | omega | decide | exact zin_d (by assumption) (by omega) (by omega) | (simp only [zb01]; done)) only [s_X_joint_0, s_X_joint_1, s_X_joint_4, s_X_joint_7, s_X_joint_8, s_X_joint_11, s_X_joint_14, s_X_joint_15, s_X_joint_16, s_X_joint_19, s_X_joint_20, s_X_joint_21, s_X_joint_48, s_X_joint_49, s_X_joint_52, s_X_joint_55, s_X_joint_56, s_X_joint_59, s_X_joint_60, s_X_joint_61, s_X_joint_64, s_X_joint_67, s_X_joint_68, s_X_joint_71, s_X_joint_72, s_X_joint_73, s_X_joint_75, s_X_joint_78, zlt, zle, zeq, zclamp, zinc, zdec, zdi, zdr, zdl, zdn, zpi, zpn, if_true, if_false, ite_not, Bool.false_eq_true, ne_eq, not_true_eq_false, not_false_eq_true, true_and, and_true, Nat.add_assoc, Nat.reduceAdd]
    exact hQ σ' h
  · rw [if_neg h] at hQ
    simp (disch := first | assumption | omega | decide | exact zin_d (by assumption) (by omega) (by omega) | (simp only [zb01]; done)) only [s_X_joint_0, s_X_joint_1, s_X_joint_4, s_X_joint_7, s_X_joint_8, s_X_joint_11, s_X_joint_14, s_X_joint_15, s_X_joint_16, s_X_joint_19, s_X_joint_20, s_X_joint_21, s_X_joint_48, s_X_joint_49, s_X_joint_52, s_X_joint_55, s_X_joint_56, s_X_joint_59, s_X_joint_60, s_X_joint_61, s_X_joint_64, s_X_joint_67, s_X_joint_68, s_X_joint_71, s_X_joint_72, s_X_joint_73, s_X_joint_75, s_X_joint_78, zlt, zle, zeq, zclamp, zinc, zdec, zdi, zdr, zdl, zdn, zpi, zpn, if_true, if_false, ite_not, Bool.false_eq_true, ne_eq, not_true_eq_false, not_false_eq_true, true_and, and_true, Nat.add_assoc, Nat.reduceAdd, Stones_hasJoint hS, zift, ziff]
    refine X_refuse hR ref1 (fun σ' h => ?_)
    simp (disch := first | assumption | omega | decide | exact zin_d (by assumption) (by omega) (by omega) | (simp only [zb01]; done)) only [s_X_joint_0, s_X_joint_1, s_X_joint_4, s_X_joint_7, s_X_joint_8, s_X_joint_11, s_X_joint_14, s_X_joint_15, s_X_joint_16, s_X_joint_19, s_X_joint_20, s_X_joint_21, s_X_joint_48, s_X_joint_49, s_X_joint_52, s_X_joint_55, s_X_joint_56, s_X_joint_59, s_X_joint_60, s_X_joint_61, s_X_joint_64, s_X_joint_67, s_X_joint_68, s_X_joint_71, s_X_joint_72, s_X_joint_73, s_X_joint_75, s_X_joint_78, zlt, zle, zeq, zclamp, zinc, zdec, zdi, zdr, zdl, zdn, zpi, zpn, if_true, if_false, ite_not, Bool.false_eq_true, ne_eq, not_true_eq_false, not_false_eq_true, true_and, and_true, Nat.add_assoc, Nat.reduceAdd]
    exact hQ σ' h
theorem X_mason (hR : RX σ a) (hQ : ∀ σ', RX σ' (c_mason a m w).2 → Q (some (.int (c_mason a m w).1)) σ') : Ev zshX 107 0 [some (.ref 0), some (.int m), some (.int w)] [] σ Q := by
  have hS : WS σ 2 _ _ _ _ := hR.1.1.2.1
  have hok := hR.1.2.1
  have h12 := hok.1.1
  have hF : Fok _ _ := hok.1.F
  rw [c_mason] at hQ
  by_cases h : m = 0 ∨ m = 1
  · rw [if_pos h] at hQ
    obtain ⟨b, eb, hb, hm4, hm0, hm1, hm2⟩ := WB_mOf hR.1.1 m
    rw [← hm0, ← hm1, ← hm2] at hQ
    have eb1 : (if m = 1 then 7 else 6) = b := eb
    by_cases w0 : w = 0
    · subst w0
      rw [if_pos rfl] at hQ
      simp (disch := first | assumption | omega | decide | exact zin_d (by assumption) (by omega) (by omega) | (simp only [zb01]; done)) only [s_X_mason_0, s_X_mason_1, s_X_mason_4, s_X_mason_7, s_X_mason_8, s_X_mason_9, s_X_mason_12, s_X_mason_13, s_X_mason_14, s_X_mason_44, s_X_mason_45, s_X_mason_48, s_X_mason_49, s_X_mason_52, s_X_mason_55, s_X_mason_56, s_X_mason_57, s_X_mason_60, s_X_mason_61, s_X_mason_64, s_X_mason_67, s_X_mason_68, s_X_mason_69, s_X_mason_72, s_X_mason_73, s_X_mason_76, s_X_mason_79, s_X_mason_80, s_X_mason_81, s_X_mason_84, s_X_mason_87, s_X_mason_88, s_X_mason_91, s_X_mason_92, s_X_mason_93, s_X_mason_95, s_X_mason_98, zlt, zle, zeq, zclamp, zinc, zdec, zdi, zdr, zdl, zdn, zpi, zpn, if_true, if_false, ite_not, Bool.false_eq_true, ne_eq, not_true_eq_false, not_false_eq_true, true_and, and_true, Nat.add_assoc, Nat.reduceAdd, X_isMason, Bridge_masonOf, eb1, hR.1, zift, ziff]
      exact hQ σ hR
    rw [if_neg w0] at hQ
    by_cases w1 : w = 1
    · subst w1
      rw [if_pos rfl] at hQ
      simp (disch := first | assumption | omega | decide | exact zin_d (by assumption) (by omega) (by omega) | (simp only [zb01]; done)) only [s_X_mason_0, s_X_mason_1, s_X_mason_4, s_X_mason_7, s_X_mason_8, s_X_mason_9, s_X_mason_12, s_X_mason_13, s_X_mason_14, s_X_mason_44, s_X_mason_45, s_X_mason_48, s_X_mason_49, s_X_mason_52, s_X_mason_55, s_X_mason_56, s_X_mason_57, s_X_mason_60, s_X_mason_61, s_X_mason_64, s_X_mason_67, s_X_mason_68, s_X_mason_69, s_X_mason_72, s_X_mason_73, s_X_mason_76, s_X_mason_79, s_X_mason_80, s_X_mason_81, s_X_mason_84, s_X_mason_87, s_X_mason_88, s_X_mason_91, s_X_mason_92, s_X_mason_93, s_X_mason_95, s_X_mason_98, zlt, zle, zeq, zclamp, zinc, zdec, zdi, zdr, zdl, zdn, zpi, zpn, if_true, if_false, ite_not, Bool.false_eq_true, ne_eq, not_true_eq_false, not_false_eq_true, true_and, and_true, Nat.add_assoc, Nat.reduceAdd, X_isMason, Bridge_masonOf, eb1, hR.1, zift, ziff]
      exact hQ σ hR
    rw [if_neg w1] at hQ
    by_cases w2 : w = 2
    · subst w2
      rw [if_pos rfl] at hQ
      simp (disch := first | assumption | omega | decide | exact zin_d (by assumption) (by omega) (by omega) | (simp only [zb01]; done)) only [s_X_mason_0, s_X_mason_1, s_X_mason_4, s_X_mason_7, s_X_mason_8, s_X_mason_9, s_X_mason_12, s_X_mason_13, s_X_mason_14, s_X_mason_44, s_X_mason_45, s_X_mason_48, s_X_mason_49, s_X_mason_52, s_X_mason_55, s_X_mason_56, s_X_mason_57, s_X_mason_60, s_X_mason_61, s_X_mason_64, s_X_mason_67, s_X_mason_68, s_X_mason_69, s_X_mason_72, s_X_mason_73, s_X_mason_76, s_X_mason_79, s_X_mason_80, s_X_mason_81, s_X_mason_84, s_X_mason_87, s_X_mason_88, s_X_mason_91, s_X_mason_92, s_X_mason_93, s_X_mason_95, s_X_mason_98, zlt, zle, zeq, zclamp, zinc, zdec, zdi, zdr, zdl, zdn, zpi, zpn, if_true, if_false, ite_not, Bool.false_eq_true, ne_eq, not_true_eq_false, not_false_eq_true, true_and, and_true, Nat.add_assoc, Nat.reduceAdd, X_isMason, Bridge_masonOf, eb1, hR.1, zift, ziff]
      exact hQ σ hR
    rw [if_neg w2] at hQ
    by_cases w3 : w = 3
    · subst w3
      rw [if_pos rfl] at hQ
      simp (disch := first | assumption | omega | decide | exact zin_d (by assumption) (by omega) (by omega) | (simp only [zb01]; done)) only [s_X_mason_0, s_X_mason_1, s_X_mason_4, s_X_mason_7, s_X_mason_8, s_X_mason_9, s_X_mason_12, s_X_mason_13, s_X_mason_14, s_X_mason_44, s_X_mason_45, s_X_mason_48, s_X_mason_49, s_X_mason_52, s_X_mason_55, s_X_mason_56, s_X_mason_57, s_X_mason_60, s_X_mason_61, s_X_mason_64, s_X_mason_67, s_X_mason_68, s_X_mason_69, s_X_mason_72, s_X_mason_73, s_X_mason_76, s_X_mason_79, s_X_mason_80, s_X_mason_81, s_X_mason_84, s_X_mason_87, s_X_mason_88, s_X_mason_91, s_X_mason_92, s_X_mason_93, s_X_mason_95, s_X_mason_98, zlt, zle, zeq, zclamp, zinc, zdec, zdi, zdr, zdl, zdn, zpi, zpn, if_true, if_false, ite_not, Bool.false_eq_true, ne_eq, not_true_eq_false, not_false_eq_true, true_and, and_true, Nat.add_assoc, Nat.reduceAdd, X_isMason, Bridge_masonOf, eb1, Stones_shareOf hS, zift, ziff]
      exact hQ σ hR
    rw [if_neg w3] at hQ
    simp (disch := first | assumption | omega | decide | exact zin_d (by assumption) (by omega) (by omega) | (simp only [zb01]; done)) only [s_X_mason_0, s_X_mason_1, s_X_mason_4, s_X_mason_7, s_X_mason_8, s_X_mason_9, s_X_mason_12, s_X_mason_13, s_X_mason_14, s_X_mason_44, s_X_mason_45, s_X_mason_48, s_X_mason_49, s_X_mason_52, s_X_mason_55, s_X_mason_56, s_X_mason_57, s_X_mason_60, s_X_mason_61, s_X_mason_64, s_X_mason_67, s_X_mason_68, s_X_mason_69, s_X_mason_72, s_X_mason_73, s_X_mason_76, s_X_mason_79, s_X_mason_80, s_X_mason_81, s_X_mason_84, s_X_mason_87, s_X_mason_88, s_X_mason_91, s_X_mason_92, s_X_mason_93, s_X_mason_95, s_X_mason_98, zlt, zle, zeq, zclamp, zinc, zdec, zdi, zdr, zdl, zdn, zpi, zpn, if_true, if_false, ite_not, Bool.false_eq_true, ne_eq, not_true_eq_false, not_false_eq_true, true_and, and_true, Nat.add_assoc, Nat.reduceAdd, X_isMason, Bridge_masonOf, eb1, zift, ziff]
    refine X_refuse hR ref2 (fun σ' h => ?_)
    simp (disch := first | assumption | omega | decide | exact zin_d (by assumption) (by omega) (by omega) | (simp only [zb01]; done)) only [s_X_mason_0, s_X_mason_1, s_X_mason_4, s_X_mason_7, s_X_mason_8, s_X_mason_9, s_X_mason_12, s_X_mason_13, s_X_mason_14, s_X_mason_44, s_X_mason_45, s_X_mason_48, s_X_mason_49, s_X_mason_52, s_X_mason_55, s_X_mason_56, s_X_mason_57, s_X_mason_60, s_X_mason_61, s_X_mason_64, s_X_mason_67, s_X_mason_68, s_X_mason_69, s_X_mason_72, s_X_mason_73, s_X_mason_76, s_X_mason_79, s_X_mason_80, s_X_mason_81, s_X_mason_84, s_X_mason_87, s_X_mason_88, s_X_mason_91, s_X_mason_92, s_X_mason_93, s_X_mason_95, s_X_mason_98, zlt, zle, zeq, zclamp, zinc, zdec, zdi, zdr, zdl, zdn, zpi, zpn, if_true, if_false, ite_not, Bool.false_eq_true, ne_eq, not_true_eq_false, not_false_eq_true, true_and, and_true, Nat.add_assoc, Nat.reduceAdd]
    exact hQ σ' h
  · rw [if_neg h] at hQ
    simp (disch := first | assumption | omega | decide | exact zin_d (by assumption) (by omega) (by omega) | (simp only [zb01]; done)) only [s_X_mason_0, s_X_mason_1, s_X_mason_4, s_X_mason_7, s_X_mason_8, s_X_mason_9, s_X_mason_12, s_X_mason_13, s_X_mason_14, s_X_mason_44, s_X_mason_45, s_X_mason_48, s_X_mason_49, s_X_mason_52, s_X_mason_55, s_X_mason_56, s_X_mason_57, s_X_mason_60, s_X_mason_61, s_X_mason_64, s_X_mason_67, s_X_mason_68, s_X_mason_69, s_X_mason_72, s_X_mason_73, s_X_mason_76, s_X_mason_79, s_X_mason_80, s_X_mason_81, s_X_mason_84, s_X_mason_87, s_X_mason_88, s_X_mason_91, s_X_mason_92, s_X_mason_93, s_X_mason_95, s_X_mason_98, zlt, zle, zeq, zclamp, zinc, zdec, zdi, zdr, zdl, zdn, zpi, zpn, if_true, if_false, ite_not, Bool.false_eq_true, ne_eq, not_true_eq_false, not_false_eq_true, true_and, and_true, Nat.add_assoc, Nat.reduceAdd, X_isMason, zift, ziff]
    refine X_refuse hR ref1 (fun σ' h => ?_)
    simp (disch := first | assumption | omega | decide | exact zin_d (by assumption) (by omega) (by omega) | (simp only [zb01]; done)) only [s_X_mason_0, s_X_mason_1, s_X_mason_4, s_X_mason_7, s_X_mason_8, s_X_mason_9, s_X_mason_12, s_X_mason_13, s_X_mason_14, s_X_mason_44, s_X_mason_45, s_X_mason_48, s_X_mason_49, s_X_mason_52, s_X_mason_55, s_X_mason_56, s_X_mason_57, s_X_mason_60, s_X_mason_61, s_X_mason_64, s_X_mason_67, s_X_mason_68, s_X_mason_69, s_X_mason_72, s_X_mason_73, s_X_mason_76, s_X_mason_79, s_X_mason_80, s_X_mason_81, s_X_mason_84, s_X_mason_87, s_X_mason_88, s_X_mason_91, s_X_mason_92, s_X_mason_93, s_X_mason_95, s_X_mason_98, zlt, zle, zeq, zclamp, zinc, zdec, zdi, zdr, zdl, zdn, zpi, zpn, if_true, if_false, ite_not, Bool.false_eq_true, ne_eq, not_true_eq_false, not_false_eq_true, true_and, and_true, Nat.add_assoc, Nat.reduceAdd]
    exact hQ σ' h
theorem X_stands (hR : RX σ a) (hQ : ∀ σ', RX σ' (c_stands a w).2 → Q (some (.int (c_stands a w).1)) σ') : Ev zshX 115 0 [some (.ref 0), some (.int w)] [] σ Q := by
  have hS : WS σ 2 _ _ _ _ := hR.1.1.2.1
  have hok := hR.1.2.1
  have h12 := hok.1.1
  have hF : Fok _ _ := hok.1.F
  rw [c_stands] at hQ
  by_cases w0 : w = 0
  · subst w0
    rw [if_pos rfl] at hQ
    simp (disch := first | assumption | omega | decide | exact zin_d (by assumption) (by omega) (by omega) | (simp only [zb01]; done)) only [s_X_stands_0, s_X_stands_1, s_X_stands_28, s_X_stands_29, s_X_stands_32, s_X_stands_35, s_X_stands_38, s_X_stands_41, s_X_stands_42, s_X_stands_43, s_X_stands_46, s_X_stands_49, s_X_stands_52, s_X_stands_53, s_X_stands_54, s_X_stands_57, s_X_stands_60, s_X_stands_63, s_X_stands_64, s_X_stands_65, s_X_stands_67, s_X_stands_70, zlt, zle, zeq, zclamp, zinc, zdec, zdi, zdr, zdl, zdn, zpi, zpn, if_true, if_false, ite_not, Bool.false_eq_true, ne_eq, not_true_eq_false, not_false_eq_true, true_and, and_true, Nat.add_assoc, Nat.reduceAdd, zlt, Stones_stand hS, X_oneIf, zift, ziff]
    exact hQ σ hR
  rw [if_neg w0] at hQ
  by_cases w1 : w = 1
  · subst w1
    rw [if_pos rfl] at hQ
    simp (disch := first | assumption | omega | decide | exact zin_d (by assumption) (by omega) (by omega) | (simp only [zb01]; done)) only [s_X_stands_0, s_X_stands_1, s_X_stands_28, s_X_stands_29, s_X_stands_32, s_X_stands_35, s_X_stands_38, s_X_stands_41, s_X_stands_42, s_X_stands_43, s_X_stands_46, s_X_stands_49, s_X_stands_52, s_X_stands_53, s_X_stands_54, s_X_stands_57, s_X_stands_60, s_X_stands_63, s_X_stands_64, s_X_stands_65, s_X_stands_67, s_X_stands_70, zlt, zle, zeq, zclamp, zinc, zdec, zdi, zdr, zdl, zdn, zpi, zpn, if_true, if_false, ite_not, Bool.false_eq_true, ne_eq, not_true_eq_false, not_false_eq_true, true_and, and_true, Nat.add_assoc, Nat.reduceAdd, zlt, Stones_firstBreak hS, zift, ziff]
    exact hQ σ hR
  rw [if_neg w1] at hQ
  by_cases w2 : w = 2
  · subst w2
    rw [if_pos rfl] at hQ
    simp (disch := first | assumption | omega | decide | exact zin_d (by assumption) (by omega) (by omega) | (simp only [zb01]; done)) only [s_X_stands_0, s_X_stands_1, s_X_stands_28, s_X_stands_29, s_X_stands_32, s_X_stands_35, s_X_stands_38, s_X_stands_41, s_X_stands_42, s_X_stands_43, s_X_stands_46, s_X_stands_49, s_X_stands_52, s_X_stands_53, s_X_stands_54, s_X_stands_57, s_X_stands_60, s_X_stands_63, s_X_stands_64, s_X_stands_65, s_X_stands_67, s_X_stands_70, zlt, zle, zeq, zclamp, zinc, zdec, zdi, zdr, zdl, zdn, zpi, zpn, if_true, if_false, ite_not, Bool.false_eq_true, ne_eq, not_true_eq_false, not_false_eq_true, true_and, and_true, Nat.add_assoc, Nat.reduceAdd, zlt, Stones_firstLeaning hS, zift, ziff]
    exact hQ σ hR
  rw [if_neg w2] at hQ
  simp (disch := first | assumption | omega | decide | exact zin_d (by assumption) (by omega) (by omega) | (simp only [zb01]; done)) only [s_X_stands_0, s_X_stands_1, s_X_stands_28, s_X_stands_29, s_X_stands_32, s_X_stands_35, s_X_stands_38, s_X_stands_41, s_X_stands_42, s_X_stands_43, s_X_stands_46, s_X_stands_49, s_X_stands_52, s_X_stands_53, s_X_stands_54, s_X_stands_57, s_X_stands_60, s_X_stands_63, s_X_stands_64, s_X_stands_65, s_X_stands_67, s_X_stands_70, zlt, zle, zeq, zclamp, zinc, zdec, zdi, zdr, zdl, zdn, zpi, zpn, if_true, if_false, ite_not, Bool.false_eq_true, ne_eq, not_true_eq_false, not_false_eq_true, true_and, and_true, Nat.add_assoc, Nat.reduceAdd, zlt, zift, ziff]
  refine X_refuse hR ref2 (fun σ' h => ?_)
  simp (disch := first | assumption | omega | decide | exact zin_d (by assumption) (by omega) (by omega) | (simp only [zb01]; done)) only [s_X_stands_0, s_X_stands_1, s_X_stands_28, s_X_stands_29, s_X_stands_32, s_X_stands_35, s_X_stands_38, s_X_stands_41, s_X_stands_42, s_X_stands_43, s_X_stands_46, s_X_stands_49, s_X_stands_52, s_X_stands_53, s_X_stands_54, s_X_stands_57, s_X_stands_60, s_X_stands_63, s_X_stands_64, s_X_stands_65, s_X_stands_67, s_X_stands_70, zlt, zle, zeq, zclamp, zinc, zdec, zdi, zdr, zdl, zdn, zpi, zpn, if_true, if_false, ite_not, Bool.false_eq_true, ne_eq, not_true_eq_false, not_false_eq_true, true_and, and_true, Nat.add_assoc, Nat.reduceAdd]
  exact hQ σ' h
theorem X_spare (hR : RX σ a) (hQ : ∀ σ', RX σ' (c_spare a w).2 → Q (some (.int (c_spare a w).1)) σ') : Ev zshX 116 0 [some (.ref 0), some (.int w)] [] σ Q := by
  have hS : WS σ 2 _ _ _ _ := hR.1.1.2.1
  have hok := hR.1.2.1
  have h12 := hok.1.1
  have hF : Fok _ _ := hok.1.F
  rw [c_spare] at hQ
  by_cases w0 : w = 0
  · subst w0
    rw [if_pos rfl] at hQ
    simp (disch := first | assumption | omega | decide | exact zin_d (by assumption) (by omega) (by omega) | (simp only [zb01]; done)) only [s_X_spare_0, s_X_spare_1, s_X_spare_28, s_X_spare_29, s_X_spare_32, s_X_spare_35, s_X_spare_38, s_X_spare_39, s_X_spare_40, s_X_spare_43, s_X_spare_46, s_X_spare_49, s_X_spare_50, s_X_spare_51, s_X_spare_53, s_X_spare_56, zlt, zle, zeq, zclamp, zinc, zdec, zdi, zdr, zdl, zdn, zpi, zpn, if_true, if_false, ite_not, Bool.false_eq_true, ne_eq, not_true_eq_false, not_false_eq_true, true_and, and_true, Nat.add_assoc, Nat.reduceAdd, zlt, Stones_leastSpare hS, zift, ziff]
    exact hQ σ hR
  rw [if_neg w0] at hQ
  by_cases w1 : w = 1
  · subst w1
    rw [if_pos rfl] at hQ
    simp (disch := first | assumption | omega | decide | exact zin_d (by assumption) (by omega) (by omega) | (simp only [zb01]; done)) only [s_X_spare_0, s_X_spare_1, s_X_spare_28, s_X_spare_29, s_X_spare_32, s_X_spare_35, s_X_spare_38, s_X_spare_39, s_X_spare_40, s_X_spare_43, s_X_spare_46, s_X_spare_49, s_X_spare_50, s_X_spare_51, s_X_spare_53, s_X_spare_56, zlt, zle, zeq, zclamp, zinc, zdec, zdi, zdr, zdl, zdn, zpi, zpn, if_true, if_false, ite_not, Bool.false_eq_true, ne_eq, not_true_eq_false, not_false_eq_true, true_and, and_true, Nat.add_assoc, Nat.reduceAdd, zlt, Stones_weakestJoint hS, zift, ziff]
    exact hQ σ hR
  rw [if_neg w1] at hQ
  simp (disch := first | assumption | omega | decide | exact zin_d (by assumption) (by omega) (by omega) | (simp only [zb01]; done)) only [s_X_spare_0, s_X_spare_1, s_X_spare_28, s_X_spare_29, s_X_spare_32, s_X_spare_35, s_X_spare_38, s_X_spare_39, s_X_spare_40, s_X_spare_43, s_X_spare_46, s_X_spare_49, s_X_spare_50, s_X_spare_51, s_X_spare_53, s_X_spare_56, zlt, zle, zeq, zclamp, zinc, zdec, zdi, zdr, zdl, zdn, zpi, zpn, if_true, if_false, ite_not, Bool.false_eq_true, ne_eq, not_true_eq_false, not_false_eq_true, true_and, and_true, Nat.add_assoc, Nat.reduceAdd, zlt, zift, ziff]
  refine X_refuseFar hR ref2 (fun σ' h => ?_)
  simp (disch := first | assumption | omega | decide | exact zin_d (by assumption) (by omega) (by omega) | (simp only [zb01]; done)) only [s_X_spare_0, s_X_spare_1, s_X_spare_28, s_X_spare_29, s_X_spare_32, s_X_spare_35, s_X_spare_38, s_X_spare_39, s_X_spare_40, s_X_spare_43, s_X_spare_46, s_X_spare_49, s_X_spare_50, s_X_spare_51, s_X_spare_53, s_X_spare_56, zlt, zle, zeq, zclamp, zinc, zdec, zdi, zdr, zdl, zdn, zpi, zpn, if_true, if_false, ite_not, Bool.false_eq_true, ne_eq, not_true_eq_false, not_false_eq_true, true_and, and_true, Nat.add_assoc, Nat.reduceAdd]
  exact hQ σ' h
theorem X_lean (hR : RX σ a) (hQ : ∀ σ', RX σ' (c_lean a w).2 → Q (some (.int (c_lean a w).1)) σ') : Ev zshX 117 0 [some (.ref 0), some (.int w)] [] σ Q := by
  have hS : WS σ 2 _ _ _ _ := hR.1.1.2.1
  have hok := hR.1.2.1
  have h12 := hok.1.1
  have hF : Fok _ _ := hok.1.F
  rw [c_lean] at hQ
  by_cases w0 : w = 0
  · subst w0
    rw [if_pos rfl] at hQ
    simp (disch := first | assumption | omega | decide | exact zin_d (by assumption) (by omega) (by omega) | (simp only [zb01]; done)) only [s_X_lean_0, s_X_lean_1, s_X_lean_28, s_X_lean_29, s_X_lean_32, s_X_lean_35, s_X_lean_38, s_X_lean_39, s_X_lean_40, s_X_lean_43, s_X_lean_46, s_X_lean_49, s_X_lean_50, s_X_lean_51, s_X_lean_53, s_X_lean_56, zlt, zle, zeq, zclamp, zinc, zdec, zdi, zdr, zdl, zdn, zpi, zpn, if_true, if_false, ite_not, Bool.false_eq_true, ne_eq, not_true_eq_false, not_false_eq_true, true_and, and_true, Nat.add_assoc, Nat.reduceAdd, zlt, Stones_leanAtEnd hS, zift, ziff]
    exact hQ σ hR
  rw [if_neg w0] at hQ
  by_cases w1 : w = 1
  · subst w1
    rw [if_pos rfl] at hQ
    simp (disch := first | assumption | omega | decide | exact zin_d (by assumption) (by omega) (by omega) | (simp only [zb01]; done)) only [s_X_lean_0, s_X_lean_1, s_X_lean_28, s_X_lean_29, s_X_lean_32, s_X_lean_35, s_X_lean_38, s_X_lean_39, s_X_lean_40, s_X_lean_43, s_X_lean_46, s_X_lean_49, s_X_lean_50, s_X_lean_51, s_X_lean_53, s_X_lean_56, zlt, zle, zeq, zclamp, zinc, zdec, zdi, zdr, zdl, zdn, zpi, zpn, if_true, if_false, ite_not, Bool.false_eq_true, ne_eq, not_true_eq_false, not_false_eq_true, true_and, and_true, Nat.add_assoc, Nat.reduceAdd, zlt, Stones_farthestLean hS, zift, ziff]
    exact hQ σ hR
  rw [if_neg w1] at hQ
  simp (disch := first | assumption | omega | decide | exact zin_d (by assumption) (by omega) (by omega) | (simp only [zb01]; done)) only [s_X_lean_0, s_X_lean_1, s_X_lean_28, s_X_lean_29, s_X_lean_32, s_X_lean_35, s_X_lean_38, s_X_lean_39, s_X_lean_40, s_X_lean_43, s_X_lean_46, s_X_lean_49, s_X_lean_50, s_X_lean_51, s_X_lean_53, s_X_lean_56, zlt, zle, zeq, zclamp, zinc, zdec, zdi, zdr, zdl, zdn, zpi, zpn, if_true, if_false, ite_not, Bool.false_eq_true, ne_eq, not_true_eq_false, not_false_eq_true, true_and, and_true, Nat.add_assoc, Nat.reduceAdd, zlt, zift, ziff]
  refine X_refuseFar hR ref2 (fun σ' h => ?_)
  simp (disch := first | assumption | omega | decide | exact zin_d (by assumption) (by omega) (by omega) | (simp only [zb01]; done)) only [s_X_lean_0, s_X_lean_1, s_X_lean_28, s_X_lean_29, s_X_lean_32, s_X_lean_35, s_X_lean_38, s_X_lean_39, s_X_lean_40, s_X_lean_43, s_X_lean_46, s_X_lean_49, s_X_lean_50, s_X_lean_51, s_X_lean_53, s_X_lean_56, zlt, zle, zeq, zclamp, zinc, zdec, zdi, zdr, zdl, zdn, zpi, zpn, if_true, if_false, ite_not, Bool.false_eq_true, ne_eq, not_true_eq_false, not_false_eq_true, true_and, and_true, Nat.add_assoc, Nat.reduceAdd]
  exact hQ σ' h
theorem X_runs (hR : RX σ a) (hQ : ∀ σ', RX σ' (c_runs a w).2 → Q (some (.int (c_runs a w).1)) σ') : Ev zshX 125 0 [some (.ref 0), some (.int w)] [] σ Q := by
  have hS : WS σ 2 _ _ _ _ := hR.1.1.2.1
  have hok := hR.1.2.1
  have h12 := hok.1.1
  have hF : Fok _ _ := hok.1.F
  rw [c_runs] at hQ
  by_cases w0 : w = 0
  · subst w0
    rw [if_pos rfl] at hQ
    simp (disch := first | assumption | omega | decide | exact zin_d (by assumption) (by omega) (by omega) | (simp only [zb01]; done)) only [s_X_runs_0, s_X_runs_1, s_X_runs_28, s_X_runs_29, s_X_runs_32, s_X_runs_35, s_X_runs_38, s_X_runs_39, s_X_runs_40, s_X_runs_43, s_X_runs_46, s_X_runs_49, s_X_runs_50, s_X_runs_51, s_X_runs_54, s_X_runs_57, s_X_runs_60, s_X_runs_61, s_X_runs_62, s_X_runs_64, s_X_runs_67, zlt, zle, zeq, zclamp, zinc, zdec, zdi, zdr, zdl, zdn, zpi, zpn, if_true, if_false, ite_not, Bool.false_eq_true, ne_eq, not_true_eq_false, not_false_eq_true, true_and, and_true, Nat.add_assoc, Nat.reduceAdd, zlt, Stones_runsOfOne hS, zift, ziff]
    exact hQ σ hR
  rw [if_neg w0] at hQ
  by_cases w1 : w = 1
  · subst w1
    rw [if_pos rfl] at hQ
    simp (disch := first | assumption | omega | decide | exact zin_d (by assumption) (by omega) (by omega) | (simp only [zb01]; done)) only [s_X_runs_0, s_X_runs_1, s_X_runs_28, s_X_runs_29, s_X_runs_32, s_X_runs_35, s_X_runs_38, s_X_runs_39, s_X_runs_40, s_X_runs_43, s_X_runs_46, s_X_runs_49, s_X_runs_50, s_X_runs_51, s_X_runs_54, s_X_runs_57, s_X_runs_60, s_X_runs_61, s_X_runs_62, s_X_runs_64, s_X_runs_67, zlt, zle, zeq, zclamp, zinc, zdec, zdi, zdr, zdl, zdn, zpi, zpn, if_true, if_false, ite_not, Bool.false_eq_true, ne_eq, not_true_eq_false, not_false_eq_true, true_and, and_true, Nat.add_assoc, Nat.reduceAdd, zlt, Stones_longestRun hS, zift, ziff]
    exact hQ σ hR
  rw [if_neg w1] at hQ
  by_cases w2 : w = 2
  · subst w2
    rw [if_pos rfl] at hQ
    simp (disch := first | assumption | omega | decide | exact zin_d (by assumption) (by omega) (by omega) | (simp only [zb01]; done)) only [s_X_runs_0, s_X_runs_1, s_X_runs_28, s_X_runs_29, s_X_runs_32, s_X_runs_35, s_X_runs_38, s_X_runs_39, s_X_runs_40, s_X_runs_43, s_X_runs_46, s_X_runs_49, s_X_runs_50, s_X_runs_51, s_X_runs_54, s_X_runs_57, s_X_runs_60, s_X_runs_61, s_X_runs_62, s_X_runs_64, s_X_runs_67, zlt, zle, zeq, zclamp, zinc, zdec, zdi, zdr, zdl, zdn, zpi, zpn, if_true, if_false, ite_not, Bool.false_eq_true, ne_eq, not_true_eq_false, not_false_eq_true, true_and, and_true, Nat.add_assoc, Nat.reduceAdd, zlt, Stones_agreedJoints hS, zift, ziff]
    exact hQ σ hR
  rw [if_neg w2] at hQ
  simp (disch := first | assumption | omega | decide | exact zin_d (by assumption) (by omega) (by omega) | (simp only [zb01]; done)) only [s_X_runs_0, s_X_runs_1, s_X_runs_28, s_X_runs_29, s_X_runs_32, s_X_runs_35, s_X_runs_38, s_X_runs_39, s_X_runs_40, s_X_runs_43, s_X_runs_46, s_X_runs_49, s_X_runs_50, s_X_runs_51, s_X_runs_54, s_X_runs_57, s_X_runs_60, s_X_runs_61, s_X_runs_62, s_X_runs_64, s_X_runs_67, zlt, zle, zeq, zclamp, zinc, zdec, zdi, zdr, zdl, zdn, zpi, zpn, if_true, if_false, ite_not, Bool.false_eq_true, ne_eq, not_true_eq_false, not_false_eq_true, true_and, and_true, Nat.add_assoc, Nat.reduceAdd, zlt, zift, ziff]
  refine X_refuse hR ref2 (fun σ' h => ?_)
  simp (disch := first | assumption | omega | decide | exact zin_d (by assumption) (by omega) (by omega) | (simp only [zb01]; done)) only [s_X_runs_0, s_X_runs_1, s_X_runs_28, s_X_runs_29, s_X_runs_32, s_X_runs_35, s_X_runs_38, s_X_runs_39, s_X_runs_40, s_X_runs_43, s_X_runs_46, s_X_runs_49, s_X_runs_50, s_X_runs_51, s_X_runs_54, s_X_runs_57, s_X_runs_60, s_X_runs_61, s_X_runs_62, s_X_runs_64, s_X_runs_67, zlt, zle, zeq, zclamp, zinc, zdec, zdi, zdr, zdl, zdn, zpi, zpn, if_true, if_false, ite_not, Bool.false_eq_true, ne_eq, not_true_eq_false, not_false_eq_true, true_and, and_true, Nat.add_assoc, Nat.reduceAdd]
  exact hQ σ' h
theorem X_kinds (hR : RX σ a) (hQ : ∀ σ', RX σ' (c_kinds a m).2 → Q (some (.int (c_kinds a m).1)) σ') : Ev zshX 126 0 [some (.ref 0), some (.int m)] [] σ Q := by
  have hS : WS σ 2 _ _ _ _ := hR.1.1.2.1
  have hok := hR.1.2.1
  have h12 := hok.1.1
  have hF : Fok _ _ := hok.1.F
  rw [c_kinds] at hQ
  by_cases h : m = 0 ∨ m = 1
  · rw [if_pos h] at hQ
    simp (disch := first | assumption | omega | decide | exact zin_d (by assumption) (by omega) (by omega) | (simp only [zb01]; done)) only [s_X_kinds_0, s_X_kinds_1, s_X_kinds_4, s_X_kinds_7, s_X_kinds_8, s_X_kinds_9, s_X_kinds_12, s_X_kinds_13, s_X_kinds_14, s_X_kinds_17, s_X_kinds_20, s_X_kinds_21, s_X_kinds_24, zlt, zle, zeq, zclamp, zinc, zdec, zdi, zdr, zdl, zdn, zpi, zpn, if_true, if_false, ite_not, Bool.false_eq_true, ne_eq, not_true_eq_false, not_false_eq_true, true_and, and_true, Nat.add_assoc, Nat.reduceAdd, X_isMason, Stones_kindBitsOf hS, zift, ziff]
    exact hQ σ hR
  · rw [if_neg h] at hQ
    simp (disch := first | assumption | omega | decide | exact zin_d (by assumption) (by omega) (by omega) | (simp only [zb01]; done)) only [s_X_kinds_0, s_X_kinds_1, s_X_kinds_4, s_X_kinds_7, s_X_kinds_8, s_X_kinds_9, s_X_kinds_12, s_X_kinds_13, s_X_kinds_14, s_X_kinds_17, s_X_kinds_20, s_X_kinds_21, s_X_kinds_24, zlt, zle, zeq, zclamp, zinc, zdec, zdi, zdr, zdl, zdn, zpi, zpn, if_true, if_false, ite_not, Bool.false_eq_true, ne_eq, not_true_eq_false, not_false_eq_true, true_and, and_true, Nat.add_assoc, Nat.reduceAdd, X_isMason, zift, ziff]
    refine X_refuse hR ref1 (fun σ' h => ?_)
    simp (disch := first | assumption | omega | decide | exact zin_d (by assumption) (by omega) (by omega) | (simp only [zb01]; done)) only [s_X_kinds_0, s_X_kinds_1, s_X_kinds_4, s_X_kinds_7, s_X_kinds_8, s_X_kinds_9, s_X_kinds_12, s_X_kinds_13, s_X_kinds_14, s_X_kinds_17, s_X_kinds_20, s_X_kinds_21, s_X_kinds_24, zlt, zle, zeq, zclamp, zinc, zdec, zdi, zdr, zdl, zdn, zpi, zpn, if_true, if_false, ite_not, Bool.false_eq_true, ne_eq, not_true_eq_false, not_false_eq_true, true_and, and_true, Nat.add_assoc, Nat.reduceAdd]
    exact hQ σ' h
theorem X_keystone (hR : RX σ a) (hQ : ∀ σ', RX σ' (c_keystone a).2 → Q (some (.int (c_keystone a).1)) σ') : Ev zshX 127 0 [some (.ref 0)] [] σ Q := by
  have hS : WS σ 2 _ _ _ _ := hR.1.1.2.1
  have hok := hR.1.2.1
  have h12 := hok.1.1
  have hF : Fok _ _ := hok.1.F
  simp (disch := first | assumption | omega | decide | exact zin_d (by assumption) (by omega) (by omega) | (simp only [zb01]; done)) only [s_X_keystone_0, s_X_keystone_1, s_X_keystone_4, s_X_keystone_7, s_X_keystone_10, zlt, zle, zeq, zclamp, zinc, zdec, zdi, zdr, zdl, zdn, zpi, zpn, if_true, if_false, ite_not, Bool.false_eq_true, ne_eq, not_true_eq_false, not_false_eq_true, true_and, and_true, Nat.add_assoc, Nat.reduceAdd, Stones_strongest hS]
  exact hQ σ hR
theorem X_mortar (hR : RX σ a) (hQ : ∀ σ', RX σ' (c_mortar a).2 → Q (some (.int (c_mortar a).1)) σ') : Ev zshX 128 0 [some (.ref 0)] [] σ Q := by
  have hS : WS σ 2 _ _ _ _ := hR.1.1.2.1
  have hok := hR.1.2.1
  have h12 := hok.1.1
  have hF : Fok _ _ := hok.1.F
  simp (disch := first | assumption | omega | decide | exact zin_d (by assumption) (by omega) (by omega) | (simp only [zb01]; done)) only [s_X_mortar_0, s_X_mortar_1, s_X_mortar_4, s_X_mortar_7, s_X_mortar_10, zlt, zle, zeq, zclamp, zinc, zdec, zdi, zdr, zdl, zdn, zpi, zpn, if_true, if_false, ite_not, Bool.false_eq_true, ne_eq, not_true_eq_false, not_false_eq_true, true_and, and_true, Nat.add_assoc, Nat.reduceAdd, Stones_lackOfAll hS hF]
  exact hQ σ hR
end
