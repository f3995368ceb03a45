/-- a mason's object -/
def WMa (σ : zG) (a : Nat) (t : Int32 × Int32 × Int32) : Prop := zshX a = 4 ∧ σ a 0 = t.1 ∧ σ a 1 = t.2.1 ∧ σ a 2 = t.2.2
/-- what a bridge is -/
def isB (b : Nat) : Prop := zshX b = 0 ∧ isS (b + 1) ∧ zshX (b + 5) = 4 ∧ zshX (b + 6) = 4
def WB (σ : zG) (b : Nat) (β : Bt) : Prop := zshX b = 0 ∧ WS σ (b + 1) β.1.1 β.1.2.1 β.1.2.2.1 β.1.2.2.2 ∧ WMa σ (b + 5) β.2.1 ∧ WMa σ (b + 6) β.2.2.1 ∧ σ b 3 = β.2.2.2.1 ∧ σ b 4 = β.2.2.2.2
theorem WS.keep {σ σ' : zG} {s n : Nat} {K F L : SF} (h : WS σ s n K F L) (hk : ∀ a, s ≤ a → a < s + 4 → σ' a = σ a) : WS σ' s n K F L := by
  obtain ⟨h1, h2, h3, h4⟩ := h
  refine ⟨h1, h2, by rw [hk s (by omega) (by omega)]; exact h3, fun i hi => ?_⟩
  rw [hk (s + 1) (by omega) (by omega), hk (s + 2) (by omega) (by omega), hk (s + 3) (by omega) (by omega)]
  exact h4 i hi
theorem WMa.keep {σ σ' : zG} {a : Nat} {t : Int32 × Int32 × Int32} (h : WMa σ a t) (hk : σ' a = σ a) : WMa σ' a t := by
  obtain ⟨h1, h2⟩ := h
  rw [← hk] at h2
  exact ⟨h1, h2⟩
theorem WB.keep {σ σ' : zG} {b : Nat} {β : Bt} (h : WB σ b β) (hk : ∀ a, b ≤ a → a < b + 7 → σ' a = σ a) : WB σ' b β := by
  obtain ⟨h1, h2, h3, h4, h5, h6⟩ := h
  refine ⟨h1, h2.keep (fun a g1 g2 => hk a (by omega) (by omega)), h3.keep (hk _ (by omega) (by omega)), h4.keep (hk _ (by omega) (by omega)), ?_, ?_⟩
  · rw [hk b (by omega) (by omega)]; exact h5
  · rw [hk b (by omega) (by omega)]; exact h6
theorem WB.is {σ : zG} {b : Nat} {β : Bt} (h : WB σ b β) : isB b := ⟨h.1, h.2.1.1, h.2.2.1.1, h.2.2.2.1.1⟩
theorem frS_B {b : Nat} {σ σ' : zG} (h : frS (b + 1) σ σ') : frB b σ σ' := fun a ha => h a (by omega)
theorem frB.rf {b : Nat} {σ : zG} : frB b σ σ := fun _ _ => rfl
theorem frB.tr {b : Nat} {σ σ1 σ2 : zG} (h : frB b σ σ1) (h' : frB b σ1 σ2) : frB b σ σ2 := fun a ha => (h' a ha).trans (h a ha)
theorem frS.rf {b : Nat} {σ : zG} : frS b σ σ := fun _ _ => rfl
theorem frS.tr {b : Nat} {σ σ1 σ2 : zG} (h : frS b σ σ1) (h' : frS b σ1 σ2) : frS b σ σ2 := fun a ha => (h' a ha).trans (h a ha)
section
variable {b o : Nat} {σ : zG} {Q : Option Value → zG → Prop} {i : Nat} {x : Int32} {β : Bt} {k f m : Int32} {t : Int32 × Int32 × Int32}
theorem Mason_become {a : Nat} (ha : zshX a = 4) (hW : WMa σ b t) (hd : a ≠ b) (hQ : ∀ σ', WMa σ' a t → (∀ c, c ≠ a → σ' c = σ c) → Q none σ') : Ev zshX 44 0 [some (.ref a), some (.ref b)] [] σ Q := by
  obtain ⟨h1, h2, h3, h4⟩ := hW
  simp (disch := first | assumption | omega | decide | exact zin_d (by assumption) (by omega) (by omega) | (simp only [zb01]; done)) only [s_Mason_become_0, s_Mason_become_1, s_Mason_become_2, s_Mason_become_5, s_Mason_become_8, s_Mason_become_9, s_Mason_become_10, s_Mason_become_13, s_Mason_become_16, s_Mason_become_17, s_Mason_become_18, s_Mason_become_21, s_Mason_become_24, zlt, zle, zeq, zclamp, zinc, zdec, zdi, zdr, zdl, zdn, zpi, zpn, if_true, if_false, ite_not, Bool.false_eq_true, ne_eq, not_true_eq_false, not_false_eq_true, true_and, and_true, Nat.add_assoc, Nat.reduceAdd, zup_ne, zup_self, pk_us, pk_un]
  refine hQ _ ⟨ha, ?_, ?_, ?_⟩ (fun c hc => ?_)
  · simp (disch := first | assumption | omega | decide | exact zin_d (by assumption) (by omega) (by omega) | (simp only [zb01]; done)) only [zup_ne, zup_self, pk_us, pk_un, h2]
  · simp (disch := first | assumption | omega | decide | exact zin_d (by assumption) (by omega) (by omega) | (simp only [zb01]; done)) only [zup_ne, zup_self, pk_us, pk_un, h3]
  · simp (disch := first | assumption | omega | decide | exact zin_d (by assumption) (by omega) (by omega) | (simp only [zb01]; done)) only [zup_ne, zup_self, pk_us, pk_un, h4]
  · simp (disch := first | assumption | omega | decide | exact zin_d (by assumption) (by omega) (by omega) | (simp only [zb01]; done)) only [zup_ne, zup_self, pk_us, pk_un]
theorem Bridge_masonOf (h0 : zshX b = 0) : Ev zshX 1 0 [some (.ref b), some (.int m)] [] σ Q = Q (some (.ref (if m = 1 then b + 6 else b + 5))) σ := by
  by_cases h : m = 1 <;> simp (disch := first | assumption | omega | decide | exact zin_d (by assumption) (by omega) (by omega) | (simp only [zb01]; done)) only [s_Bridge_masonOf_0, s_Bridge_masonOf_1, s_Bridge_masonOf_2, s_Bridge_masonOf_5, s_Bridge_masonOf_6, s_Bridge_masonOf_9, s_Bridge_masonOf_12, s_Bridge_masonOf_13, s_Bridge_masonOf_16, zlt, zle, zeq, zclamp, zinc, zdec, zdi, zdr, zdl, zdn, zpi, zpn, if_true, if_false, ite_not, Bool.false_eq_true, ne_eq, not_true_eq_false, not_false_eq_true, true_and, and_true, Nat.add_assoc, Nat.reduceAdd, zift, ziff]
theorem Bridge_hasTimeFor (h0 : zshX b = 0) {d v : Nat} (hd : σ b 4 = nI d) (hd9 : d ≤ 999) (hv : v ≤ 999) : Ev zshX 2 0 [some (.ref b), some (.int (nI v))] [] σ Q = Q (some (.int (if d + v ≤ 999 then 1 else 0))) σ := by
  have e : (999 : Int32) - nI d = nI (999 - d) := pk_sub (a := 999) hd9
  by_cases h : d + v ≤ 999
  · have h' : ¬ 999 - d < v := by omega
    simp (disch := first | assumption | omega | decide | exact zin_d (by assumption) (by omega) (by omega) | (simp only [zb01]; done)) only [s_Bridge_hasTimeFor_0, s_Bridge_hasTimeFor_1, s_Bridge_hasTimeFor_4, s_Bridge_hasTimeFor_5, s_Bridge_hasTimeFor_8, s_Bridge_hasTimeFor_9, s_Bridge_hasTimeFor_12, s_Bridge_hasTimeFor_13, s_Bridge_hasTimeFor_16, s_Bridge_hasTimeFor_17, zlt, zle, zeq, zclamp, zinc, zdec, zdi, zdr, zdl, zdn, zpi, zpn, if_true, if_false, ite_not, Bool.false_eq_true, ne_eq, not_true_eq_false, not_false_eq_true, true_and, and_true, Nat.add_assoc, Nat.reduceAdd, hd, e, h', h, zift, ziff]
  · have h' : 999 - d < v := by omega
    simp (disch := first | assumption | omega | decide | exact zin_d (by assumption) (by omega) (by omega) | (simp only [zb01]; done)) only [s_Bridge_hasTimeFor_0, s_Bridge_hasTimeFor_1, s_Bridge_hasTimeFor_4, s_Bridge_hasTimeFor_5, s_Bridge_hasTimeFor_8, s_Bridge_hasTimeFor_9, s_Bridge_hasTimeFor_12, s_Bridge_hasTimeFor_13, s_Bridge_hasTimeFor_16, s_Bridge_hasTimeFor_17, zlt, zle, zeq, zclamp, zinc, zdec, zdi, zdr, zdl, zdn, zpi, zpn, if_true, if_false, ite_not, Bool.false_eq_true, ne_eq, not_true_eq_false, not_false_eq_true, true_and, and_true, Nat.add_assoc, Nat.reduceAdd, hd, e, h', h, zift, ziff]
end
