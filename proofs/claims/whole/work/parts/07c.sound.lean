/-! WHAT THE SMALL MACHINE ANSWERS, THE MACHINE ANSWERS: a contract for every method. -/
section
variable {l : Launch} {D : va_G} {cI : ClassId} {ad : Nat → Nat} {fv : Value} {sh : Nat → Nat} {N : Nat}
/-- all contracts of the runs of at most n steps -/
def zMets (l : Launch) (D : va_G) (cI : ClassId) (ad : Nat → Nat) (fv : Value) (sh : Nat → Nat) (N n : Nat) : Prop :=
  ∀ (m own : Nat) (y : MethodName) (cc : ByteArray) (maxL : Nat) (ret : Option FieldType) (fr lo np : Nat) (stat : Bool) (tb : List (Nat × Instr × Nat)) (as : List Value) (σ : zG) (r : Option Value) (σ' : zG),
    zMs[m]? = some (own, y, cc, maxL, ret, fr, lo, np, stat, tb) → (zarg as).length ≤ maxL → zrun sh n m 0 (zpad maxL (zarg as)) [] σ = some (r, σ') →
    Met l y (Jvm.Cond.code y cc maxL ret :: zWL) (zrm fr lo) (zPre D cI ad fv sh N as σ) (zPost D cI ad fv sh N r σ') 0 0 (zAd ad N)
theorem zwalk (hfv : fv.category = 1) (hN : ∀ i, sh i ≠ 99 → i < N ∧ (sh i < 10 ∨ 100 ≤ sh i)) (hinj : ∀ a b, a < N → b < N → ad a = ad b → a = b)
    {m own : Nat} {y : MethodName} {cc : ByteArray} {maxL : Nat} {ret : Option FieldType} {fr lo np : Nat} {stat : Bool} {tb : List (Nat × Instr × Nat)} (hm : zMs[m]? = some (own, y, cc, maxL, ret, fr, lo, np, stat, tb))
    {p : Program} {e : Env} {s : State} {mm : MethodId} {args : Array Value} {below : List Frame} {meth : Method} {c : Code}
    (hx : p.tables.exec = Jvm.exec) (hb : c.code = cc) (hml : c.maxLocals = maxL) (hown : s.vm.findClass (zOwn own) = some mm.cls) (hts : ∀ w ∈ Jvm.Cond.code y cc maxL ret :: zWL, w.before args s = true) (hr : meth.sig.returnType = ret) (hlocks : meth.locks = false)
    (hK : va_K D vwCl [(cI, .int)] s) (h0 : zK0 ad fv (zAd ad N) s s.heap) {rF : Option Value} {σF : zG} :
    ∀ (n : Nat), (∀ k, k < n → zMets l D cI ad fv sh N k) → ∀ (pc : Nat) (lv : zL) (st : List Value) (σ : zG), zrun sh n m pc lv st σ = some (rF, σF) → ∀ (H : Heap) (locs : List Loc) (ls : Array Slot), va_P D vwCl (zW cI ad sh N σ) H → va_S (zAd ad N) s.heap H locs → zLV (zv ad fv) ls maxL lv →
      W p l e (zrm fr lo) s mm args below meth c H locs 0 0 (MQ below (zPost D cI ad fv sh N rF σF) args s 0 0 (zAd ad N)) (F0 mm pc ls (st.map (zv ad fv))) := by
  intro n
  induction n with
  | zero => intro _ pc lv st σ h; cases h
  | succ n ih =>
    intro hM pc lv st σ h H locs ls hP hS hl
    have ih2 := ih (fun k hk => hM k (by omega))
    rw [zrun] at h
    cases ha : zact sh m pc lv st σ with
    | none => rw [ha] at h; cases h
    | some a =>
      rw [ha] at h
      refine zstep hfv hN hinj hm hx hb hml hown hts hr hlocks hK h0 ha hP hS hl ?_ ?_ ?_
      · intro pc' lv' st' σ' ea H1 locs1 ls1 hP1 hS1 hl1
        subst ea
        exact ih2 _ _ _ _ h H1 locs1 ls1 hP1 hS1 hl1
      · intro r σ' ea
        subst ea
        cases h
        exact ⟨rfl, rfl⟩
      · intro cm lc pc' rest ea
        subst ea
        dsimp only at h
        cases hc : zrun sh n cm 0 lc [] σ with
        | none => rw [hc] at h; cases h
        | some u =>
          rw [hc] at h
          obtain ⟨r1, σ1⟩ := u
          dsimp only at h
          refine ⟨r1, σ1, ?_, ?_⟩
          · intro own' y' cc' maxL' ret' fr' lo' np' stat' tb' as hm' hlc hlen
            rw [hlc] at hc
            exact hM n (Nat.lt_succ_self n) cm own' y' cc' maxL' ret' fr' lo' np' stat' tb' as σ r1 σ1 hm' hlen hc
          · intro H1 locs1 hP1 hS1
            exact ih2 _ _ _ _ h H1 locs1 ls hP1 hS1 hl
theorem zMets_all (hfv : fv.category = 1) (hN : ∀ i, sh i ≠ 99 → i < N ∧ (sh i < 10 ∨ 100 ≤ sh i)) (hinj : ∀ a b, a < N → b < N → ad a = ad b → a = b) : ∀ n, zMets l D cI ad fv sh N n := by
  intro n
  induction n using Nat.strongRecOn with
  | ind n ih =>
    intro m own y cc maxL ret fr lo np stat tb as σ r σ' hm hlen hrun
    obtain ⟨-, -, -, hcls, hplain, -, -, -⟩ := zMs_ok _ (List.mem_of_getElem? hm)
    refine Met.ofW (cc := cc) (maxL := maxL) (ret := ret) hplain rfl ?_
    intro p e s mm args below meth c s₁ B hml hv
    obtain ⟨rfl, hP, hK, h0⟩ := hv
    have hts := atoms_spec (ws := Jvm.Cond.code y cc maxL ret :: zWL) B.pre
    have hown : s.vm.findClass (zOwn own) = some mm.cls := by rw [← hcls]; exact findClass_of_methodNamed B.named
    rw [lg_entry_eq]
    exact zwalk hfv hN hinj hm B.exec B.bytes hml hown hts B.returns B.notSynchronized hK h0 n ih 0 _ [] σ hrun s.heap [] _ hP va_S.rf (zentry_LV (zv_cat hfv) hlen)
/-- the contract of a method whose run is known -/
theorem zMet (hfv : fv.category = 1) (hN : ∀ i, sh i ≠ 99 → i < N ∧ (sh i < 10 ∨ 100 ≤ sh i)) (hinj : ∀ a b, a < N → b < N → ad a = ad b → a = b) {m own : Nat} {y : MethodName} {cc : ByteArray} {maxL : Nat} {ret : Option FieldType} {fr lo np : Nat} {stat : Bool} {tb : List (Nat × Instr × Nat)} {as : List Value} {σ : zG} {Q : Option Value → zG → Prop}
    (hm : zMs[m]? = some (own, y, cc, maxL, ret, fr, lo, np, stat, tb)) (hlen : (zarg as).length ≤ maxL) (h : Ev sh m 0 (zpad maxL (zarg as)) [] σ Q) :
    ∃ (r : Option Value) (σ' : zG), Q r σ' ∧ Met l y (Jvm.Cond.code y cc maxL ret :: zWL) (zrm fr lo) (zPre D cI ad fv sh N as σ) (zPost D cI ad fv sh N r σ') 0 0 (zAd ad N) := by
  obtain ⟨n, r, σ', hr, hq⟩ := h
  exact ⟨r, σ', hq, zMets_all hfv hN hinj n m own y cc maxL ret fr lo np stat tb as σ r σ' hm hlen hr⟩
end
