def zcPre (D : va_G) (cI : ClassId) (as : List Value) (sz : Nat) (w0 : Nat × va_E) : Array Value → State → Prop := va_Pc as (fun U => U.heap.size = sz ∧ va_P D vwCl [w0] U.heap ∧ va_K D vwCl [(cI, .int)] U ∧ va_D (fun _ => True) [w0] ∧ ∀ w ∈ zNL, va_Nw w U)
abbrev zcPost (D : va_G) (A : Nat → Prop) (B : va_W → Prop) : Array Value → State → Outcome → State → Prop := va_Qv (fun ws : va_W => B ws) (fun ws t => va_P D vwCl ws t.heap ∧ va_D A ws) A
theorem zcPre_blind {D : va_G} {cI : ClassId} {as : List Value} {sz : Nat} {w0 : Nat × va_E} : FrameBlind (zcPre D cI as sz w0) := by
  intro a U g mk h
  obtain ⟨h1, h2, h3, h4, h5, h6⟩ := h
  exact ⟨h1, h2, h3, va_K.moved (u := U) (U := U.calling g mk a) (Vm.Alike.refl U.vm) h4, h5, fun w hw => zNL_same (u := U) (U := U.calling g mk a) rfl hw (h6 w hw)⟩
theorem zGIc {q q' : Jvm.Cond} (h : q' ∈ zWL) : GoodIn (q :: zWL) (q' :: zWL) := zGI (List.forall_mem_cons.mpr ⟨h, fun _ h => h⟩)
theorem zRA_eq {U : State} {cA cB : ClassId} (h : va_RA U cA .int) (h' : va_RA U cB .int) : cA = cB := Option.some.inj (Eq.trans (Eq.symm h) h')
theorem zc_newa {p : Program} {l : Launch} {e : Env} {R : Room} {s : State} {m : MethodId} {args : Array Value} {below : List Frame} {meth : Method} {c : Code} {H : Heap} {locs : List Loc} {cells slots : Nat} {Q : State → Prop} {cc : ByteArray} {pc : Nat} {ls : Array Slot} {rest : List Value} {D : va_G} {A : Nat → Prop} {cI : ClassId} {ws : va_W} {H0 : Heap} (hx : p.tables.exec = Jvm.exec) (hb : c.code = cc) (harr : (Jvm.Cond.arrayClass .int).before args s = true) (hK : va_K D vwCl [(cI, .int)] s) (hP : va_P D vwCl ws H) (hD : va_D A ws) (hS : va_S A H0 H locs) (hA : ∀ q : Nat, H0.size ≤ q → A q) {n : Int32} {N' : Nat} (hn : ¬ n < 0) (hN : n.toNatClampNeg = N') (hbytes : N' * componentBytes .int ≤ 536870912) (hcells : cells + 1 ≤ R.cells) (hslots : slots + N' ≤ R.slots) (hdg : decode cc pc = .ok (.newarray .int, 2))
    (kk : ∀ (q : Nat) (H1 : Heap), va_P D vwCl (ws ++ [(q, .inl (cI, N', .inl (fun _ => 0)))]) H1 → va_D A (ws ++ [(q, .inl (cI, N', .inl (fun _ => 0)))]) → va_S A H0 H1 locs → W p l e R s m args below meth c H1 locs (cells + 1) (slots + N') Q (F0 m (pc + 2) ls (.ref q :: rest))) : W p l e R s m args below meth c H locs cells slots Q (F0 m pc ls (.int n :: rest)) := by
  refine va_newa (atype := .int) (a0 := (N', .inl (fun _ => 0))) hx hb harr rfl hK hP hD hS hA (fun cA => rfl) hn hN hbytes hcells hslots hdg (fun q cA H1 hK1 hP1 hD1 hS1 => ?_)
  have e1 := (hK1.2 1 _ rfl).2
  have e0 := (hK1.2 0 _ rfl).2
  obtain rfl : cA = cI := zRA_eq e1 e0
  exact kk q H1 hP1 hD1 hS1
