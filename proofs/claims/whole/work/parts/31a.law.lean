/-! THE CLAIM OUT OF ONE WALK OF THE LAW'S BODY. Your part is whole_start (and what it stands on); all else here is the same for every law, but numbers. -/
def R_law : String := "BridgeByTwoLaw"
def lw_P (b : Addr) (xs : List Int32) (args : Array Value) (s : State) : Prop := args = #[.ref b] ∧ s.IntsAt b xs ∧ xs.length ≤ 2048 ∧ (Jvm.Cond.and given_1 narrow_1).before args s = true
def lw_Q (_ : Array Value) (s : State) (o : Outcome) (t : State) : Prop := o = .returned (some (.int 1)) ∧ Framed s o t [] 59 1154
def lw_Z (below : List Frame) (a : Array Value) (s : State) : State → Prop := fun t => ∃ o, t.status = .running ∧ Ended t below o ∧ lw_Q a s o t
/-- the law's own end, with 1 on the stack, nothing written that was there before, its room as the claim has it -/
theorem lw_ret {p : Program} {l : Launch} {e : Env} {s : State} {m : MethodId} {below : List Frame} {meth : Method} {c : Code} {b : Nat} (hx : p.tables.exec = Jvm.exec) (hb : c.code = code) (hr : meth.sig.returnType = ret) (hlocks : meth.locks = false) {pc : Nat} {H : Heap} {ls : Array Slot} (hdg : decode code pc = .ok (.ireturn, 1)) : W p l e room_1 s m #[Value.ref b] below meth c H [] 59 1154 (lw_Z below #[Value.ref b] s) (F0 m pc ls [.int 1]) := by
  intro T hT X
  obtain ⟨fs, hret, hrun, hended, hW, hframe⟩ := X.leave (v := some (.int 1)) (hlocks := hlocks) (fun h => by rw [hr] at h; cases h)
  have hmeth' : T.vm.method? m = some meth := X.method'
  refine ⟨T.setFrames fs, ?_, .returned (some (.int 1)), hrun, hended, rfl, ⟨_, rfl⟩, hW, hframe⟩
  jvm_step X.here [X.here.top, hx, hb, hdg, hmeth', hr, ret, narrow_b1]
  (try refine ⟨rfl, ?_⟩); (try refine ⟨rfl, ?_⟩)
  first | (intro acts; rw [hret _ acts rfl rfl rfl]) | rw [hret _ _ rfl rfl rfl]
  exact Steps.refl _
/-- what holds at the law's entry: the machine, the code, the tables' words (any of lw_tbl by 'hts w (by decide +kernel)'), the script of L ints xs at the cell b, what the Statement gives of the start (any of its parts by flat_of_before) -/
def lw_At (p : Program) (s : State) (m : MethodId) (meth : Method) (c : Code) (b L : Nat) (xs : Nat → Int32) : Prop :=
  p.tables.exec = Jvm.exec ∧ c.code = code ∧ meth.sig.returnType = ret ∧ c.maxLocals = 4 ∧ s.vm.findClass R_law = some m.cls ∧ (∀ w ∈ lw_tbl, w.before #[Value.ref b] s = true) ∧ va_X b L xs s s.heap ∧ b < s.heap.size ∧ meth.locks = false ∧ (Jvm.Cond.and given_1 narrow_1).before #[Value.ref b] s = true

theorem zLT {w : Jvm.Cond} (h : w ∈ zWL) : w ∈ lw_tbl := (List.mem_filter.mp h).1
theorem zNT {w : Jvm.Cond} (h : w ∈ zNL) : w ∈ lw_tbl := (List.mem_filter.mp h).1
theorem zLG {q : Jvm.Cond} (h : q ∈ zWL) : GoodIn lw_tbl (q :: zWL) := fun w hw => by
  rcases List.mem_cons.mp hw with e | e
  · rw [e]; exact ⟨zLT h, zgood _ h⟩
  · exact ⟨zLT e, zgood _ e⟩
theorem zK0.narrow {ad : Nat → Nat} {fv : Value} {A B : Nat → Prop} {U : State} {H : Heap} (h : zK0 ad fv A U H) (hAB : ∀ q, B q → A q) : zK0 ad fv B U H := ⟨h.1.narrow hAB, h.2.1.narrow hAB, h.2.2.1.narrow hAB, h.2.2.2⟩
section
variable {p : Program} {l : Launch} {e : Env} {s : State} {m : MethodId} {args : Array Value} {below : List Frame} {meth : Method} {c : Code} {H : Heap} {locs : List Loc} {cells slots pc : Nat} {Qf : State → Prop} {ls : Array Slot} {rest : List Value} {D : va_G} {cI : ClassId} {ad : Nat → Nat} {fv : Value} {sh : Nat → Nat} {N : Nat}
/-- a call of the small machine, out of the law -/
theorem zl_call (hfv : fv.category = 1) (hN : ∀ i, sh i ≠ 99 → i < N ∧ (sh i < 10 ∨ 100 ≤ sh i)) (hinj : ∀ a b, a < N → b < N → ad a = ad b → a = b) (hx : p.tables.exec = Jvm.exec) (hb : c.code = code) (hml : c.maxLocals = 4) (hown : s.vm.findClass R_law = some m.cls) (hts : ∀ w ∈ lw_tbl, w.before args s = true) (hK : va_K D vwCl [(cI, .int)] s) (h0 : zK0 ad fv (fun q : Nat => s.heap.size ≤ q) s s.heap) (hAd : ∀ q, zAd ad N q → s.heap.size ≤ q) (hS : va_S (fun q : Nat => s.heap.size ≤ q) s.heap H locs) {σ : zG} (hP : va_P D vwCl (zW cI ad sh N σ) H) {mi own : Nat} {y : MethodName} {cc : ByteArray} {maxL : Nat} {ret : Option FieldType} {fr lo np : Nat} {tb : List (Nat × Instr × Nat)} (hm : zMs[mi]? = some (own, y, cc, maxL, ret, fr, lo, np, false, tb)) (as : List Value) {Q' : Option Value → zG → Prop} (hEv : Ev sh mi 0 (zpad maxL (zarg (.ref 0 :: as))) [] σ Q') (hlen : (zarg (.ref 0 :: as)).length ≤ maxL) (hnp : as.length = np) (ho : own < 10) (h0N : 0 < N) (hsh : sh 0 = own) {idx : Nat} (hlink : Jvm.Cond.methodLink R_law idx y ∈ zWL) (hroom : fr + 1 ≤ 14 ∧ 8 + (maxL + 11) + lo ≤ 542) (hls : ls.size = 4) (hrest : (rest.map fun v => v.category).sum ≤ 8) (hdec : decode code pc = .ok (.invokevirtual idx, 3)) {st : List Value} (hst : st = (as.map (zv ad fv)).reverse ++ .ref (ad 0) :: rest)
    (kk : ∀ (r : Option Value) (σ' : zG) (H1 : Heap) (locs1 : List Loc), Q' r σ' → va_P D vwCl (zW cI ad sh N σ') H1 → (∀ q : Nat, q < H.size → ¬ zAd ad N q → H1[q]? = H[q]?) → va_S (fun q : Nat => s.heap.size ≤ q) s.heap H1 locs1 → W p l e room_1 s m args below meth c H1 locs1 cells slots Qf (F0 m (pc + 3) ls ((r.map (zv ad fv)).toList ++ rest))) : cells ≤ 59 → slots ≤ 1154 → W p l e room_1 s m args below meth c H locs cells slots Qf (F0 m pc ls st) := by
  intro hc1 hc2
  obtain ⟨-, hcode', hini', hcls', hplain', hmh', hpar', hkind'⟩ := zMs_ok _ (List.mem_of_getElem? hm)
  obtain ⟨r, σ', hq, hM⟩ := zMet (l := l) (D := D) (cI := cI) (ad := ad) hfv hN hinj hm hlen hEv
  have hWL : ∀ w ∈ zWL, w.before args s = true := fun w h => hts w (zLT h)
  have hrc : ∃ cellB : Cell, H[ad 0]? = some cellB ∧ cellB.vm.isStatics = false ∧ s.vm.findClass y.cls = some cellB.cls := by
    obtain ⟨T, n, hc⟩ := zvw ho
    rw [hcls']
    exact va_recv hK hP hc (zW_obj h0N hsh (by omega))
  have hr : va_Run p l e room_1 s m args below meth c H locs cells slots 0 0 (F0 m pc ls st) rest (zPost D cI ad fv sh N r σ' (Value.ref (ad 0) :: as.map (zv ad fv)).toArray) (zAd ad N) :=
    va_runV (As := as.map (zv ad fv)) (b := ad 0) ⟨hx, hb, hml, hown, hts⟩ hM ⟨callB_of np hts (zLG hcode') rfl rfl rfl (hWL _ hini') (hWL _ hlink) ⟨hmh'.1, hmh'.2, hpar'⟩ hroom, hWL _ hkind'.1, hWL _ hkind'.2⟩ ⟨zPre_blind, hrc, fun U hU hW => ⟨rfl, by rw [hU]; exact hP, va_K.moved hW.alike hK, (h0.next hS hU hW).narrow hAd⟩⟩ rfl (by rw [List.length_map]; exact hnp) hls hst (lv_room hrest) hdec ⟨hc1, hc2⟩
  intro T hT X
  obtain ⟨v, st₀, t, T', L, h0', X', hL, e1, e2, ⟨hv, hp, hz, hk⟩, step⟩ := hr T hT X
  cases hv
  rw [h0'] at hz hk
  obtain ⟨t2, a1, b1⟩ := kk r σ' T'.heap (locs ++ L) hq (by rw [e1]; exact hp) (fun q h1 h2 => by rw [e1]; exact hk q h1 h2)
    ⟨Nat.le_trans hS.1 (by rw [e1]; exact hz), fun q h1 h2 => by rw [e1, hk q (Nat.lt_of_lt_of_le h1 hS.1) (fun h => h2 (hAd q h))]; exact hS.2.1 q h1 h2, fun q hq => by
      rcases List.mem_append.mp hq with h | h
      · exact hS.2.2 q h
      · exact hAd _ (hL q h)⟩ T' rfl X'
  exact ⟨t2, step t2 a1, b1⟩
/-- a world beside it stays -/
theorem zl_keep {H1 : Heap} {ad2 sh2 : Nat → Nat} {N2 : Nat} {σ : zG} (hP : va_P D vwCl (zW cI ad2 sh2 N2 σ) H) (hk : ∀ q : Nat, q < H.size → ¬ zAd ad N q → H1[q]? = H[q]?) (hdis : ∀ i j, i < N → j < N2 → ad i ≠ ad2 j) : va_P D vwCl (zW cI ad2 sh2 N2 σ) H1 := by
  refine hP.kept (fun k x hx => hk x.1 (hP k x hx).lt ?_)
  have hk2 : k < N2 := by
    by_cases h : k < N2
    · exact h
    · rw [List.getElem?_eq_none (by simpa [zW] using h)] at hx; cases hx
  rw [zW_get hk2] at hx
  cases hx
  rintro ⟨i, h1, h2⟩
  exact hdis i k h1 hk2 h2.symm
end
theorem getD_out (l : List Nat) (i d : Nat) (h : l.length ≤ i) : l.getD i d = d := by rw [List.getD, List.getElem?_eq_none h]; rfl
theorem zshX_out {i : Nat} (h : 44 ≤ i) : zshX i = 99 := getD_out _ i 99 h
theorem zshM_out {i : Nat} (h : 15 ≤ i) : zshM i = 99 := getD_out _ i 99 h
theorem zshX_ok : ∀ i, zshX i ≠ 99 → i < 44 ∧ (zshX i < 10 ∨ 100 ≤ zshX i) := by
  intro i h
  by_cases hi : i < 44
  · refine ⟨hi, ?_⟩
    have key : ∀ i, i < 44 → (zshX i < 10 ∨ 100 ≤ zshX i) := by decide
    exact key i hi
  · exact absurd (zshX_out (Nat.not_lt.mp hi)) h
theorem zshM_ok : ∀ i, zshM i ≠ 99 → i < 15 ∧ (zshM i < 10 ∨ 100 ≤ zshM i) := by
  intro i h
  by_cases hi : i < 15
  · refine ⟨hi, ?_⟩
    have key : ∀ i, i < 15 → (zshM i < 10 ∨ 100 ≤ zshM i) := by decide
    exact key i hi
  · exact absurd (zshM_out (Nat.not_lt.mp hi)) h
