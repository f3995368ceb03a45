/-! ONE INSTRUCTION OF THE SMALL MACHINE IS ONE OF THE MACHINE'S. -/
def zlen : Instr → Nat → Bool
  | .bipush _, n | .iload _, n | .lload _, n | .aload _, n | .istore _, n | .lstore _, n | .astore _, n | .ldc _, n => n == 2
  | .sipush _, n | .iinc _ _, n | .ldc_w _, n | .ldc2_w _, n | .ifCond _ _, n | .if_icmp _ _, n | .goto _, n | .getfield _, n | .putfield _, n | .getstatic _, n | .invokevirtual _, n | .invokestatic _, n => n == 3
  | .tableswitch _ _ _ _, _ | .lookupswitch _ _, _ => true
  | _, n => n == 1
theorem zMs_len : zMs.all (fun mi => mi.2.2.2.2.2.2.2.2.2.all fun e => zlen e.2.1 e.2.2) = true := by decide +kernel
theorem zMs_vir : zMs.all (fun mi => mi.2.2.2.2.2.2.2.2.1 || (decide (mi.1 < 10) || mi.1 == 12)) = true := by decide +kernel
theorem zvw {own : Nat} (h : own < 10) : ∃ (T : u_T) (n : Nat), vwCl[own]? = some (zOwn own, T, n) := by
  match own, h with
  | 0, _ => exact ⟨_, _, rfl⟩
  | 1, _ => exact ⟨_, _, rfl⟩
  | 2, _ => exact ⟨_, _, rfl⟩
  | 3, _ => exact ⟨_, _, rfl⟩
  | 4, _ => exact ⟨_, _, rfl⟩
  | 5, _ => exact ⟨_, _, rfl⟩
  | 6, _ => exact ⟨_, _, rfl⟩
  | 7, _ => exact ⟨_, _, rfl⟩
  | 8, _ => exact ⟨_, _, rfl⟩
  | 9, _ => exact ⟨_, _, rfl⟩
  | _ + 10, h => omega
theorem zNF_of {ci : Nat} {C : String} {T : u_T} {n : Nat} (h : vwCl[ci]? = some (C, T, n)) : zNF ci = n ∧ ci < 10 := by
  have hl := (List.getElem?_eq_some_iff.mp h).1
  refine ⟨by rw [zNF, h], hl⟩
theorem zv_read {ad : Nat → Nat} {fv : Value} {σ : zG} {ci k i : Nat} : zv ad .null (zread σ ci k i) = zv ad fv (zread σ ci k i) := by
  rw [zread]
  cases zfr ci k i <;> rfl
theorem zrng1 {i : Nat} (h : 1000 ≤ i ∧ i < 1007) : ∃ n : Nat, i = 1000 + n ∧ n < 7 := ⟨i - 1000, by omega, by omega⟩
theorem zrng2 {i : Nat} (h : 2000 ≤ i ∧ i < 2007) : ∃ n : Nat, i = 2000 + n ∧ n < 7 := ⟨i - 2000, by omega, by omega⟩
theorem zadd12 (n : Nat) : 1000 + n + 1000 = 2000 + n := by omega
theorem zGI {q : Jvm.Cond} {ws : List Jvm.Cond} (h : ∀ w ∈ ws, w ∈ zWL) : GoodIn (q :: zWL) ws := fun w hw => ⟨List.mem_cons_of_mem _ (h w hw), zgood w (h w hw)⟩
theorem zbr_of {pc t : Nat} {off : Int} (h : zbr pc off = some t) : (pc : Int) + off = (t : Int) := by
  rw [zbr] at h
  split at h
  · rename_i q hq; cases h; exact hq
  · cases h
theorem zsw_look {pc : Nat} {x : Int32} {d : Nat} {dflt : Int} (hd : (pc : Int) + dflt = (d : Int)) : ∀ (ps : List (Int × Int)) (ks : List (Int × Nat)), zswk pc ps = some ks → ∃ off : Int, Op.lookupswitch.offset ps dflt x.toInt = off ∧ (pc : Int) + off = ((zsw x d ks : Nat) : Int) := by
  intro ps
  induction ps with
  | nil => intro ks h; cases h; exact ⟨dflt, rfl, hd⟩
  | cons a r ih =>
    intro ks h
    obtain ⟨k, off⟩ := a
    rw [zswk] at h
    split at h
    · rename_i t ht
      by_cases hk : (Int32.ofInt k).toInt = k
      · rw [if_pos hk] at h
        split at h
        · rename_i q hq
          cases h
          rw [zsw]
          by_cases hx : x = Int32.ofInt k
          · rw [if_pos hx]
            refine ⟨off, ?_, zbr_of ht⟩
            rw [Op.lookupswitch.offset_cons, if_pos (by rw [hx]; exact hk.symm)]
          · rw [if_neg hx]
            obtain ⟨o2, h1, h2⟩ := ih q hq
            exact ⟨o2, by rw [lv_osw hx hk]; exact h1, h2⟩
        · cases h
      · rw [if_neg hk] at h; cases h
    · cases h
theorem zsw_out {pc : Nat} {x : Int32} {d : Nat} : ∀ (offs : List Int) (lw : Int) (ks : List (Int × Nat)), zswk pc (zkeys lw offs) = some ks → (x.toInt < lw ∨ lw + offs.length ≤ x.toInt) → zsw x d ks = d := by
  intro offs
  induction offs with
  | nil => intro lw ks h _; cases h; rfl
  | cons a r ih =>
    intro lw ks h hx
    rw [zkeys, zswk] at h
    split at h
    · by_cases hk : (Int32.ofInt lw).toInt = lw
      · rw [if_pos hk] at h
        split at h
        · rename_i q hq
          cases h
          have hne : ¬ x = Int32.ofInt lw := by
            intro e
            rw [e, hk] at hx
            simp only [List.length_cons] at hx
            omega
          rw [zsw, if_neg hne]
          refine ih _ _ hq ?_
          simp only [List.length_cons] at hx
          omega
        · cases h
      · rw [if_neg hk] at h; cases h
    · cases h
theorem zsw_in {pc : Nat} {x : Int32} {d : Nat} : ∀ (offs : List Int) (lw : Int) (ks : List (Int × Nat)), zswk pc (zkeys lw offs) = some ks → ¬ x.toInt < lw → x.toInt < lw + offs.length → ∃ off : Int, offs[(x.toInt - lw).toNat]? = some off ∧ (pc : Int) + off = ((zsw x d ks : Nat) : Int) := by
  intro offs
  induction offs with
  | nil => intro lw ks h h1 h2; simp at h2; omega
  | cons a r ih =>
    intro lw ks h h1 h2
    rw [zkeys, zswk] at h
    split at h
    · rename_i t ht
      by_cases hk : (Int32.ofInt lw).toInt = lw
      · rw [if_pos hk] at h
        split at h
        · rename_i q hq
          cases h
          by_cases hx : x = Int32.ofInt lw
          · rw [zsw, if_pos hx]
            refine ⟨a, ?_, zbr_of ht⟩
            rw [hx, hk, Int.sub_self]
            rfl
          · have hne : x.toInt ≠ lw := lv_neT hx hk
            rw [zsw, if_neg hx]
            obtain ⟨off, g1, g2⟩ := ih _ _ hq (by omega) (by simp only [List.length_cons] at h2; omega)
            refine ⟨off, ?_, g2⟩
            rw [show (x.toInt - lw).toNat = (x.toInt - (lw + 1)).toNat + 1 by omega, List.getElem?_cons_succ]
            exact g1
        · cases h
      · rw [if_neg hk] at h; cases h
    · cases h
abbrev zrm (fr lo : Nat) : Room := { frames := fr, cells := 0, slots := 0, locals := lo }
def zPre (D : va_G) (cI : ClassId) (ad : Nat → Nat) (fv : Value) (sh : Nat → Nat) (N : Nat) (as : List Value) (σ : zG) : Array Value → State → Prop := va_Pc (as.map (zv ad fv)) (fun U => va_P D vwCl (zW cI ad sh N σ) U.heap ∧ va_K D vwCl [(cI, .int)] U ∧ zK0 ad fv (zAd ad N) U U.heap)
def zPost (D : va_G) (cI : ClassId) (ad : Nat → Nat) (fv : Value) (sh : Nat → Nat) (N : Nat) (r : Option Value) (σ : zG) : Array Value → State → Outcome → State → Prop := fun _ st o t => o = .returned (r.map (zv ad fv)) ∧ va_P D vwCl (zW cI ad sh N σ) t.heap ∧ va_F (zAd ad N) st t
theorem zPre_blind {D : va_G} {cI : ClassId} {ad : Nat → Nat} {fv : Value} {sh : Nat → Nat} {N : Nat} {as : List Value} {σ : zG} : FrameBlind (zPre D cI ad fv sh N as σ) := by
  intro a U g mk h
  obtain ⟨h1, h2, h3, h4⟩ := h
  exact ⟨h1, h2, va_K.moved (u := U) (U := U.calling g mk a) (Vm.Alike.refl U.vm) h3, h4.same rfl⟩
section
variable {p : Program} {l : Launch} {e : Env} {R : Room} {s : State} {m : MethodId} {args : Array Value} {below : List Frame} {meth : Method} {c : Code} {H H0 : Heap} {locs : List Loc} {cells slots pc : Nat} {Q : State → Prop} {ls : Array Slot} {st0 rest : List Value} {D : va_G} {cI : ClassId} {ad : Nat → Nat} {fv : Value} {sh : Nat → Nat} {N : Nat} {r1 : Option Value} {σ1 : zG} {av : Array Value}
theorem z_call (hr : va_Run p l e R s m args below meth c H locs cells slots 0 0 (F0 m pc ls st0) rest (zPost D cI ad fv sh N r1 σ1 av) (zAd ad N)) (hS : va_S (zAd ad N) H0 H locs)
    (kk : ∀ (H1 : Heap) (locs1 : List Loc), va_P D vwCl (zW cI ad sh N σ1) H1 → va_S (zAd ad N) H0 H1 locs1 → W p l e R s m args below meth c H1 locs1 cells slots Q (F0 m (pc + 3) ls ((r1.map (zv ad fv)).toList ++ rest))) : W p l e R s m args below meth c H locs cells slots Q (F0 m pc ls st0) := by
  intro T hT X
  obtain ⟨v, st₀, t, T', L, h0, X', hL, e1, e2, ⟨hv, hp, hz, hk⟩, st⟩ := hr T hT X
  cases hv
  rw [h0] at hz hk
  obtain ⟨t2, a1, b1⟩ := kk T'.heap (locs ++ L) (by rw [e1]; exact hp)
    ⟨Nat.le_trans hS.1 (by rw [e1]; exact hz), fun q h1 h2 => by rw [e1, hk q (Nat.lt_of_lt_of_le h1 hS.1) h2]; exact hS.2.1 q h1 h2, fun q hq => by
      rcases List.mem_append.mp hq with h | h
      · exact hS.2.2 q h
      · exact hL q h⟩ T' rfl X'
  exact ⟨t2, st t2 a1, b1⟩
end

set_option maxHeartbeats 8000000 in
set_option maxRecDepth 20000 in
theorem zstep {l : Launch} {D : va_G} {cI : ClassId} {ad : Nat → Nat} {fv : Value} {sh : Nat → Nat} {N : Nat} (hfv : fv.category = 1) (hN : ∀ i, sh i ≠ 99 → i < N ∧ (sh i < 10 ∨ 100 ≤ sh i)) (hinj : ∀ a b, a < N → b < N → ad a = ad b → a = b)
    {m own : Nat} {y : MethodName} {cc : ByteArray} {maxL : Nat} {ret : Option FieldType} {fr lo np : Nat} {stat : Bool} {tb : List (Nat × Instr × Nat)} (hm : zMs[m]? = some (own, y, cc, maxL, ret, fr, lo, np, stat, tb))
    {p : Program} {e : Env} {s : State} {mm : MethodId} {args : Array Value} {below : List Frame} {meth : Method} {c : Code}
    (hx : p.tables.exec = Jvm.exec) (hb : c.code = cc) (hml : c.maxLocals = maxL) (hown : s.vm.findClass (zOwn own) = some mm.cls) (hts : ∀ w ∈ Jvm.Cond.code y cc maxL ret :: zWL, w.before args s = true) (hr : meth.sig.returnType = ret) (hlocks : meth.locks = false)
    (hK : va_K D vwCl [(cI, .int)] s) (h0 : zK0 ad fv (zAd ad N) s s.heap)
    {pc : Nat} {lv : zL} {st : List Value} {σ : zG} {a : zA} (ha : zact sh m pc lv st σ = some a) {H : Heap} {locs : List Loc} {ls : Array Slot} (hP : va_P D vwCl (zW cI ad sh N σ) H) (hS : va_S (zAd ad N) s.heap H locs) (hl : zLV (zv ad fv) ls maxL lv) {rF : Option Value} {σF : zG}
    (kn : ∀ (pc' : Nat) (lv' : zL) (st' : List Value) (σ' : zG), a = .inl (pc', lv', st', σ') → ∀ (H : Heap) (locs : List Loc) (ls : Array Slot), va_P D vwCl (zW cI ad sh N σ') H → va_S (zAd ad N) s.heap H locs → zLV (zv ad fv) ls maxL lv' → W p l e (zrm fr lo) s mm args below meth c H locs 0 0 (MQ below (zPost D cI ad fv sh N rF σF) args s 0 0 (zAd ad N)) (F0 mm pc' ls (st'.map (zv ad fv))))
    (kr : ∀ (r : Option Value) (σ' : zG), a = .inr (.inl (r, σ')) → r = rF ∧ σ' = σF)
    (kc : ∀ (cm : Nat) (lc : zL) (pc' : Nat) (rest : List Value), a = .inr (.inr (cm, lc, pc', rest)) → ∃ (r1 : Option Value) (σ1 : zG), (∀ (own' : Nat) (y' : MethodName) (cc' : ByteArray) (maxL' : Nat) (ret' : Option FieldType) (fr' lo' np' : Nat) (stat' : Bool) (tb' : List (Nat × Instr × Nat)) (as : List Value), zMs[cm]? = some (own', y', cc', maxL', ret', fr', lo', np', stat', tb') → lc = zpad maxL' (zarg as) → (zarg as).length ≤ maxL' → Met l y' (Jvm.Cond.code y' cc' maxL' ret' :: zWL) (zrm fr' lo') (zPre D cI ad fv sh N as σ) (zPost D cI ad fv sh N r1 σ1) 0 0 (zAd ad N)) ∧
      ∀ (H : Heap) (locs : List Loc), va_P D vwCl (zW cI ad sh N σ1) H → va_S (zAd ad N) s.heap H locs → W p l e (zrm fr lo) s mm args below meth c H locs 0 0 (MQ below (zPost D cI ad fv sh N rF σF) args s 0 0 (zAd ad N)) (F0 mm pc' ls ((zpush r1 rest).map (zv ad fv)))) :
    W p l e (zrm fr lo) s mm args below meth c H locs 0 0 (MQ below (zPost D cI ad fv sh N rF σF) args s 0 0 (zAd ad N)) (F0 mm pc ls (st.map (zv ad fv))) := by
  have hf : ∀ v, (zv ad fv v).category = v.category := zv_cat hfv
  have hWL : ∀ w ∈ zWL, w.before args s = true := fun w h => hts w (List.mem_cons_of_mem _ h)
  have hD : ∀ σ, va_D (zAd ad N) (zW cI ad sh N σ) := fun σ => zW_D hinj
  have hfact := zMs_ok _ (List.mem_of_getElem? hm)
  have hlens := List.all_eq_true.mp zMs_len _ (List.mem_of_getElem? hm)
  obtain ⟨hdecs, hcode, hini, hcls, hplain, hmh, hpar, hkind⟩ := hfact
  have hls : ls.size = maxL := hl.1.1
  rw [zact, hm] at ha
  dsimp only at ha
  cases hlk : tb.lookup pc with
  | none => rw [hlk] at ha; cases ha
  | some q =>
  obtain ⟨ins, len⟩ := q
  have hmem := zlook _ _ _ hlk
  have hdec := of_decide_eq_true (List.all_eq_true.mp hdecs _ hmem)
  have hlen := List.all_eq_true.mp hlens _ hmem
  dsimp only at hdec hlen
  rw [hlk] at ha
  dsimp only at ha
  cases ins <;> (try dsimp only at ha) <;> try (cases ha; done)
  case iconst n =>
    obtain rfl : len = 1 := eq_of_beq hlen
    cases ha
    exact lv_iconst hx hb hdec rfl (kn _ _ _ _ rfl H locs ls hP hS hl)
  case bipush n =>
    obtain rfl : len = 2 := eq_of_beq hlen
    cases ha
    exact lv_bipush hx hb hdec rfl (kn _ _ _ _ rfl H locs ls hP hS hl)
  case sipush n =>
    obtain rfl : len = 3 := eq_of_beq hlen
    cases ha
    exact lv_sipush hx hb hdec rfl (kn _ _ _ _ rfl H locs ls hP hS hl)
  case lconst n =>
    obtain rfl : len = 1 := eq_of_beq hlen
    cases ha
    exact lv_lconst hx hb hdec rfl (kn _ _ _ _ rfl H locs ls hP hS hl)
  case iload_n k =>
    obtain rfl : len = 1 := eq_of_beq hlen
    split at ha
    · rename_i x hk
      cases ha
      exact lv_iload_n hx hb hdec rfl (zLV_at hl hk) (kn _ _ _ _ rfl H locs ls hP hS hl)
    · cases ha
  case iload k =>
    obtain rfl : len = 2 := eq_of_beq hlen
    split at ha
    · rename_i x hk
      cases ha
      exact lv_iload hx hb hdec (zLV_at hl hk) (kn _ _ _ _ rfl H locs ls hP hS hl)
    · cases ha
  case lload_n k =>
    obtain rfl : len = 1 := eq_of_beq hlen
    split at ha
    · rename_i x hk
      cases ha
      exact lv_lload_n hx hb hdec rfl (zLV_at hl hk) (kn _ _ _ _ rfl H locs ls hP hS hl)
    · cases ha
  case lload k =>
    obtain rfl : len = 2 := eq_of_beq hlen
    split at ha
    · rename_i x hk
      cases ha
      exact lv_lload hx hb hdec (zLV_at hl hk) (kn _ _ _ _ rfl H locs ls hP hS hl)
    · cases ha
  case aload_n k =>
    obtain rfl : len = 1 := eq_of_beq hlen
    split at ha
    · rename_i x hk
      cases ha
      exact lv_aload_n hx hb hdec rfl (zLV_at hl hk) (kn _ _ _ _ rfl H locs ls hP hS hl)
    · cases ha
  case aload k =>
    obtain rfl : len = 2 := eq_of_beq hlen
    split at ha
    · rename_i x hk
      cases ha
      exact lv_aload hx hb hdec (zLV_at hl hk) (kn _ _ _ _ rfl H locs ls hP hS hl)
    · cases ha
  case istore_n k =>
    obtain rfl : len = 1 := eq_of_beq hlen
    split at ha
    · rename_i x r
      by_cases hk : (k : Nat) < lv.length
      · rw [if_pos hk] at ha
        cases ha
        exact lv_istore_n hx hb hdec rfl hl.1 (by rw [← hl.2]; exact hk) rfl (fun ls2 h2 => kn _ _ _ _ rfl H locs ls2 hP hS (zset1_LV hf hl.2 h2))
      · rw [if_neg hk] at ha; cases ha
    · cases ha
  case istore k =>
    obtain rfl : len = 2 := eq_of_beq hlen
    split at ha
    · rename_i x r
      by_cases hk : k < lv.length
      · rw [if_pos hk] at ha
        cases ha
        exact lv_istore hx hb hdec hl.1 (by rw [← hl.2]; exact hk) rfl (fun ls2 h2 => kn _ _ _ _ rfl H locs ls2 hP hS (zset1_LV hf hl.2 h2))
      · rw [if_neg hk] at ha; cases ha
    · cases ha
  case astore_n k =>
    obtain rfl : len = 1 := eq_of_beq hlen
    split at ha
    · rename_i x r
      by_cases hk : (k : Nat) < lv.length
      · rw [if_pos hk] at ha
        cases ha
        exact lv_astore_n hx hb hdec rfl hl.1 (by rw [← hl.2]; exact hk) rfl (fun ls2 h2 => kn _ _ _ _ rfl H locs ls2 hP hS (zset1_LV hf hl.2 h2))
      · rw [if_neg hk] at ha; cases ha
    · cases ha
  case astore k =>
    obtain rfl : len = 2 := eq_of_beq hlen
    split at ha
    · rename_i x r
      by_cases hk : k < lv.length
      · rw [if_pos hk] at ha
        cases ha
        exact lv_astore hx hb hdec hl.1 (by rw [← hl.2]; exact hk) rfl (fun ls2 h2 => kn _ _ _ _ rfl H locs ls2 hP hS (zset1_LV hf hl.2 h2))
      · rw [if_neg hk] at ha; cases ha
    · cases ha
  case lstore_n k =>
    obtain rfl : len = 1 := eq_of_beq hlen
    split at ha
    · rename_i x r
      by_cases hk : (k : Nat) + 1 < lv.length
      · rw [if_pos hk] at ha
        cases ha
        exact lv_lstore_n hx hb hdec rfl hl.1 (by rw [← hl.2]; exact hk) rfl (fun ls2 h2 => kn _ _ _ _ rfl H locs ls2 hP hS (zset2_LV hf hl.2 hk h2))
      · rw [if_neg hk] at ha; cases ha
    · cases ha
  case lstore k =>
    obtain rfl : len = 2 := eq_of_beq hlen
    split at ha
    · rename_i x r
      by_cases hk : k + 1 < lv.length
      · rw [if_pos hk] at ha
        cases ha
        exact lv_lstore hx hb hdec hl.1 (by rw [← hl.2]; exact hk) rfl (fun ls2 h2 => kn _ _ _ _ rfl H locs ls2 hP hS (zset2_LV hf hl.2 hk h2))
      · rw [if_neg hk] at ha; cases ha
    · cases ha
  case iinc k n =>
    obtain rfl : len = 3 := eq_of_beq hlen
    split at ha
    · rename_i x hk
      rw [if_pos rfl] at ha
      cases ha
      obtain ⟨j, hj⟩ := List.getElem?_of_mem (zAs_mem (f := zv ad fv) lv 0 k hk)
      rw [Nat.zero_add] at hj
      exact lv_iinc hx hb hdec hl.1 hj rfl (by rw [← hl.2]; exact (List.getElem?_eq_some_iff.mp hk).1) rfl (fun ls2 h2 => kn _ _ _ _ rfl H locs ls2 hP hS (zset0_LV rfl rfl hl.2 hl.1 hk h2))
    · cases ha
  case ldc k =>
    obtain rfl : len = 2 := eq_of_beq hlen
    split at ha
    · rename_i v hv
      cases ha
      exact lv_ldc hx hb hown (hWL _ (zci_ok hv)) hdec (kn _ _ _ _ rfl H locs ls hP hS hl)
    · split at ha
      · rename_i i q hv
        cases ha
        obtain ⟨rfl, hi, rfl⟩ := zlk_ok hv
        exact va_ldcS hx hb hown (h0.2.2.2.1 i hi) hdec (kn _ _ _ _ rfl H locs ls hP hS hl)
      · cases ha
  case ldc_w k =>
    obtain rfl : len = 3 := eq_of_beq hlen
    split at ha
    · rename_i v hv
      cases ha
      exact lv_ldcw hx hb hown (hWL _ (zci_ok hv)) hdec (kn _ _ _ _ rfl H locs ls hP hS hl)
    · cases ha
  case ldc2_w k =>
    obtain rfl : len = 3 := eq_of_beq hlen
    split at ha
    · rename_i v hv
      cases ha
      exact lv_ldc2 hx hb hown (hWL _ (zcl_ok hv)) hdec (kn _ _ _ _ rfl H locs ls hP hS hl)
    · cases ha
  case iadd =>
    obtain rfl : len = 1 := eq_of_beq hlen
    split at ha
    · cases ha
      exact lv_iadd hx hb hdec (kn _ _ _ _ rfl H locs ls hP hS hl)
    · cases ha
  case isub =>
    obtain rfl : len = 1 := eq_of_beq hlen
    split at ha
    · cases ha
      exact lv_isub hx hb hdec (kn _ _ _ _ rfl H locs ls hP hS hl)
    · cases ha
  case imul =>
    obtain rfl : len = 1 := eq_of_beq hlen
    split at ha
    · cases ha
      exact lv_imul hx hb hdec (kn _ _ _ _ rfl H locs ls hP hS hl)
    · cases ha
  case iand =>
    obtain rfl : len = 1 := eq_of_beq hlen
    split at ha
    · cases ha
      exact lv_iand hx hb hdec (kn _ _ _ _ rfl H locs ls hP hS hl)
    · cases ha
  case ior =>
    obtain rfl : len = 1 := eq_of_beq hlen
    split at ha
    · cases ha
      exact lv_ior hx hb hdec (kn _ _ _ _ rfl H locs ls hP hS hl)
    · cases ha
  case ixor =>
    obtain rfl : len = 1 := eq_of_beq hlen
    split at ha
    · cases ha
      exact lv_ixor hx hb hdec (kn _ _ _ _ rfl H locs ls hP hS hl)
    · cases ha
  case ishl =>
    obtain rfl : len = 1 := eq_of_beq hlen
    split at ha
    · cases ha
      exact lv_ishl hx hb hdec (kn _ _ _ _ rfl H locs ls hP hS hl)
    · cases ha
  case ishr =>
    obtain rfl : len = 1 := eq_of_beq hlen
    split at ha
    · cases ha
      exact lv_ishr hx hb hdec (kn _ _ _ _ rfl H locs ls hP hS hl)
    · cases ha
  case ladd =>
    obtain rfl : len = 1 := eq_of_beq hlen
    split at ha
    · cases ha
      exact lv_ladd hx hb hdec (kn _ _ _ _ rfl H locs ls hP hS hl)
    · cases ha
  case lsub =>
    obtain rfl : len = 1 := eq_of_beq hlen
    split at ha
    · cases ha
      exact lv_lsub hx hb hdec (kn _ _ _ _ rfl H locs ls hP hS hl)
    · cases ha
  case lmul =>
    obtain rfl : len = 1 := eq_of_beq hlen
    split at ha
    · cases ha
      exact lv_lmul hx hb hdec (kn _ _ _ _ rfl H locs ls hP hS hl)
    · cases ha
  case iushr =>
    obtain rfl : len = 1 := eq_of_beq hlen
    split at ha
    · cases ha
      exact lv_iushr hx hb hdec rfl (kn _ _ _ _ rfl H locs ls hP hS hl)
    · cases ha
  case i2b =>
    obtain rfl : len = 1 := eq_of_beq hlen
    split at ha
    · cases ha
      exact lv_i2b hx hb hdec rfl (kn _ _ _ _ rfl H locs ls hP hS hl)
    · cases ha
  case i2c =>
    obtain rfl : len = 1 := eq_of_beq hlen
    split at ha
    · cases ha
      exact lv_i2c hx hb hdec rfl (kn _ _ _ _ rfl H locs ls hP hS hl)
    · cases ha
  case i2l =>
    obtain rfl : len = 1 := eq_of_beq hlen
    split at ha
    · cases ha
      exact lv_i2l hx hb hdec rfl (kn _ _ _ _ rfl H locs ls hP hS hl)
    · cases ha
  case lcmp =>
    obtain rfl : len = 1 := eq_of_beq hlen
    split at ha
    · cases ha
      exact W.lcmp hx hb hdec (kn _ _ _ _ rfl H locs ls hP hS hl)
    · cases ha
  case ineg =>
    obtain rfl : len = 1 := eq_of_beq hlen
    split at ha
    · cases ha
      exact lv_ineg hx hb hdec (kn _ _ _ _ rfl H locs ls hP hS hl)
    · cases ha
  case idiv =>
    obtain rfl : len = 1 := eq_of_beq hlen
    split at ha
    · rename_i y0 x0 r0
      by_cases hk : ¬ y0 = 0
      · rw [if_pos hk] at ha
        cases ha
        exact lv_idiv hx hb hdec hk (kn _ _ _ _ rfl H locs ls hP hS hl)
      · rw [if_neg hk] at ha; cases ha
    · cases ha
  case irem =>
    obtain rfl : len = 1 := eq_of_beq hlen
    split at ha
    · rename_i y0 x0 r0
      by_cases hk : ¬ y0 = 0
      · rw [if_pos hk] at ha
        cases ha
        exact lv_irem hx hb hdec hk (kn _ _ _ _ rfl H locs ls hP hS hl)
      · rw [if_neg hk] at ha; cases ha
    · cases ha
  case ldiv =>
    obtain rfl : len = 1 := eq_of_beq hlen
    split at ha
    · rename_i y0 x0 r0
      by_cases hk : ¬ y0 = 0
      · rw [if_pos hk] at ha
        cases ha
        exact lv_ldiv hx hb hdec hk (kn _ _ _ _ rfl H locs ls hP hS hl)
      · rw [if_neg hk] at ha; cases ha
    · cases ha
  case lrem =>
    obtain rfl : len = 1 := eq_of_beq hlen
    split at ha
    · rename_i y0 x0 r0
      by_cases hk : ¬ y0 = 0
      · rw [if_pos hk] at ha
        cases ha
        exact lv_lrem hx hb hdec hk (kn _ _ _ _ rfl H locs ls hP hS hl)
      · rw [if_neg hk] at ha; cases ha
    · cases ha
  case dup =>
    obtain rfl : len = 1 := eq_of_beq hlen
    split at ha
    · cases ha
      exact lv_dup hx hb hdec rfl (kn _ _ _ _ rfl H locs ls hP hS hl)
    · cases ha
      exact lv_dup hx hb hdec rfl (kn _ _ _ _ rfl H locs ls hP hS hl)
    · cases ha
  case dup2 =>
    obtain rfl : len = 1 := eq_of_beq hlen
    split at ha
    · cases ha
      exact lv_dup2_11 hx hb hdec rfl rfl (kn _ _ _ _ rfl H locs ls hP hS hl)
    · cases ha
  case pop =>
    obtain rfl : len = 1 := eq_of_beq hlen
    split at ha
    · cases ha
      exact lv_pop hx hb hdec rfl (kn _ _ _ _ rfl H locs ls hP hS hl)
    · cases ha
  case ifCond cnd off =>
    obtain rfl : len = 3 := eq_of_beq hlen
    cases cnd
    · dsimp only at ha
      split at ha
      · rename_i x0 r0
        rw [zif] at ha
        split at ha
        · rename_i t ht
          cases ha
          refine lv_if_eq hx hb hdec (zbr_of ht) (fun hq => ?_) (fun hq => ?_)
          · have h9 := kn _ _ _ _ rfl H locs ls hP hS hl
            rw [if_pos hq] at h9
            exact h9
          · have h9 := kn _ _ _ _ rfl H locs ls hP hS hl
            rw [if_neg hq] at h9
            exact h9
        · cases ha
      · cases ha
    · dsimp only at ha
      split at ha
      · rename_i x0 r0
        rw [zif] at ha
        split at ha
        · rename_i t ht
          cases ha
          refine lv_if_ne hx hb hdec (zbr_of ht) (fun hq => ?_) (fun hq => ?_)
          · have h9 := kn _ _ _ _ rfl H locs ls hP hS hl
            rw [if_pos hq] at h9
            exact h9
          · have h9 := kn _ _ _ _ rfl H locs ls hP hS hl
            rw [if_neg (fun h => h hq)] at h9
            exact h9
        · cases ha
      · cases ha
    · dsimp only at ha
      split at ha
      · rename_i x0 r0
        rw [zif] at ha
        split at ha
        · rename_i t ht
          cases ha
          refine lv_if_lt hx hb hdec (zbr_of ht) (fun hq => ?_) (fun hq => ?_)
          · have h9 := kn _ _ _ _ rfl H locs ls hP hS hl
            rw [if_pos hq] at h9
            exact h9
          · have h9 := kn _ _ _ _ rfl H locs ls hP hS hl
            rw [if_neg hq] at h9
            exact h9
        · cases ha
      · cases ha
    · dsimp only at ha
      split at ha
      · rename_i x0 r0
        rw [zif] at ha
        split at ha
        · rename_i t ht
          cases ha
          refine lv_if_ge hx hb hdec (zbr_of ht) (fun hq => ?_) (fun hq => ?_)
          · have h9 := kn _ _ _ _ rfl H locs ls hP hS hl
            rw [if_pos hq] at h9
            exact h9
          · have h9 := kn _ _ _ _ rfl H locs ls hP hS hl
            rw [if_neg hq] at h9
            exact h9
        · cases ha
      · cases ha
    · dsimp only at ha
      split at ha
      · rename_i x0 r0
        rw [zif] at ha
        split at ha
        · rename_i t ht
          cases ha
          refine lv_if_gt hx hb hdec (zbr_of ht) (fun hq => ?_) (fun hq => ?_)
          · have h9 := kn _ _ _ _ rfl H locs ls hP hS hl
            rw [if_pos hq] at h9
            exact h9
          · have h9 := kn _ _ _ _ rfl H locs ls hP hS hl
            rw [if_neg hq] at h9
            exact h9
        · cases ha
      · cases ha
    · dsimp only at ha
      split at ha
      · rename_i x0 r0
        rw [zif] at ha
        split at ha
        · rename_i t ht
          cases ha
          refine lv_if_le hx hb hdec (zbr_of ht) (fun hq => ?_) (fun hq => ?_)
          · have h9 := kn _ _ _ _ rfl H locs ls hP hS hl
            rw [if_pos hq] at h9
            exact h9
          · have h9 := kn _ _ _ _ rfl H locs ls hP hS hl
            rw [if_neg hq] at h9
            exact h9
        · cases ha
      · cases ha
  case if_icmp cnd off =>
    obtain rfl : len = 3 := eq_of_beq hlen
    cases cnd
    · dsimp only at ha
      split at ha
      · rename_i y0 x0 r0
        rw [zif] at ha
        split at ha
        · rename_i t ht
          cases ha
          refine lv_icmp_eq hx hb hdec (zbr_of ht) (fun hq => ?_) (fun hq => ?_)
          · have h9 := kn _ _ _ _ rfl H locs ls hP hS hl
            rw [if_pos hq] at h9
            exact h9
          · have h9 := kn _ _ _ _ rfl H locs ls hP hS hl
            rw [if_neg hq] at h9
            exact h9
        · cases ha
      · cases ha
    · dsimp only at ha
      split at ha
      · rename_i y0 x0 r0
        rw [zif] at ha
        split at ha
        · rename_i t ht
          cases ha
          refine lv_icmp_ne hx hb hdec (zbr_of ht) (fun hq => ?_) (fun hq => ?_)
          · have h9 := kn _ _ _ _ rfl H locs ls hP hS hl
            rw [if_pos hq] at h9
            exact h9
          · have h9 := kn _ _ _ _ rfl H locs ls hP hS hl
            rw [if_neg (fun h => h hq)] at h9
            exact h9
        · cases ha
      · cases ha
    · dsimp only at ha
      split at ha
      · rename_i y0 x0 r0
        rw [zif] at ha
        split at ha
        · rename_i t ht
          cases ha
          refine lv_icmp_lt hx hb hdec (zbr_of ht) (fun hq => ?_) (fun hq => ?_)
          · have h9 := kn _ _ _ _ rfl H locs ls hP hS hl
            rw [if_pos hq] at h9
            exact h9
          · have h9 := kn _ _ _ _ rfl H locs ls hP hS hl
            rw [if_neg hq] at h9
            exact h9
        · cases ha
      · cases ha
    · dsimp only at ha
      split at ha
      · rename_i y0 x0 r0
        rw [zif] at ha
        split at ha
        · rename_i t ht
          cases ha
          refine lv_icmp_ge hx hb hdec (zbr_of ht) (fun hq => ?_) (fun hq => ?_)
          · have h9 := kn _ _ _ _ rfl H locs ls hP hS hl
            rw [if_pos hq] at h9
            exact h9
          · have h9 := kn _ _ _ _ rfl H locs ls hP hS hl
            rw [if_neg hq] at h9
            exact h9
        · cases ha
      · cases ha
    · dsimp only at ha
      split at ha
      · rename_i y0 x0 r0
        rw [zif] at ha
        split at ha
        · rename_i t ht
          cases ha
          refine lv_icmp_gt hx hb hdec (zbr_of ht) (fun hq => ?_) (fun hq => ?_)
          · have h9 := kn _ _ _ _ rfl H locs ls hP hS hl
            rw [if_pos hq] at h9
            exact h9
          · have h9 := kn _ _ _ _ rfl H locs ls hP hS hl
            rw [if_neg hq] at h9
            exact h9
        · cases ha
      · cases ha
    · dsimp only at ha
      split at ha
      · rename_i y0 x0 r0
        rw [zif] at ha
        split at ha
        · rename_i t ht
          cases ha
          refine lv_icmp_le hx hb hdec (zbr_of ht) (fun hq => ?_) (fun hq => ?_)
          · have h9 := kn _ _ _ _ rfl H locs ls hP hS hl
            rw [if_pos hq] at h9
            exact h9
          · have h9 := kn _ _ _ _ rfl H locs ls hP hS hl
            rw [if_neg hq] at h9
            exact h9
        · cases ha
      · cases ha
  case goto off =>
    obtain rfl : len = 3 := eq_of_beq hlen
    split at ha
    · rename_i t ht
      cases ha
      exact lv_goto hx hb hdec (zbr_of ht) (kn _ _ _ _ rfl H locs ls hP hS hl)
    · cases ha
  case tableswitch dflt lw hi offs =>
    split at ha
    · rename_i x0 r0
      split at ha
      · rename_i d ks hd hks
        by_cases hq : lw + offs.toList.length = hi + 1
        · rw [if_pos hq] at ha
          cases ha
          have h9 := kn _ _ _ _ rfl H locs ls hP hS hl
          by_cases h1 : x0.toInt < lw
          · rw [zsw_out _ _ _ hks (Or.inl h1)] at h9
            exact lv_tableOut hx hb hdec (Or.inl h1) (zbr_of hd) h9
          · by_cases h2 : hi < x0.toInt
            · rw [zsw_out _ _ _ hks (Or.inr (by omega))] at h9
              exact lv_tableOut hx hb hdec (Or.inr h2) (zbr_of hd) h9
            · obtain ⟨off, g1, g2⟩ := zsw_in (d := d) _ _ _ hks h1 (by omega)
              exact lv_tableIn hx hb hdec h1 h2 (by rw [← Array.getElem?_toList]; exact g1) g2 h9
        · rw [if_neg hq] at ha; cases ha
      · cases ha
    · cases ha
  case lookupswitch dflt ps =>
    split at ha
    · rename_i x0 r0
      split at ha
      · rename_i d ks hd hks
        split at ha
        · rename_i hq
          cases ha
          obtain ⟨off, g1, g2⟩ := zsw_look (x := x0) (zbr_of hd) _ _ hks
          exact lv_lookup hx hb hdec hq g1 g2 (kn _ _ _ _ rfl H locs ls hP hS hl)
        · cases ha
      · cases ha
    · cases ha
  case getfield k =>
    obtain rfl : len = 3 := eq_of_beq hlen
    split at ha
    · rename_i i r0
      split at ha
      · rename_i ci q hv
        by_cases hs : sh i = ci
        · rw [if_pos hs] at ha
          cases ha
          obtain ⟨C, T, n, hc, hq, hlink, hT, -⟩ := zlk_ok hv
          obtain ⟨hn, hc10⟩ := zNF_of hc
          have hi := (hN i (by omega)).1
          exact va_get hx hb hts (fun w h => List.mem_cons_of_mem _ ((zcls hc).1 w h)) hown hK hP i (zW_obj hi hs (by omega)) hc q hq (hWL _ hlink) (fun z hz => by rw [hT] at hz; exact hz) (by rw [zfs_get (by omega), zv_read]) hdec (kn _ _ _ _ rfl H locs ls hP hS hl)
        · rw [if_neg hs] at ha; cases ha
      · rename_i ci q hv
        by_cases hs : sh i = ci
        · rw [if_pos hs] at ha
          cases ha
          obtain ⟨C, T, n, hc, hq, hlink, hT, -⟩ := zlk_ok hv
          obtain ⟨hn, hc10⟩ := zNF_of hc
          have hi := (hN i (by omega)).1
          exact va_getN hx hb hts (fun w h => List.mem_cons_of_mem _ ((zcls hc).1 w h)) hown hK hP i (zW_obj hi hs (by omega)) hc q hq (va_Nw.use rfl (h0.2.2.2.2 _ hlink)) (fun z hz => by rw [hT] at hz; exact hz) (by rw [zfs_get (by omega), zv_read]) hdec (kn _ _ _ _ rfl H locs ls hP hS hl)
        · rw [if_neg hs] at ha; cases ha
      · rename_i hv
        split at ha
        · rename_i hi
          cases ha
          obtain ⟨n, rfl, hn⟩ := zrng1 hi
          have h9 := (h0.1.1 n hn).2.2.1
          simp only [← zadd12] at h9
          exact vk_getf hx hb h9 hS hown (hWL _ (zlk_ok hv)) (fun _ h => h) hdec (kn _ _ _ _ rfl H locs ls hP hS hl)
        · cases ha
      · rename_i hv
        split at ha
        · rename_i hi
          cases ha
          obtain ⟨n, rfl, hn⟩ := zrng1 hi
          have h9 := (h0.1.1 n hn).2.1
          exact vk_getf hx hb h9 hS hown (hWL _ (zlk_ok hv)) (fun _ h => h) hdec (kn _ _ _ _ rfl H locs ls hP hS hl)
        · cases ha
      · cases ha
    · cases ha
  case putfield k =>
    obtain rfl : len = 3 := eq_of_beq hlen
    split at ha
    · rename_i x0 i r0
      split at ha
      · rename_i ci q hv
        split at ha
        · rename_i hz ht
          by_cases hs : sh i = ci
          · rw [if_pos hs] at ha
            cases ha
            obtain ⟨C, T, n, hc, hq, hlink, hT, hp⟩ := zlk_ok hv
            obtain ⟨hn, hc10⟩ := zNF_of hc
            have hi := (hN i (by omega)).1
            obtain ⟨-, ⟨ty0, hty⟩, hnm⟩ := zcls hc
            obtain ⟨hfin, hd⟩ := hp (zfr_none hz)
            exact va_put hx hb hts (fun w h => List.mem_cons_of_mem _ ((zcls hc).1 w h)) ty0 hty hnm hown hK hP (hD σ) hS i (zW_obj hi hs (by omega)) hc q hq (hWL _ hlink) (fun z hz => by rw [hT] at hz; exact hz) hfin hd (by rw [ht]; rfl) (by rw [ht]; rfl) (by rw [zfs_len]; omega) hdec (fun H1 locs1 hP1 _ hS1 => kn _ _ _ _ rfl H1 locs1 ls (by have hP2 : va_P D vwCl ((zW cI ad sh N σ).set i (ad i, .inr (ci, (zfs ad σ ci i).set q (.int x0)))) H1 := hP1; rw [zW_putf hs (by omega) hz] at hP2; exact hP2) hS1 hl)
          · rw [if_neg hs] at ha; cases ha
        · rename_i hz ht
          by_cases hs : sh i = ci ∧ (x0 = 0 ∨ x0 = 1)
          · rw [if_pos hs] at ha
            obtain ⟨hs, hx01⟩ := hs
            cases ha
            obtain ⟨C, T, n, hc, hq, hlink, hT, hp⟩ := zlk_ok hv
            obtain ⟨hn, hc10⟩ := zNF_of hc
            have hi := (hN i (by omega)).1
            obtain ⟨-, ⟨ty0, hty⟩, hnm⟩ := zcls hc
            obtain ⟨hfin, hd⟩ := hp (zfr_none hz)
            exact va_put hx hb hts (fun w h => List.mem_cons_of_mem _ ((zcls hc).1 w h)) ty0 hty hnm hown hK hP (hD σ) hS i (zW_obj hi hs (by omega)) hc q hq (hWL _ hlink) (fun z hz => by rw [hT] at hz; exact hz) hfin hd (by rw [ht]; rcases hx01 with rfl | rfl <;> rfl) (by rw [ht]; rcases hx01 with rfl | rfl <;> rfl) (by rw [zfs_len]; omega) hdec (fun H1 locs1 hP1 _ hS1 => kn _ _ _ _ rfl H1 locs1 ls (by have hP2 : va_P D vwCl ((zW cI ad sh N σ).set i (ad i, .inr (ci, (zfs ad σ ci i).set q (.int x0)))) H1 := hP1; rw [zW_putf hs (by omega) hz] at hP2; exact hP2) hS1 hl)
          · rw [if_neg hs] at ha; cases ha
        · cases ha
      · rename_i ci q hv
        split at ha
        · rename_i hz ht
          by_cases hs : sh i = ci
          · rw [if_pos hs] at ha
            cases ha
            obtain ⟨C, T, n, hc, hq, hlink, hT, hp⟩ := zlk_ok hv
            obtain ⟨hn, hc10⟩ := zNF_of hc
            have hi := (hN i (by omega)).1
            obtain ⟨-, ⟨ty0, hty⟩, hnm⟩ := zcls hc
            obtain ⟨hfin, hd⟩ := hp (zfr_none hz)
            exact va_putN hx hb hts (fun w h => List.mem_cons_of_mem _ ((zcls hc).1 w h)) ty0 hty hnm hown hK hP (hD σ) hS i (zW_obj hi hs (by omega)) hc q hq (va_Nw.use rfl (h0.2.2.2.2 _ hlink)) (fun z hz => by rw [hT] at hz; exact hz) hfin hd (by rw [ht]; rfl) (by rw [ht]; rfl) (by rw [zfs_len]; omega) hdec (fun H1 locs1 hP1 _ hS1 => kn _ _ _ _ rfl H1 locs1 ls (by have hP2 : va_P D vwCl ((zW cI ad sh N σ).set i (ad i, .inr (ci, (zfs ad σ ci i).set q (.int x0)))) H1 := hP1; rw [zW_putf hs (by omega) hz] at hP2; exact hP2) hS1 hl)
          · rw [if_neg hs] at ha; cases ha
        · cases ha
      · cases ha
    · cases ha
  case getstatic k =>
    obtain rfl : len = 3 := eq_of_beq hlen
    split at ha
    · rename_i hv
      cases ha
      exact va_gets hx hb h0.2.1 hS hown (hWL _ (zlk_ok hv)) (fun _ h => h) hdec (kn _ _ _ _ rfl H locs ls hP hS hl)
    · rename_i hv
      cases ha
      exact va_gets hx hb h0.2.2.1 hS hown (hWL _ (zlk_ok hv)) (fun _ h => h) hdec (kn _ _ _ _ rfl H locs ls hP hS hl)
    · cases ha
  case iaload =>
    obtain rfl : len = 1 := eq_of_beq hlen
    split at ha
    · rename_i j i r0
      split at ha
      · rename_i hi
        cases ha
        obtain ⟨h1, h2⟩ := zin_of hi
        exact va_iald hx hb hK hP i 0 (zW_arr (hN i (by omega)).1 h1) rfl h2 hdec (kn _ _ _ _ rfl H locs ls hP hS hl)
      · cases ha
    · cases ha
  case iastore =>
    obtain rfl : len = 1 := eq_of_beq hlen
    split at ha
    · rename_i x0 j i r0
      split at ha
      · rename_i hi
        cases ha
        obtain ⟨h1, h2⟩ := zin_of hi
        exact va_iast hx hb hK hP (hD σ) hS i 0 (zW_arr (hN i (by omega)).1 h1) rfl h2 hdec (fun H1 locs1 hP1 _ hS1 => kn _ _ _ _ rfl H1 locs1 ls (by rw [zW_puta h1] at hP1; exact hP1) hS1 hl)
      · cases ha
    · cases ha
  case baload =>
    obtain rfl : len = 1 := eq_of_beq hlen
    split at ha
    · rename_i j i r0
      split at ha
      · rename_i hi
        obtain ⟨n, rfl, hn⟩ := zrng2 ⟨hi.1, hi.2.1⟩
        have h8 := hi.2.2
        rw [Nat.add_sub_cancel_left] at h8 ha
        cases ha
        have h9 := (h0.1.1 n hn).2.2.2
        exact va_tb hx hb h9 hS (zbin_of h8) rfl hdec (kn _ _ _ _ rfl H locs ls hP hS hl)
      · cases ha
    · cases ha
  case arraylength =>
    obtain rfl : len = 1 := eq_of_beq hlen
    split at ha
    · rename_i i r0
      split at ha
      · split at ha
        · rename_i h1
          cases ha
          exact va_alen hx hb hK hP i 0 (zW_arr (hN i (by omega)).1 h1) rfl rfl hdec (kn _ _ _ _ rfl H locs ls hP hS hl)
        · cases ha
      · split at ha
        · rename_i hi
          obtain ⟨n, rfl, hn⟩ := zrng2 hi
          rw [Nat.add_sub_cancel_left] at ha
          cases ha
          have h9 := (h0.1.1 n hn).2.2.2
          exact va_tlen hx hb h9 hS rfl hdec (kn _ _ _ _ rfl H locs ls hP hS hl)
        · cases ha
    · cases ha
  case invokevirtual k =>
    obtain rfl : len = 3 := eq_of_beq hlen
    split at ha
    · rename_i cm q hv
      obtain ⟨mi, hmi, hlink⟩ := zlk_ok hv
      rw [zcall, hmi] at ha
      obtain ⟨own', y', cc', maxL', ret', fr', lo', np', stat', tb'⟩ := mi
      dsimp only at ha hlink
      split at ha
      · rename_i hR
        obtain ⟨hR1, hR2, hst⟩ := hR
        split at ha
        · rename_i as rest hsp
          obtain ⟨hsp1, hsp2⟩ := zsplit_eq _ _ _ _ _ hsp
          obtain ⟨-, hcode', hini', hcls', hplain', hmh', hpar', hkind'⟩ := zMs_ok _ (List.mem_of_getElem? hmi)
          have hG : GoodIn (Jvm.Cond.code y cc maxL ret :: zWL) (Jvm.Cond.code y' cc' maxL' ret' :: zWL) := zGI (fun w h => by
            rcases List.mem_cons.mp h with h | h
            · rw [h]; exact hcode'
            · exact h)
          have hini2 := hWL _ hini'
          obtain rfl : stat' = false := hst
          dsimp only at hkind'
          split at ha
          · rename_i hrest b rest'
            split at ha
            · rename_i hcat
              split at ha
              · rename_i hrecv
                cases ha
                obtain ⟨r1, σ1, hM, hW2⟩ := kc _ _ _ _ rfl
                have hM2 := hM _ _ _ _ _ _ _ _ _ _ (.ref b :: as) hmi rfl hcat.2
                have hrc : ∃ cellB : Cell, H[ad b]? = some cellB ∧ cellB.vm.isStatics = false ∧ s.vm.findClass y'.cls = some cellB.cls := by
                  rw [zrecv] at hrecv
                  split at hrecv
                  · rename_i ho
                    have hs := eq_of_beq hrecv
                    obtain ⟨T, n, hc⟩ := zvw ho
                    rw [hcls']
                    exact va_recv hK hP hc (zW_obj (hN b (by omega)).1 hs (by omega))
                  · rename_i ho
                    have ho2 := List.all_eq_true.mp zMs_vir _ (List.mem_of_getElem? hmi)
                    simp only [Bool.false_or, Bool.or_eq_true, decide_eq_true_eq, beq_iff_eq] at ho2
                    have ho3 : own' = 12 := by omega
                    subst ho3
                    simp only [Bool.and_eq_true, decide_eq_true_eq] at hrecv
                    rw [hcls']
                    obtain ⟨n, rfl, hn⟩ := zrng1 hrecv
                    exact vk_recv h0.1 (i := n) hn hS
                have hst2 : st = as.reverse ++ .ref b :: rest' := hsp1.symm
                have hst3 : st.map (zv ad fv) = (as.map (zv ad fv)).reverse ++ .ref (ad b) :: rest'.map (zv ad fv) := by rw [hst2, List.map_append, List.map_reverse]; rfl
                refine z_call (r1 := r1) (σ1 := σ1) (rest := rest'.map (zv ad fv)) (va_runV (As := as.map (zv ad fv)) (b := ad b) ⟨hx, hb, hml, hown, hts⟩ hM2 ⟨callB_of np' hts hG rfl rfl rfl hini2 (hWL _ hlink) ⟨hmh'.1, hmh'.2, hpar'⟩ ⟨hR1, hR2⟩, hWL _ hkind'.1, hWL _ hkind'.2⟩ ⟨zPre_blind, hrc, fun U hU hW => ⟨rfl, by rw [hU]; exact hP, va_K.moved hW.alike hK, h0.next hS hU hW⟩⟩ rfl (by rw [List.length_map]; exact hsp2) hls hst3 (lv_room (by rw [zcat_sum hf]; exact hcat.1)) hdec ⟨Nat.le_refl _, Nat.le_refl _⟩) hS (fun H1 locs1 hP1 hS1 => ?_)
                · have h9 := hW2 H1 locs1 hP1 hS1
                  cases r1 <;> exact h9
              · cases ha
            · cases ha
          · cases ha
        · cases ha
      · cases ha
    · rename_i cm q hv
      obtain ⟨mi, hmi, hlink⟩ := zlk_ok hv
      rw [zcall, hmi] at ha
      obtain ⟨own', y', cc', maxL', ret', fr', lo', np', stat', tb'⟩ := mi
      dsimp only at ha hlink
      split at ha
      · rename_i hR
        obtain ⟨hR1, hR2, hst⟩ := hR
        split at ha
        · rename_i as rest hsp
          obtain ⟨hsp1, hsp2⟩ := zsplit_eq _ _ _ _ _ hsp
          obtain ⟨-, hcode', hini', hcls', hplain', hmh', hpar', hkind'⟩ := zMs_ok _ (List.mem_of_getElem? hmi)
          have hG : GoodIn (Jvm.Cond.code y cc maxL ret :: zWL) (Jvm.Cond.code y' cc' maxL' ret' :: zWL) := zGI (fun w h => by
            rcases List.mem_cons.mp h with h | h
            · rw [h]; exact hcode'
            · exact h)
          have hini2 := hWL _ hini'
          obtain rfl : stat' = false := hst
          dsimp only at hkind'
          split at ha
          · rename_i hrest b rest'
            split at ha
            · rename_i hcat
              split at ha
              · rename_i hrecv
                cases ha
                obtain ⟨r1, σ1, hM, hW2⟩ := kc _ _ _ _ rfl
                have hM2 := hM _ _ _ _ _ _ _ _ _ _ (.ref b :: as) hmi rfl hcat.2
                have hrc : ∃ cellB : Cell, H[ad b]? = some cellB ∧ cellB.vm.isStatics = false ∧ s.vm.findClass y'.cls = some cellB.cls := by
                  rw [zrecv] at hrecv
                  split at hrecv
                  · rename_i ho
                    have hs := eq_of_beq hrecv
                    obtain ⟨T, n, hc⟩ := zvw ho
                    rw [hcls']
                    exact va_recv hK hP hc (zW_obj (hN b (by omega)).1 hs (by omega))
                  · rename_i ho
                    have ho2 := List.all_eq_true.mp zMs_vir _ (List.mem_of_getElem? hmi)
                    simp only [Bool.false_or, Bool.or_eq_true, decide_eq_true_eq, beq_iff_eq] at ho2
                    have ho3 : own' = 12 := by omega
                    subst ho3
                    simp only [Bool.and_eq_true, decide_eq_true_eq] at hrecv
                    rw [hcls']
                    obtain ⟨n, rfl, hn⟩ := zrng1 hrecv
                    exact vk_recv h0.1 (i := n) hn hS
                have hst2 : st = as.reverse ++ .ref b :: rest' := hsp1.symm
                have hst3 : st.map (zv ad fv) = (as.map (zv ad fv)).reverse ++ .ref (ad b) :: rest'.map (zv ad fv) := by rw [hst2, List.map_append, List.map_reverse]; rfl
                refine z_call (r1 := r1) (σ1 := σ1) (rest := rest'.map (zv ad fv)) (va_runVN (As := as.map (zv ad fv)) (b := ad b) ⟨hx, hb, hml, hown, hts⟩ hM2 ⟨va_cnB np' hts hG rfl rfl rfl (h0.2.2.2.2 _ hlink) hini2 ⟨hmh'.1, hmh'.2, hpar'⟩ ⟨hR1, hR2⟩, hWL _ hkind'.1, hWL _ hkind'.2⟩ ⟨zPre_blind, hrc, fun U hU hW => ⟨rfl, by rw [hU]; exact hP, va_K.moved hW.alike hK, h0.next hS hU hW⟩⟩ rfl (by rw [List.length_map]; exact hsp2) hls hst3 (lv_room (by rw [zcat_sum hf]; exact hcat.1)) hdec ⟨Nat.le_refl _, Nat.le_refl _⟩) hS (fun H1 locs1 hP1 hS1 => ?_)
                · have h9 := hW2 H1 locs1 hP1 hS1
                  cases r1 <;> exact h9
              · cases ha
            · cases ha
          · cases ha
        · cases ha
      · cases ha
    · cases ha
  case invokestatic k =>
    obtain rfl : len = 3 := eq_of_beq hlen
    split at ha
    · rename_i cm q hv
      obtain ⟨mi, hmi, hlink⟩ := zlk_ok hv
      rw [zcall, hmi] at ha
      obtain ⟨own', y', cc', maxL', ret', fr', lo', np', stat', tb'⟩ := mi
      dsimp only at ha hlink
      split at ha
      · rename_i hR
        obtain ⟨hR1, hR2, hst⟩ := hR
        split at ha
        · rename_i as rest hsp
          obtain ⟨hsp1, hsp2⟩ := zsplit_eq _ _ _ _ _ hsp
          obtain ⟨-, hcode', hini', hcls', hplain', hmh', hpar', hkind'⟩ := zMs_ok _ (List.mem_of_getElem? hmi)
          have hG : GoodIn (Jvm.Cond.code y cc maxL ret :: zWL) (Jvm.Cond.code y' cc' maxL' ret' :: zWL) := zGI (fun w h => by
            rcases List.mem_cons.mp h with h | h
            · rw [h]; exact hcode'
            · exact h)
          have hini2 := hWL _ hini'
          obtain rfl : stat' = true := hst
          dsimp only at hkind'
          split at ha
          · rename_i hcat
            cases ha
            obtain ⟨r1, σ1, hM, hW2⟩ := kc _ _ _ _ rfl
            have hM2 := hM _ _ _ _ _ _ _ _ _ _ as hmi rfl hcat.2
            have hst2 : st = as.reverse ++ rest := hsp1.symm
            have hst3 : st.map (zv ad fv) = (as.map (zv ad fv)).reverse ++ rest.map (zv ad fv) := by rw [hst2, List.map_append, List.map_reverse]
            refine z_call (r1 := r1) (σ1 := σ1) (rest := rest.map (zv ad fv)) (va_runS (As := as.map (zv ad fv)) ⟨hx, hb, hml, hown, hts⟩ hM2 ⟨callB_of np' hts hG rfl rfl rfl hini2 (hWL _ hlink) ⟨hmh'.1, hmh'.2, hpar'⟩ ⟨hR1, hR2⟩, hWL _ hkind'⟩ ⟨zPre_blind, fun U hU hW => ⟨rfl, by rw [hU]; exact hP, va_K.moved hW.alike hK, h0.next hS hU hW⟩⟩ rfl (by rw [List.length_map]; exact hsp2) hls hst3 (lv_room (by rw [zcat_sum hf]; exact hcat.1)) hdec ⟨Nat.le_refl _, Nat.le_refl _⟩) hS (fun H1 locs1 hP1 hS1 => ?_)
            · have h9 := hW2 H1 locs1 hP1 hS1
              cases r1 <;> exact h9
          · cases ha
        · cases ha
      · cases ha
    · rename_i cm q hv
      obtain ⟨mi, hmi, hlink⟩ := zlk_ok hv
      rw [zcall, hmi] at ha
      obtain ⟨own', y', cc', maxL', ret', fr', lo', np', stat', tb'⟩ := mi
      dsimp only at ha hlink
      split at ha
      · rename_i hR
        obtain ⟨hR1, hR2, hst⟩ := hR
        split at ha
        · rename_i as rest hsp
          obtain ⟨hsp1, hsp2⟩ := zsplit_eq _ _ _ _ _ hsp
          obtain ⟨-, hcode', hini', hcls', hplain', hmh', hpar', hkind'⟩ := zMs_ok _ (List.mem_of_getElem? hmi)
          have hG : GoodIn (Jvm.Cond.code y cc maxL ret :: zWL) (Jvm.Cond.code y' cc' maxL' ret' :: zWL) := zGI (fun w h => by
            rcases List.mem_cons.mp h with h | h
            · rw [h]; exact hcode'
            · exact h)
          have hini2 := hWL _ hini'
          obtain rfl : stat' = true := hst
          dsimp only at hkind'
          split at ha
          · rename_i hcat
            cases ha
            obtain ⟨r1, σ1, hM, hW2⟩ := kc _ _ _ _ rfl
            have hM2 := hM _ _ _ _ _ _ _ _ _ _ as hmi rfl hcat.2
            have hst2 : st = as.reverse ++ rest := hsp1.symm
            have hst3 : st.map (zv ad fv) = (as.map (zv ad fv)).reverse ++ rest.map (zv ad fv) := by rw [hst2, List.map_append, List.map_reverse]
            refine z_call (r1 := r1) (σ1 := σ1) (rest := rest.map (zv ad fv)) (va_runSN (As := as.map (zv ad fv)) ⟨hx, hb, hml, hown, hts⟩ hM2 ⟨va_cnB np' hts hG rfl rfl rfl (h0.2.2.2.2 _ hlink) hini2 ⟨hmh'.1, hmh'.2, hpar'⟩ ⟨hR1, hR2⟩, hWL _ hkind', trivial⟩ ⟨zPre_blind, fun U hU hW => ⟨rfl, by rw [hU]; exact hP, va_K.moved hW.alike hK, h0.next hS hU hW⟩⟩ rfl (by rw [List.length_map]; exact hsp2) hls hst3 (lv_room (by rw [zcat_sum hf]; exact hcat.1)) hdec ⟨Nat.le_refl _, Nat.le_refl _⟩) hS (fun H1 locs1 hP1 hS1 => ?_)
            · have h9 := hW2 H1 locs1 hP1 hS1
              cases r1 <;> exact h9
          · cases ha
        · cases ha
      · cases ha
    · rename_i q hv
      split at ha
      · rename_i y0 x0 r0
        split at ha
        · rename_i hR
          cases ha
          exact va_mmin hx hb (hml.trans hls.symm) hown (hWL _ (zlk_ok hv)) (hWL _ zma_min.1) (hWL _ zma_ini) (hWL _ zma_min.2) hR.1 (by rw [zcat_sum hf]; exact hR.2) (Nat.le_refl _) (Nat.le_refl _) hdec (kn _ _ _ _ rfl H locs ls hP hS hl)
        · cases ha
      · cases ha
    · rename_i q hv
      split at ha
      · rename_i y0 x0 r0
        split at ha
        · rename_i hR
          cases ha
          exact va_mmax hx hb (hml.trans hls.symm) hown (hWL _ (zlk_ok hv)) (hWL _ zma_max.1) (hWL _ zma_ini) (hWL _ zma_max.2) hR.1 (by rw [zcat_sum hf]; exact hR.2) (Nat.le_refl _) (Nat.le_refl _) hdec (kn _ _ _ _ rfl H locs ls hP hS hl)
        · cases ha
      · cases ha
    · rename_i q hv
      split at ha
      · rename_i x0 r0
        split at ha
        · rename_i hR
          cases ha
          exact va_mabs hx hb (hml.trans hls.symm) hown (hWL _ (zlk_ok hv)) (hWL _ zma_abs.1) (hWL _ zma_ini) (hWL _ zma_abs.2) hR.1 (by rw [zcat_sum hf]; exact hR.2) (Nat.le_refl _) (Nat.le_refl _) hdec (kn _ _ _ _ rfl H locs ls hP hS hl)
        · cases ha
      · cases ha
    · cases ha
  case ireturn =>
    obtain rfl : len = 1 := eq_of_beq hlen
    split at ha
    · rename_i v
      unfold zret at ha
      split at ha
      · cases ha
        obtain ⟨rfl, rfl⟩ := kr _ _ rfl
        exact W.iret hx hb hr (fun t ht hW => ⟨rfl, by rw [ht]; exact hP, hS.F ht⟩) hS.2.2 hdec hlocks
      · split at ha
        · rename_i hv
          cases ha
          obtain ⟨rfl, rfl⟩ := kr _ _ rfl
          exact W.zret hx hb hr (by rcases hv with rfl | rfl <;> rfl) (fun t ht hW => ⟨rfl, by rw [ht]; exact hP, hS.F ht⟩) hS.2.2 hdec hlocks
        · cases ha
      · split at ha
        · rename_i hv
          cases ha
          obtain ⟨rfl, rfl⟩ := kr _ _ rfl
          exact W.zret hx hb hr (congrArg Value.int hv) (fun t ht hW => ⟨rfl, by rw [ht]; exact hP, hS.F ht⟩) hS.2.2 hdec hlocks
        · cases ha
      · split at ha
        · rename_i hv
          cases ha
          obtain ⟨rfl, rfl⟩ := kr _ _ rfl
          exact W.zret hx hb hr (congrArg Value.int hv) (fun t ht hW => ⟨rfl, by rw [ht]; exact hP, hS.F ht⟩) hS.2.2 hdec hlocks
        · cases ha
      · cases ha
    · cases ha
  case lreturn =>
    obtain rfl : len = 1 := eq_of_beq hlen
    split at ha
    · rename_i v
      split at ha
      · cases ha
        obtain ⟨rfl, rfl⟩ := kr _ _ rfl
        exact W.lret hx hb hr (fun t ht hW => ⟨rfl, by rw [ht]; exact hP, hS.F ht⟩) hS.2.2 hdec hlocks
      · cases ha
    · cases ha
  case areturn =>
    obtain rfl : len = 1 := eq_of_beq hlen
    split at ha
    · rename_i v
      split at ha
      · cases ha
        obtain ⟨rfl, rfl⟩ := kr _ _ rfl
        exact W.aret hx hb hr (Or.inl ⟨_, rfl⟩) (Or.inr ⟨_, rfl⟩) (fun t ht hW => ⟨rfl, by rw [ht]; exact hP, hS.F ht⟩) hS.2.2 hdec hlocks
      · cases ha
    · cases ha
  case return_ =>
    obtain rfl : len = 1 := eq_of_beq hlen
    split at ha
    · split at ha
      · cases ha
        obtain ⟨rfl, rfl⟩ := kr _ _ rfl
        exact W.vret hx hb hr (fun t ht hW => ⟨rfl, by rw [ht]; exact hP, hS.F ht⟩) hS.2.2 hdec hlocks
      · cases ha
    · cases ha
