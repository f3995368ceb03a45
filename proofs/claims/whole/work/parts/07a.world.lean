/-! The small machine's values, places and heap as the machine has them. -/
def zv (ad : Nat → Nat) (fv : Value) : Value → Value
  | .ref i => .ref (ad i)
  | .float _ => fv
  | v => v
theorem zv_cat {ad : Nat → Nat} {fv : Value} (hf : fv.category = 1) (v : Value) : (zv ad fv v).category = v.category := by
  cases v <;> first | rfl | exact hf
def zAs (f : Value → Value) : Nat → zL → List (Nat × Value)
  | _, [] => []
  | i, none :: t => zAs f (i + 1) t
  | i, some v :: t => (i, f v) :: zAs f (i + 1) t
theorem zAs_mem {f : Value → Value} {v : Value} : ∀ (l : zL) (i k : Nat), l[k]? = some (some v) → (i + k, f v) ∈ zAs f i l := by
  intro l
  induction l with
  | nil => intro i k h; simp at h
  | cons o t ih =>
    intro i k h
    cases k with
    | zero =>
      rw [List.getElem?_cons_zero] at h
      cases h
      exact List.mem_cons_self
    | succ k =>
      rw [List.getElem?_cons_succ] at h
      have h2 := ih (i + 1) k h
      rw [show i + 1 + k = i + (k + 1) by omega] at h2
      cases o with
      | none => exact h2
      | some w => exact List.mem_cons_of_mem _ h2
theorem zAs_inv {f : Value → Value} {j : Nat} {w : Value} : ∀ (l : zL) (i : Nat), (j, w) ∈ zAs f i l → ∃ (k : Nat) (v : Value), j = i + k ∧ l[k]? = some (some v) ∧ w = f v := by
  intro l
  induction l with
  | nil => intro i h; cases h
  | cons o t ih =>
    intro i h
    cases o with
    | none =>
      obtain ⟨k, v, h1, h2, h3⟩ := ih (i + 1) h
      exact ⟨k + 1, v, by omega, by rw [List.getElem?_cons_succ]; exact h2, h3⟩
    | some u =>
      rcases List.mem_cons.mp h with h | h
      · cases h
        exact ⟨0, u, rfl, rfl, rfl⟩
      · obtain ⟨k, v, h1, h2, h3⟩ := ih (i + 1) h
        exact ⟨k + 1, v, by omega, by rw [List.getElem?_cons_succ]; exact h2, h3⟩
theorem zset1_len : ∀ (l : zL) (i : Nat) (v : Value), (zset1 l i v).length = l.length := by
  intro l
  induction l with
  | nil => intro i v; rfl
  | cons o t ih =>
    intro i v
    match i with
    | 0 => rfl
    | 1 => show (zset1 t 0 v).length + 1 = _; rw [ih]; rfl
    | i + 2 => show (zset1 t (i + 1) v).length + 1 = _; rw [ih]; rfl
theorem zput2_len : ∀ (l : zL) (v : Value), (zput2 l v).length = l.length := by
  intro l v
  match l with
  | [] => rfl
  | [_] => rfl
  | _ :: _ :: _ => rfl
theorem zset2_len : ∀ (l : zL) (i : Nat) (v : Value), (zset2 l i v).length = l.length := by
  intro l
  induction l with
  | nil => intro i v; cases i <;> rfl
  | cons o t ih =>
    intro i v
    match i with
    | 0 => exact zput2_len _ _
    | 1 => show (zput2 t v).length + 1 = _; rw [zput2_len]; rfl
    | i + 2 => show (zset2 t (i + 1) v).length + 1 = _; rw [ih]; rfl
theorem zdrop2_some {o : Option Value} {u : Value} (h : zdrop2 o = some u) : o = some u ∧ ¬ u.category = 2 := by
  cases o with
  | none => cases h
  | some w =>
    rw [zdrop2] at h
    by_cases hc : w.category = 2
    · rw [if_pos hc] at h; cases h
    · rw [if_neg hc] at h; cases h; exact ⟨rfl, hc⟩
theorem zset1_get {v u : Value} : ∀ (l : zL) (i k : Nat), (zset1 l i v)[k]? = some (some u) → (k = i ∧ u = v) ∨ (k ≠ i ∧ l[k]? = some (some u) ∧ (k + 1 = i → ¬ u.category = 2)) := by
  intro l
  induction l with
  | nil => intro i k h; simp [zset1] at h
  | cons o t ih =>
    intro i k h
    match i, k with
    | 0, 0 => simp only [zset1, List.getElem?_cons_zero, Option.some.injEq] at h; exact Or.inl ⟨rfl, h.symm⟩
    | 0, k + 1 => exact Or.inr ⟨by omega, h, by omega⟩
    | 1, 0 =>
      simp only [zset1, List.getElem?_cons_zero, Option.some.injEq] at h
      obtain ⟨h1, h2⟩ := zdrop2_some h
      exact Or.inr ⟨by omega, by rw [h1]; rfl, fun _ => h2⟩
    | 1, k + 1 =>
      rcases ih 0 k h with ⟨h1, h2⟩ | ⟨h1, h2, h3⟩
      · exact Or.inl ⟨by omega, h2⟩
      · exact Or.inr ⟨by omega, h2, by omega⟩
    | i + 2, 0 =>
      simp only [zset1, List.getElem?_cons_zero, Option.some.injEq] at h
      exact Or.inr ⟨by omega, by rw [h]; rfl, by omega⟩
    | i + 2, k + 1 =>
      rcases ih (i + 1) k h with ⟨h1, h2⟩ | ⟨h1, h2, h3⟩
      · exact Or.inl ⟨by omega, h2⟩
      · exact Or.inr ⟨by omega, h2, fun e => h3 (by omega)⟩
theorem zput2_get {v u : Value} (l : zL) (k : Nat) (hl : 1 < l.length) (h : (zput2 l v)[k]? = some (some u)) : (k = 0 ∧ u = v) ∨ (k ≠ 0 ∧ k ≠ 1 ∧ l[k]? = some (some u)) := by
  match l, k, hl, h with
  | _ :: _ :: _, 0, _, h => simp only [zput2, List.getElem?_cons_zero, Option.some.injEq] at h; exact Or.inl ⟨rfl, h.symm⟩
  | _ :: _ :: _, 1, _, h => simp [zput2] at h
  | _ :: _ :: _, k + 2, _, h => exact Or.inr ⟨by omega, by omega, h⟩
theorem zset2_get {v u : Value} : ∀ (l : zL) (i k : Nat), i + 1 < l.length → (zset2 l i v)[k]? = some (some u) → (k = i ∧ u = v) ∨ (k ≠ i ∧ k ≠ i + 1 ∧ l[k]? = some (some u) ∧ (k + 1 = i → ¬ u.category = 2)) := by
  intro l
  induction l with
  | nil => intro i k hl h; simp at hl
  | cons o t ih =>
    intro i k hl h
    match i, k with
    | 0, k =>
      rcases zput2_get (o :: t) k (by simpa using hl) h with ⟨h1, h2⟩ | ⟨h1, h2, h3⟩
      · exact Or.inl ⟨h1, h2⟩
      · exact Or.inr ⟨h1, by omega, h3, by omega⟩
    | 1, 0 =>
      simp only [zset2, List.getElem?_cons_zero, Option.some.injEq] at h
      obtain ⟨h1, h2⟩ := zdrop2_some h
      exact Or.inr ⟨by omega, by omega, by rw [h1]; rfl, fun _ => h2⟩
    | 1, k + 1 =>
      rcases zput2_get t k (by simp at hl; omega) h with ⟨h1, h2⟩ | ⟨h1, h2, h3⟩
      · exact Or.inl ⟨by omega, h2⟩
      · exact Or.inr ⟨by omega, by omega, h3, by omega⟩
    | i + 2, 0 =>
      simp only [zset2, List.getElem?_cons_zero, Option.some.injEq] at h
      exact Or.inr ⟨by omega, by omega, by rw [h]; rfl, by omega⟩
    | i + 2, k + 1 =>
      rcases ih (i + 1) k (by simp at hl; omega) h with ⟨h1, h2⟩ | ⟨h1, h2, h3, h4⟩
      · exact Or.inl ⟨by omega, h2⟩
      · exact Or.inr ⟨by omega, by omega, h3, fun e => h4 (by omega)⟩
/-- the locals -/
def zLV (f : Value → Value) (ls : Array Slot) (n : Nat) (lv : zL) : Prop := lv_has ls n (zAs f 0 lv) ∧ lv.length = n
theorem lv_less {ls : Array Slot} {n : Nat} {l l' : List (Nat × Value)} (h : lv_has ls n l) (hs : ∀ q ∈ l', q ∈ l) : lv_has ls n l' := ⟨h.1, h.2.1, fun q hq => h.2.2 q (hs q hq)⟩
theorem zLV_at {f : Value → Value} {ls : Array Slot} {n k : Nat} {lv : zL} {v : Value} (h : zLV f ls n lv) (hk : lv[k]? = some (some v)) : ls[k]? = some (.val (f v)) := by
  have h2 := h.1.2.2 _ (zAs_mem lv 0 k hk)
  rw [Nat.zero_add] at h2
  exact h2
theorem zset1_sub {f : Value → Value} (hf : ∀ v, (f v).category = v.category) {lv : zL} {i : Nat} {v : Value} : ∀ q ∈ zAs f 0 (zset1 lv i v), q ∈ (i, f v) :: (zAs f 0 lv).filter (fun q => !(q.1 == i) && !(q.1 + 1 == i && q.2.category == 2)) := by
  rintro ⟨j, w⟩ hq
  obtain ⟨k, u, h1, h2, h3⟩ := zAs_inv _ _ hq
  rcases zset1_get lv i k h2 with ⟨h4, h5⟩ | ⟨h4, h5, h6⟩
  · subst h4; subst h5; subst h3; rw [h1, Nat.zero_add]; exact List.mem_cons_self
  · refine List.mem_cons_of_mem _ (List.mem_filter.mpr ⟨by rw [h1, h3]; exact zAs_mem lv 0 k h5, ?_⟩)
    have e : j = k := by omega
    subst e
    subst h3
    by_cases hi : j + 1 = i
    · have h7 := h6 hi
      simp [h4, hf, h7]
    · simp [h4, hi]
theorem zset2_sub {f : Value → Value} (hf : ∀ v, (f v).category = v.category) {lv : zL} {i : Nat} {v : Value} (hl : i + 1 < lv.length) : ∀ q ∈ zAs f 0 (zset2 lv i v), q ∈ (i, f v) :: (zAs f 0 lv).filter (fun q => !(q.1 == i) && (!(q.1 == i + 1) && !(q.1 + 1 == i && q.2.category == 2))) := by
  rintro ⟨j, w⟩ hq
  obtain ⟨k, u, h1, h2, h3⟩ := zAs_inv _ _ hq
  rcases zset2_get lv i k hl h2 with ⟨h4, h5⟩ | ⟨h4, h4b, h5, h6⟩
  · subst h4; subst h5; subst h3; rw [h1, Nat.zero_add]; exact List.mem_cons_self
  · refine List.mem_cons_of_mem _ (List.mem_filter.mpr ⟨by rw [h1, h3]; exact zAs_mem lv 0 k h5, ?_⟩)
    have e : j = k := by omega
    subst e
    subst h3
    by_cases hi : j + 1 = i
    · have h7 := h6 hi
      simp [h4, h4b, hf, h7]
    · simp [h4, h4b, hi]
theorem zset1_LV {f : Value → Value} (hf : ∀ v, (f v).category = v.category) {ls : Array Slot} {n i : Nat} {lv : zL} {v : Value} (hn : lv.length = n) (h : lv_has ls n ((i, f v) :: (zAs f 0 lv).filter (fun q => !(q.1 == i) && !(q.1 + 1 == i && q.2.category == 2)))) : zLV f ls n (zset1 lv i v) :=
  ⟨lv_less h (zset1_sub hf), by rw [zset1_len]; exact hn⟩
theorem zset2_LV {f : Value → Value} (hf : ∀ v, (f v).category = v.category) {ls : Array Slot} {n i : Nat} {lv : zL} {v : Value} (hn : lv.length = n) (hl : i + 1 < lv.length) (h : lv_has ls n ((i, f v) :: (zAs f 0 lv).filter (fun q => !(q.1 == i) && (!(q.1 == i + 1) && !(q.1 + 1 == i && q.2.category == 2))))) : zLV f ls n (zset2 lv i v) :=
  ⟨lv_less h (zset2_sub hf hl), by rw [zset2_len]; exact hn⟩
theorem zset0_LV {f : Value → Value} {ls ls0 : Array Slot} {n i : Nat} {lv : zL} {x y : Int32} (hx : f (.int x) = .int x) (hy : f (.int y) = .int y) (hn : lv.length = n) (h0 : lv_has ls0 n (zAs f 0 lv)) (hi : lv[i]? = some (some (.int x))) (h : lv_has ls n ((i, .int y) :: (zAs f 0 lv).filter (fun q => !(q.1 == i) && !(q.1 + 1 == i && q.2.category == 2)))) : zLV f ls n (lv.set i (some (.int y))) := by
  refine ⟨lv_less h ?_, by rw [List.length_set]; exact hn⟩
  rintro ⟨j, w⟩ hq
  obtain ⟨k, u, h1, h2, h3⟩ := zAs_inv _ _ hq
  rw [Nat.zero_add] at h1
  subst h1; subst h3
  by_cases hk : j = i
  · subst hk
    have hl := (List.getElem?_eq_some_iff.mp hi).1
    rw [List.getElem?_set_self hl] at h2
    cases h2
    rw [hy]
    exact List.mem_cons_self
  · rw [List.getElem?_set_ne (Ne.symm hk)] at h2
    have hm := zAs_mem (f := f) lv 0 j h2
    rw [Nat.zero_add] at hm
    refine List.mem_cons_of_mem _ (List.mem_filter.mpr ⟨hm, ?_⟩)
    by_cases hj : j + 1 = i
    · by_cases hc : (f u).category = 2
      · exfalso
        have g1 := h0.2.2 _ hm
        have g2 := h0.2.1.1 _ _ g1 hc
        have hm2 := zAs_mem (f := f) lv 0 i hi
        rw [Nat.zero_add] at hm2
        have g3 := h0.2.2 _ hm2
        rw [hj] at g2
        rw [g2] at g3
        cases g3
      · simp [hk, hc]
    · simp [hk, hj]
theorem zarg_as {f : Value → Value} (hf : ∀ v, (f v).category = v.category) : ∀ (as : List Value) (i : Nat), ∀ q ∈ zAs f i (zarg as), q ∈ lv_args i (as.map f) := by
  intro as
  induction as with
  | nil => intro i q h; cases h
  | cons v t ih =>
    intro i q h
    rw [zarg] at h
    rw [List.map_cons, lv_args, hf]
    by_cases hc : v.category = 2
    · rw [if_pos hc] at h ⊢
      rcases List.mem_cons.mp h with h | h
      · rw [h]; exact List.mem_cons_self
      · exact List.mem_cons_of_mem _ (ih _ q h)
    · rw [if_neg hc] at h ⊢
      rcases List.mem_cons.mp h with h | h
      · rw [h]; exact List.mem_cons_self
      · exact List.mem_cons_of_mem _ (ih _ q h)
theorem zAs_pad {f : Value → Value} : ∀ (l : zL) (i k : Nat), zAs f i (l ++ List.replicate k none) = zAs f i l := by
  intro l
  induction l with
  | nil =>
    intro i k
    induction k generalizing i with
    | zero => rfl
    | succ k ih => exact ih (i + 1)
  | cons o t ih =>
    intro i k
    cases o with
    | none => exact ih (i + 1) k
    | some v => exact congrArg (List.cons (i, f v)) (ih (i + 1) k)
theorem zarg_len {f : Value → Value} (hf : ∀ v, (f v).category = v.category) : ∀ (as : List Value), (lg_sl (as.map f)).length = (zarg as).length := by
  intro as
  induction as with
  | nil => rfl
  | cons v t ih =>
    rw [List.map_cons, zarg]
    show (((if (f v).category = 2 then [Slot.val (f v), Slot.second] else [Slot.val (f v)]) ++ lg_sl (t.map f))).length = _
    rw [hf]
    by_cases hc : v.category = 2
    · rw [if_pos hc, if_pos hc]; simp only [List.length_append, List.length_cons, List.length_nil]; omega
    · rw [if_neg hc, if_neg hc]; simp only [List.length_append, List.length_cons, List.length_nil]; omega
theorem zentry_LV {f : Value → Value} (hf : ∀ v, (f v).category = v.category) {as : List Value} {n : Nat} (h : (zarg as).length ≤ n) : zLV f ((lg_sl (as.map f) ++ List.replicate (n - (lg_sl (as.map f)).length) Slot.unset).toArray) n (zpad n (zarg as)) := by
  refine ⟨lv_less (lv_entry (as.map f) (by rw [zarg_len hf]; exact h)) ?_, ?_⟩
  · rw [zpad, zAs_pad]
    exact zarg_as hf as 0
  · rw [zpad, List.length_append, List.length_replicate]; omega
theorem zcat_sum {f : Value → Value} (hf : ∀ v, (f v).category = v.category) : ∀ (st : List Value), ((st.map f).map fun v => v.category).sum = zcat st := by
  intro st
  induction st with
  | nil => rfl
  | cons v t ih => rw [List.map_cons, List.map_cons, List.sum_cons, ih, hf]; rfl
theorem zsplit_eq : ∀ (n : Nat) (acc st as rest : List Value), zsplit n acc st = some (as, rest) → as.reverse ++ rest = acc.reverse ++ st ∧ as.length = n + acc.length := by
  intro n
  induction n with
  | zero => intro acc st as rest h; cases h; exact ⟨rfl, by omega⟩
  | succ n ih =>
    intro acc st as rest h
    cases st with
    | nil => cases h
    | cons v st =>
      obtain ⟨h1, h2⟩ := ih _ _ _ _ h
      refine ⟨?_, by rw [h2, List.length_cons]; omega⟩
      rw [h1, List.reverse_cons, List.append_assoc]
      rfl
/-- the heap's cells -/
def zNF (ci : Nat) : Nat := match vwCl[ci]? with
  | some (_, _, n) => n
  | none => 0
def zfs (ad : Nat → Nat) (σ : zG) (ci i : Nat) : List Value := (List.range (zNF ci)).map fun k => zv ad .null (zread σ ci k i)
def zcell (cI : ClassId) (ad sh : Nat → Nat) (σ : zG) (i : Nat) : va_E := if 100 ≤ sh i then .inl (cI, sh i - 100, .inl (σ i)) else .inr (sh i, zfs ad σ (sh i) i)
def zW (cI : ClassId) (ad sh : Nat → Nat) (N : Nat) (σ : zG) : va_W := (List.range N).map fun i => (ad i, zcell cI ad sh σ i)
section
variable {cI : ClassId} {ad sh : Nat → Nat} {N : Nat} {σ : zG} {i : Nat}
theorem zW_get (hi : i < N) : (zW cI ad sh N σ)[i]? = some (ad i, zcell cI ad sh σ i) := by simp [zW, hi]
theorem zW_obj (hi : i < N) {ci : Nat} (hs : sh i = ci) (hc : ci < 100) : (zW cI ad sh N σ)[i]? = some (ad i, .inr (ci, zfs ad σ ci i)) := by
  rw [zW_get hi, zcell, if_neg (by omega), hs]
theorem zW_arr (hi : i < N) (hc : 100 ≤ sh i) : (zW cI ad sh N σ)[i]? = some (ad i, .inl (cI, sh i - 100, .inl (σ i))) := by
  rw [zW_get hi, zcell, if_pos hc]
theorem zfs_get {ci k : Nat} (hk : k < zNF ci) : (zfs ad σ ci i)[k]? = some (zv ad .null (zread σ ci k i)) := by simp [zfs, hk]
theorem zfs_len {ci : Nat} : (zfs ad σ ci i).length = zNF ci := by simp [zfs]
theorem zup_self {k : Nat} {x : Int32} : zup σ i k x i = upd (σ i) k x := by simp [zup]
theorem zup_ne {k j : Nat} {x : Int32} (h : j ≠ i) : zup σ i k x j = σ j := by simp [zup, h]
theorem zcell_ne {k j : Nat} {x : Int32} (h : j ≠ i) : zcell cI ad sh (zup σ i k x) j = zcell cI ad sh σ j := by
  simp only [zcell, zfs, zread, zup_ne h]
theorem zW_set {e : va_E} {k : Nat} {x : Int32} (he : zcell cI ad sh (zup σ i k x) i = e) : (zW cI ad sh N σ).set i (ad i, e) = zW cI ad sh N (zup σ i k x) := by
  apply List.ext_getElem?
  intro j
  by_cases hj : j = i
  · subst hj
    by_cases hl : j < N
    · rw [List.getElem?_set_self (by simpa [zW] using hl), zW_get hl, he]
    · rw [List.getElem?_eq_none (by simpa [zW] using hl), List.getElem?_eq_none (by simpa [zW] using hl)]
  · rw [List.getElem?_set_ne (Ne.symm hj)]
    by_cases hl : j < N
    · rw [zW_get hl, zW_get hl, zcell_ne hj]
    · rw [List.getElem?_eq_none (by simpa [zW] using hl), List.getElem?_eq_none (by simpa [zW] using hl)]
theorem zfs_set {ci k : Nat} {x : Int32} (hn : zfr ci k i = none) : zfs ad (zup σ i k x) ci i = (zfs ad σ ci i).set k (.int x) := by
  apply List.ext_getElem?
  intro j
  by_cases hl : j < zNF ci
  · rw [zfs_get hl]
    by_cases hj : j = k
    · subst hj
      rw [List.getElem?_set_self (by rw [zfs_len]; exact hl), zread, hn]
      simp [zup, zv, upd]
    · rw [List.getElem?_set_ne (Ne.symm hj), zfs_get hl]
      congr 2
      simp only [zread]
      cases zfr ci j i with
      | some q => rfl
      | none => simp [zup, upd, hj]
  · rw [List.getElem?_eq_none (by rw [zfs_len]; omega), List.getElem?_eq_none (by rw [List.length_set, zfs_len]; omega)]
theorem zW_putf {ci k : Nat} {x : Int32} (hs : sh i = ci) (hc : ci < 100) (hn : zfr ci k i = none) : (zW cI ad sh N σ).set i (ad i, .inr (ci, (zfs ad σ ci i).set k (.int x))) = zW cI ad sh N (zup σ i k x) := by
  apply zW_set
  rw [zcell, if_neg (by omega), hs, zfs_set hn]
theorem zW_puta {k : Nat} {x : Int32} (hc : 100 ≤ sh i) : (zW cI ad sh N σ).set i (ad i, .inl (cI, sh i - 100, .inl (upd (σ i) k x))) = zW cI ad sh N (zup σ i k x) := by
  apply zW_set
  rw [zcell, if_pos hc, zup_self]
/-- the cells' addresses -/
def zAd (ad : Nat → Nat) (N : Nat) : Nat → Prop := fun q => ∃ i, i < N ∧ q = ad i
theorem zW_D (hinj : ∀ a b, a < N → b < N → ad a = ad b → a = b) : va_D (zAd ad N) (zW cI ad sh N σ) := by
  have key : ∀ (k : Nat) (q : Nat × va_E), (zW cI ad sh N σ)[k]? = some q → k < N ∧ q.1 = ad k := by
    intro k q h
    by_cases hk : k < N
    · rw [zW_get hk] at h; cases h; exact ⟨hk, rfl⟩
    · rw [List.getElem?_eq_none (by simpa [zW] using hk)] at h; cases h
  refine ⟨fun a b p q ha hb e => ?_, fun k q h => ?_⟩
  · obtain ⟨h1, h2⟩ := key a p ha
    obtain ⟨h3, h4⟩ := key b q hb
    exact hinj a b h1 h3 (by rw [← h2, ← h4]; exact e)
  · obtain ⟨h1, h2⟩ := key k q h
    exact ⟨k, h1, h2⟩
end
theorem zin_of {j : Int32} {s : Nat} (h : zin j s = true) : 100 ≤ s ∧ vp_in j (s - 100) := by
  simp only [zin, Bool.and_eq_true, decide_eq_true_eq] at h
  exact ⟨h.1, vp_in_iff.mpr h.2⟩
theorem zbin_of {j : Int32} {n : Nat} (h : zbin j n = true) : vp_in j n := by
  simp only [zbin, Bool.and_eq_true, decide_eq_true_eq] at h
  exact vp_in_iff.mpr h
theorem zfr_none {ci k i : Nat} (h : zfr ci k i = none) : zfr ci k 0 = none := by
  unfold zfr at h ⊢
  split at h <;> first | (cases h; done) | rfl
/-- the texts, the statics that are read, the links between nest mates -/
def zK0 (ad : Nat → Nat) (fv : Value) (A : Nat → Prop) (U : State) (H : Heap) : Prop :=
  vk_S 7 zslen zsbyt (fun k => ad (1000 + k)) (fun k => ad (2000 + k)) A U H ∧ va_Z "java/lang/String" "COMPACT_STRINGS" "Z" (.int 1) A U H ∧ va_Z "jdk/internal/util/Preconditions" "SIOOBE_FORMATTER" "Ljava/util/function/BiFunction;" fv A U H ∧ (∀ k, k < 7 → vk_R "BridgeByTwo$Letters" (zsix.getD k 0) (zstx.getD k "") (ad (1000 + k)) U) ∧ ∀ w ∈ zNL, va_Nw w U
theorem zNL_warm {s U : State} (hW : s.WarmedH U.vm) {w : Jvm.Cond} (hw : w ∈ zNL) (h : va_Nw w s) : va_Nw w U := by
  have hn := (List.mem_filter.mp hw).2
  cases w <;> first | (cases hn; done) | exact va_Nw.warmF hW h | exact va_Nw.warmM hW h
theorem zNL_same {u U : State} (hv : u.vm = U.vm) {w : Jvm.Cond} (hw : w ∈ zNL) (h : va_Nw w u) : va_Nw w U := by
  have hn := (List.mem_filter.mp hw).2
  cases w <;> first | (cases hn; done) | exact va_Nw.same rfl hv h
theorem zK0.next {ad : Nat → Nat} {fv : Value} {A : Nat → Prop} {s U : State} {H : Heap} {locs : List Loc} (h : zK0 ad fv A s s.heap) (hS : va_S A s.heap H locs) (hU : U.heap = H) (hW : s.WarmedH U.vm) : zK0 ad fv A U U.heap := by
  obtain ⟨h1, h2, h3, h4, h5⟩ := h
  rw [hU]
  exact ⟨(h1.kept hS.2.1).moved hW.alike, (h2.kept hS.2.1).moved hW.alike, (h3.kept hS.2.1).moved hW.alike, fun k hk => (h4 k hk).warm hW, fun w hw => zNL_warm hW hw (h5 w hw)⟩
theorem zK0.same {ad : Nat → Nat} {fv : Value} {A : Nat → Prop} {u U : State} {H : Heap} (h : zK0 ad fv A u H) (hv : U.vm = u.vm) : zK0 ad fv A U H := by
  obtain ⟨h1, h2, h3, h4, h5⟩ := h
  have ha : u.vm.Alike U.vm := by rw [hv]; exact Vm.Alike.refl _
  exact ⟨h1.moved ha, h2.moved ha, h3.moved ha, fun k hk => (h4 k hk).same hv, fun w hw => zNL_same hv.symm hw (h5 w hw)⟩
