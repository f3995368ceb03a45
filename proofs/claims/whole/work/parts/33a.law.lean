theorem zt1 {w : Jvm.Cond} (h : w ∈ tables_1_1) : w ∈ lw_tbl := List.mem_append_right _ (List.mem_append_left _ h)
theorem zt2 {w : Jvm.Cond} (h : w ∈ tables_1_2) : w ∈ lw_tbl := List.mem_append_right _ (List.mem_append_right _ (List.mem_append_left _ h))
theorem zt3 {w : Jvm.Cond} (h : w ∈ tables_1_3) : w ∈ lw_tbl := List.mem_append_right _ (List.mem_append_right _ (List.mem_append_right _ (List.mem_append_left _ h)))
theorem zt4 {w : Jvm.Cond} (h : w ∈ tables_1_4) : w ∈ lw_tbl := List.mem_append_right _ (List.mem_append_right _ (List.mem_append_right _ (List.mem_append_right _ (List.mem_append_left _ h))))
theorem zt5 {w : Jvm.Cond} (h : w ∈ tables_1_5) : w ∈ lw_tbl := List.mem_append_right _ (List.mem_append_right _ (List.mem_append_right _ (List.mem_append_right _ (List.mem_append_right _ (List.mem_append_left _ h)))))
theorem zt6 {w : Jvm.Cond} (h : w ∈ tables_1_6) : w ∈ lw_tbl := List.mem_append_right _ (List.mem_append_right _ (List.mem_append_right _ (List.mem_append_right _ (List.mem_append_right _ (List.mem_append_right _ (List.mem_append_left _ h))))))
theorem zt7 {w : Jvm.Cond} (h : w ∈ tables_1_7) : w ∈ lw_tbl := List.mem_append_right _ (List.mem_append_right _ (List.mem_append_right _ (List.mem_append_right _ (List.mem_append_right _ (List.mem_append_right _ (List.mem_append_right _ (h)))))))
set_option maxRecDepth 100000 in
/-- the classes are known -/
theorem st_K {s : State} {args : Array Value} (hts : ∀ w ∈ lw_tbl, w.before args s = true) : ∃ (D : va_G) (cI : ClassId), va_K D vwCl [(cI, .int)] s := by
  have h1 : ∀ (k : Nat) (q : vw_C), vwCl[k]? = some q → ∃ (cC : ClassId) (iS : Nat → Nat), u_Kn s q.1 q.2.1 q.2.2 cC iS := by
    intro k q h
    match k, h with
    | 0, h => cases h; exact u_known hts (fun w h => zLT ((zcls (ci := 0) rfl).1 w h)) (hts (.instantiable RX0 5) (zt1 (List.mem_of_getElem? (i := 27) rfl)))
    | 1, h => cases h; exact u_known hts (fun w h => zLT ((zcls (ci := 1) rfl).1 w h)) (hts (.instantiable RX1 1) (zt1 (List.mem_of_getElem? (i := 139) rfl)))
    | 2, h => cases h; exact u_known hts (fun w h => zLT ((zcls (ci := 2) rfl).1 w h)) (hts (.instantiable RX2 4) (zt1 (List.mem_of_getElem? (i := 131) rfl)))
    | 3, h => cases h; exact u_known hts (fun w h => zLT ((zcls (ci := 3) rfl).1 w h)) (hts (.instantiable RX3 2) (zt1 (List.mem_of_getElem? (i := 105) rfl)))
    | 4, h => cases h; exact u_known hts (fun w h => zLT ((zcls (ci := 4) rfl).1 w h)) (hts (.instantiable RX4 3) (zt1 (List.mem_of_getElem? (i := 53) rfl)))
    | 5, h => cases h; exact u_known hts (fun w h => zLT ((zcls (ci := 5) rfl).1 w h)) (hts (.instantiable RX5 4) (zt1 (List.mem_of_getElem? (i := 162) rfl)))
    | 6, h => cases h; exact u_known hts (fun w h => zLT ((zcls (ci := 6) rfl).1 w h)) (hts (.instantiable RX6 2) (zt1 (List.mem_of_getElem? (i := 118) rfl)))
    | 7, h => cases h; exact u_known hts (fun w h => zLT ((zcls (ci := 7) rfl).1 w h)) (hts (.instantiable RX7 4) (zt1 (List.mem_of_getElem? (i := 33) rfl)))
    | 8, h => cases h; exact u_known hts (fun w h => zLT ((zcls (ci := 8) rfl).1 w h)) (hts (.instantiable RX8 9) (zt1 (List.mem_of_getElem? (i := 19) rfl)))
    | 9, h => cases h; exact u_known hts (fun w h => zLT ((zcls (ci := 9) rfl).1 w h)) (hts (.instantiable RX9 27) (zt5 (List.mem_of_getElem? (i := 81) rfl)))
    | k + 10, h => rw [List.getElem?_eq_none (show vwCl.length ≤ k + 10 from Nat.le_add_left 10 k)] at h; cases h
  have h2 : ∀ k : Nat, ∃ x : ClassId × (Nat → Nat), ∀ q : vw_C, vwCl[k]? = some q → u_Kn s q.1 q.2.1 q.2.2 x.1 x.2 := by
    intro k
    cases hk : vwCl[k]? with
    | none => exact ⟨(0, fun _ => 0), fun q h => by cases h⟩
    | some q =>
      obtain ⟨cC, iS, h3⟩ := h1 k q hk
      exact ⟨(cC, iS), fun q' h => by cases h; exact h3⟩
  obtain ⟨f, hf⟩ := Classical.axiomOfChoice h2
  obtain ⟨cI, kA, comp, e1, e2, e3⟩ := Cond.arrayClass_spec (hts (.arrayClass .int) (zt1 (List.mem_of_getElem? (i := 51) rfl)))
  refine ⟨(fun k => (f k).1, fun k => (f k).2), cI, fun k q h => hf k q h, fun k q h => ?_⟩
  match k, h with
  | 0, h => cases h; exact ⟨fun n z => ⟨fun k h => (by cases h), kA, e2, comp, e3⟩, e1⟩
  | k + 1, h => cases h
set_option maxRecDepth 100000 in
set_option maxHeartbeats 4000000 in
/-- the texts -/
theorem st_S {s : State} {args : Array Value} {A : Nat → Prop} (hgv : (Jvm.Cond.and given_1 narrow_1).before args s = true) (hA : ∀ a : Nat, a < s.heap.size → ¬ A a) : ∃ adK adV : Nat → Nat, vk_S 7 zslen zsbyt adK adV A s s.heap ∧ ∀ i : Nat, i < 7 → (Term.string "BridgeByTwo$Letters" (zsix.getD i 0)).eval args s none [] s = some (.ref (adK i)) := by
  have fl := flat_of_before _ hgv
  have hex : ∀ i : Nat, i < 7 → (Jvm.Cond.exactly (Term.string "BridgeByTwo$Letters" (zsix.getD i 0)) "java/lang/String").before args s = true := by
    intro i hi
    match i, hi with
    | 0, _ => exact fl _ (by decide +kernel)
    | 1, _ => exact fl _ (by decide +kernel)
    | 2, _ => exact fl _ (by decide +kernel)
    | 3, _ => exact fl _ (by decide +kernel)
    | 4, _ => exact fl _ (by decide +kernel)
    | 5, _ => exact fl _ (by decide +kernel)
    | 6, _ => exact fl _ (by decide +kernel)
    | i + 7, hi => omega
  have hco : ∀ i : Nat, i < 7 → (Jvm.Cond.eq (.field (Term.string "BridgeByTwo$Letters" (zsix.getD i 0)) "java/lang/String" "coder" "B") (.int 0)).before args s = true := by
    intro i hi
    match i, hi with
    | 0, _ => exact fl _ (by decide +kernel)
    | 1, _ => exact fl _ (by decide +kernel)
    | 2, _ => exact fl _ (by decide +kernel)
    | 3, _ => exact fl _ (by decide +kernel)
    | 4, _ => exact fl _ (by decide +kernel)
    | 5, _ => exact fl _ (by decide +kernel)
    | 6, _ => exact fl _ (by decide +kernel)
    | i + 7, hi => omega
  have har : ∀ i : Nat, i < 7 → (Jvm.Cond.arrayOf (.field (Term.string "BridgeByTwo$Letters" (zsix.getD i 0)) "java/lang/String" "value" "[B") .byte).before args s = true := by
    intro i hi
    match i, hi with
    | 0, _ => exact fl _ (by decide +kernel)
    | 1, _ => exact fl _ (by decide +kernel)
    | 2, _ => exact fl _ (by decide +kernel)
    | 3, _ => exact fl _ (by decide +kernel)
    | 4, _ => exact fl _ (by decide +kernel)
    | 5, _ => exact fl _ (by decide +kernel)
    | 6, _ => exact fl _ (by decide +kernel)
    | i + 7, hi => omega
  have hle : ∀ i : Nat, i < 7 → (Jvm.Cond.eq (.length (.field (Term.string "BridgeByTwo$Letters" (zsix.getD i 0)) "java/lang/String" "value" "[B")) (.int (Int32.ofNat (zslen.getD i 0)))).before args s = true := by
    intro i hi
    match i, hi with
    | 0, _ => exact fl _ (by decide +kernel)
    | 1, _ => exact fl _ (by decide +kernel)
    | 2, _ => exact fl _ (by decide +kernel)
    | 3, _ => exact fl _ (by decide +kernel)
    | 4, _ => exact fl _ (by decide +kernel)
    | 5, _ => exact fl _ (by decide +kernel)
    | 6, _ => exact fl _ (by decide +kernel)
    | i + 7, hi => omega
  have hel : ∀ i : Nat, i < 7 → ∀ j : Nat, j < zslen.getD i 0 → (Jvm.Cond.eq (.elem (.field (Term.string "BridgeByTwo$Letters" (zsix.getD i 0)) "java/lang/String" "value" "[B") (.int (Int32.ofNat j))) (.int ((zsbyt.getD i []).getD j 0))).before args s = true := by
    intro i hi j hj
    match i, hi, j, hj with
    | 0, _, 0, _ => exact fl _ (by decide +kernel)
    | 0, _, 1, _ => exact fl _ (by decide +kernel)
    | 0, _, 2, _ => exact fl _ (by decide +kernel)
    | 0, _, 3, _ => exact fl _ (by decide +kernel)
    | 0, _, j + 4, hj => exact absurd hj (by show ¬ j + 4 < 4; omega)
    | 1, _, 0, _ => exact fl _ (by decide +kernel)
    | 1, _, 1, _ => exact fl _ (by decide +kernel)
    | 1, _, 2, _ => exact fl _ (by decide +kernel)
    | 1, _, 3, _ => exact fl _ (by decide +kernel)
    | 1, _, j + 4, hj => exact absurd hj (by show ¬ j + 4 < 4; omega)
    | 2, _, 0, _ => exact fl _ (by decide +kernel)
    | 2, _, 1, _ => exact fl _ (by decide +kernel)
    | 2, _, 2, _ => exact fl _ (by decide +kernel)
    | 2, _, 3, _ => exact fl _ (by decide +kernel)
    | 2, _, 4, _ => exact fl _ (by decide +kernel)
    | 2, _, j + 5, hj => exact absurd hj (by show ¬ j + 5 < 5; omega)
    | 3, _, 0, _ => exact fl _ (by decide +kernel)
    | 3, _, 1, _ => exact fl _ (by decide +kernel)
    | 3, _, j + 2, hj => exact absurd hj (by show ¬ j + 2 < 2; omega)
    | 4, _, 0, _ => exact fl _ (by decide +kernel)
    | 4, _, 1, _ => exact fl _ (by decide +kernel)
    | 4, _, 2, _ => exact fl _ (by decide +kernel)
    | 4, _, j + 3, hj => exact absurd hj (by show ¬ j + 3 < 3; omega)
    | 5, _, j + 0, hj => exact absurd hj (by show ¬ j + 0 < 0; omega)
    | 6, _, 0, _ => exact fl _ (by decide +kernel)
    | 6, _, 1, _ => exact fl _ (by decide +kernel)
    | 6, _, 2, _ => exact fl _ (by decide +kernel)
    | 6, _, 3, _ => exact fl _ (by decide +kernel)
    | 6, _, 4, _ => exact fl _ (by decide +kernel)
    | 6, _, 5, _ => exact fl _ (by decide +kernel)
    | 6, _, j + 6, hj => exact absurd hj (by show ¬ j + 6 < 6; omega)
    | i + 7, hi, _, _ => omega
  have hne : ∀ i j : Nat, i < 7 → j < 7 → i ≠ j → (Jvm.Cond.not (Jvm.Cond.eq (Term.string "BridgeByTwo$Letters" (zsix.getD i 0)) (Term.string "BridgeByTwo$Letters" (zsix.getD j 0)))).before args s = true ∨ (Jvm.Cond.not (Jvm.Cond.eq (Term.string "BridgeByTwo$Letters" (zsix.getD j 0)) (Term.string "BridgeByTwo$Letters" (zsix.getD i 0)))).before args s = true := by
    intro i j hi hj h
    match i, j, hi, hj, h with
    | 0, 0, _, _, h => exact absurd rfl h
    | 0, 1, _, _, _ => exact Or.inl (fl _ (by decide +kernel))
    | 0, 2, _, _, _ => exact Or.inl (fl _ (by decide +kernel))
    | 0, 3, _, _, _ => exact Or.inl (fl _ (by decide +kernel))
    | 0, 4, _, _, _ => exact Or.inl (fl _ (by decide +kernel))
    | 0, 5, _, _, _ => exact Or.inl (fl _ (by decide +kernel))
    | 0, 6, _, _, _ => exact Or.inl (fl _ (by decide +kernel))
    | 1, 0, _, _, _ => exact Or.inr (fl _ (by decide +kernel))
    | 1, 1, _, _, h => exact absurd rfl h
    | 1, 2, _, _, _ => exact Or.inl (fl _ (by decide +kernel))
    | 1, 3, _, _, _ => exact Or.inl (fl _ (by decide +kernel))
    | 1, 4, _, _, _ => exact Or.inl (fl _ (by decide +kernel))
    | 1, 5, _, _, _ => exact Or.inl (fl _ (by decide +kernel))
    | 1, 6, _, _, _ => exact Or.inl (fl _ (by decide +kernel))
    | 2, 0, _, _, _ => exact Or.inr (fl _ (by decide +kernel))
    | 2, 1, _, _, _ => exact Or.inr (fl _ (by decide +kernel))
    | 2, 2, _, _, h => exact absurd rfl h
    | 2, 3, _, _, _ => exact Or.inl (fl _ (by decide +kernel))
    | 2, 4, _, _, _ => exact Or.inl (fl _ (by decide +kernel))
    | 2, 5, _, _, _ => exact Or.inl (fl _ (by decide +kernel))
    | 2, 6, _, _, _ => exact Or.inl (fl _ (by decide +kernel))
    | 3, 0, _, _, _ => exact Or.inr (fl _ (by decide +kernel))
    | 3, 1, _, _, _ => exact Or.inr (fl _ (by decide +kernel))
    | 3, 2, _, _, _ => exact Or.inr (fl _ (by decide +kernel))
    | 3, 3, _, _, h => exact absurd rfl h
    | 3, 4, _, _, _ => exact Or.inl (fl _ (by decide +kernel))
    | 3, 5, _, _, _ => exact Or.inl (fl _ (by decide +kernel))
    | 3, 6, _, _, _ => exact Or.inl (fl _ (by decide +kernel))
    | 4, 0, _, _, _ => exact Or.inr (fl _ (by decide +kernel))
    | 4, 1, _, _, _ => exact Or.inr (fl _ (by decide +kernel))
    | 4, 2, _, _, _ => exact Or.inr (fl _ (by decide +kernel))
    | 4, 3, _, _, _ => exact Or.inr (fl _ (by decide +kernel))
    | 4, 4, _, _, h => exact absurd rfl h
    | 4, 5, _, _, _ => exact Or.inl (fl _ (by decide +kernel))
    | 4, 6, _, _, _ => exact Or.inl (fl _ (by decide +kernel))
    | 5, 0, _, _, _ => exact Or.inr (fl _ (by decide +kernel))
    | 5, 1, _, _, _ => exact Or.inr (fl _ (by decide +kernel))
    | 5, 2, _, _, _ => exact Or.inr (fl _ (by decide +kernel))
    | 5, 3, _, _, _ => exact Or.inr (fl _ (by decide +kernel))
    | 5, 4, _, _, _ => exact Or.inr (fl _ (by decide +kernel))
    | 5, 5, _, _, h => exact absurd rfl h
    | 5, 6, _, _, _ => exact Or.inl (fl _ (by decide +kernel))
    | 6, 0, _, _, _ => exact Or.inr (fl _ (by decide +kernel))
    | 6, 1, _, _, _ => exact Or.inr (fl _ (by decide +kernel))
    | 6, 2, _, _, _ => exact Or.inr (fl _ (by decide +kernel))
    | 6, 3, _, _, _ => exact Or.inr (fl _ (by decide +kernel))
    | 6, 4, _, _, _ => exact Or.inr (fl _ (by decide +kernel))
    | 6, 5, _, _, _ => exact Or.inr (fl _ (by decide +kernel))
    | 6, 6, _, _, h => exact absurd rfl h
    | i + 7, _, hi, _, _ => omega
    | _, j + 7, _, hj, _ => omega
  exact vk_Sof (by decide) hex hco har hle hel hne hA
set_option maxRecDepth 100000 in
/-- what the small machine asks of the launch -/
theorem st_0 {s : State} {args : Array Value} {A : Nat → Prop} (hts : ∀ w ∈ lw_tbl, w.before args s = true) (hgv : (Jvm.Cond.and given_1 narrow_1).before args s = true) (hA : ∀ a : Nat, a < s.heap.size → ¬ A a) : ∃ (adK adV : Nat → Nat) (fv : Value), fv.category = 1 ∧ ∀ qs : List Nat, zK0 (zadr qs adK adV) fv A s s.heap := by
  obtain ⟨adK, adV, h1, h2⟩ := st_S hgv hA
  have fl := flat_of_before _ hgv
  obtain ⟨fv, h3, h4⟩ := Cond.isRef_spec (fl (.isRef (.static "jdk/internal/util/Preconditions" "SIOOBE_FORMATTER" "Ljava/util/function/BiFunction;")) (by decide +kernel))
  refine ⟨adK, adV, fv, ?_, fun qs => ?_⟩
  · cases fv <;> first | rfl | (cases h4; done)
  have eK : ∀ k, zadr qs adK adV (1000 + k) = if k < 1000 then adK k else adV (k - 1000) := by
    intro k
    rw [zadr, if_neg (by omega)]
    by_cases h : k < 1000
    · rw [if_pos (by omega), if_pos h, Nat.add_sub_cancel_left]
    · rw [if_neg (by omega), if_neg h, show 1000 + k - 2000 = k - 1000 by omega]
  have eV : ∀ k, zadr qs adK adV (2000 + k) = adV k := by
    intro k
    rw [zadr, if_neg (by omega), if_neg (by omega), Nat.add_sub_cancel_left]
  refine ⟨⟨fun i hi => ?_, fun i j hi hj e => ?_⟩, ?_, ?_, fun k hk => ?_, fun w hw => ?_⟩
  · have h := h1.1 i hi
    dsimp only
    rw [eK, eV, if_pos (by omega)]
    exact h
  · dsimp only at e
    rw [eK, eK, if_pos (by omega), if_pos (by omega)] at e
    exact h1.2 i j hi hj e
  · exact va_Zof (hts _ (zt2 (List.mem_of_getElem? (i := 34) rfl))) (hts _ (zt1 (List.mem_of_getElem? (i := 11) rfl))) (va_eqt (fl _ (by decide +kernel))) hA
  · exact va_Zof (hts _ (zt2 (List.mem_of_getElem? (i := 50) rfl))) (hts _ (zt1 (List.mem_of_getElem? (i := 13) rfl))) h3 hA
  · rw [eK, if_pos (by omega)]
    match k, hk with
    | 0, _ => exact vk_R.of (hts _ (zt2 (List.mem_of_getElem? (i := 15) rfl))) (h2 0 (by omega))
    | 1, _ => exact vk_R.of (hts _ (zt2 (List.mem_of_getElem? (i := 16) rfl))) (h2 1 (by omega))
    | 2, _ => exact vk_R.of (hts _ (zt2 (List.mem_of_getElem? (i := 17) rfl))) (h2 2 (by omega))
    | 3, _ => exact vk_R.of (hts _ (zt2 (List.mem_of_getElem? (i := 18) rfl))) (h2 3 (by omega))
    | 4, _ => exact vk_R.of (hts _ (zt2 (List.mem_of_getElem? (i := 19) rfl))) (h2 4 (by omega))
    | 5, _ => exact vk_R.of (hts _ (zt2 (List.mem_of_getElem? (i := 20) rfl))) (h2 5 (by omega))
    | 6, _ => exact vk_R.of (hts _ (zt2 (List.mem_of_getElem? (i := 81) rfl))) (h2 6 (by omega))
    | k + 7, hk => omega
  · have hn := (List.mem_filter.mp hw).2
    have hw2 := hts _ (zNT hw)
    cases w <;> first | (cases hn; done) | exact va_Nw.of rfl hw2
/-- two worlds apart -/
theorem st_D {A : Nat → Prop} {cI : ClassId} {adX adM : Nat → Nat} {σX σM : zG} (hD : va_D A (zW cI adX zshX 44 σX ++ zW cI adM zshM 15 σM)) : (∀ a b, a < 44 → b < 44 → adX a = adX b → a = b) ∧ (∀ a b, a < 15 → b < 15 → adM a = adM b → a = b) ∧ (∀ i j, i < 44 → j < 15 → adX i ≠ adM j) ∧ (∀ q, zAd adX 44 q → A q) ∧ ∀ q, zAd adM 15 q → A q := by
  have lx : (zW cI adX zshX 44 σX).length = 44 := by simp [zW]
  have gX : ∀ i, i < 44 → (zW cI adX zshX 44 σX ++ zW cI adM zshM 15 σM)[i]? = some (adX i, zcell cI adX zshX σX i) := fun i hi => by
    rw [List.getElem?_append_left (by omega)]; exact zW_get hi
  have gM : ∀ j, j < 15 → (zW cI adX zshX 44 σX ++ zW cI adM zshM 15 σM)[44 + j]? = some (adM j, zcell cI adM zshM σM j) := fun j hj => by
    rw [List.getElem?_append_right (by omega), lx, Nat.add_sub_cancel_left]; exact zW_get hj
  refine ⟨fun a b ha hb e => hD.1 a b _ _ (gX a ha) (gX b hb) e, fun a b ha hb e => ?_, fun i j hi hj e => ?_, ?_, ?_⟩
  · have := hD.1 (44 + a) (44 + b) _ _ (gM a ha) (gM b hb) e
    omega
  · have := hD.1 i (44 + j) _ _ (gX i hi) (gM j hj) e
    omega
  · rintro q ⟨i, hi, rfl⟩; exact hD.2 i _ (gX i hi)
  · rintro q ⟨j, hj, rfl⟩; exact hD.2 (44 + j) _ (gM j hj)
theorem st_P {D : va_G} {cI : ClassId} {adX adM : Nat → Nat} {σX σM : zG} {H : Heap} (hP : va_P D vwCl (zW cI adX zshX 44 σX ++ zW cI adM zshM 15 σM) H) : va_P D vwCl (zW cI adX zshX 44 σX) H ∧ va_P D vwCl (zW cI adM zshM 15 σM) H := by
  have lx : (zW cI adX zshX 44 σX).length = 44 := by simp [zW]
  refine ⟨fun k q h => hP k q ?_, fun k q h => hP (44 + k) q ?_⟩
  · rw [List.getElem?_append_left (List.getElem?_eq_some_iff.mp h).1]; exact h
  · rw [List.getElem?_append_right (by omega), lx, Nat.add_sub_cancel_left]; exact h
