theorem di_Stones_0 : decode cX7_init 0 = .ok (.aload_n 0, 1) := by decide +kernel
theorem di_Stones_1 : decode cX7_init 1 = .ok (.invokespecial 3, 3) := by decide +kernel
theorem di_Stones_4 : decode cX7_init 4 = .ok (.aload_n 0, 1) := by decide +kernel
theorem di_Stones_5 : decode cX7_init 5 = .ok (.bipush 13, 2) := by decide +kernel
theorem di_Stones_7 : decode cX7_init 7 = .ok (.newarray .int, 2) := by decide +kernel
theorem di_Stones_9 : decode cX7_init 9 = .ok (.putfield 11, 3) := by decide +kernel
theorem di_Stones_12 : decode cX7_init 12 = .ok (.aload_n 0, 1) := by decide +kernel
theorem di_Stones_13 : decode cX7_init 13 = .ok (.bipush 13, 2) := by decide +kernel
theorem di_Stones_15 : decode cX7_init 15 = .ok (.newarray .int, 2) := by decide +kernel
theorem di_Stones_17 : decode cX7_init 17 = .ok (.putfield 15, 3) := by decide +kernel
theorem di_Stones_20 : decode cX7_init 20 = .ok (.aload_n 0, 1) := by decide +kernel
theorem di_Stones_21 : decode cX7_init 21 = .ok (.bipush 13, 2) := by decide +kernel
theorem di_Stones_23 : decode cX7_init 23 = .ok (.newarray .int, 2) := by decide +kernel
theorem di_Stones_25 : decode cX7_init 25 = .ok (.putfield 18, 3) := by decide +kernel
theorem di_Stones_28 : decode cX7_init 28 = .ok (.return_, 1) := by decide +kernel
set_option maxHeartbeats 8000000 in
set_option maxRecDepth 100000 in
theorem ci_Stones (l : Launch) (D : va_G) (cI : ClassId) (h0 : Nat) (sz : Nat) : Met l yX7_init (Jvm.Cond.code yX7_init cX7_init 1 none :: zWL) { frames := 1, cells := 3, slots := 39, locals := 12 } (zcPre D cI [.ref h0] sz (h0, .inr (7, [.null, .null, .null, .int 0]))) (zcPost D (va_A [(h0, .inr (7, [.null, .null, .null, .int 0]))] sz) (fun ws => ∃ q1 q2 q3 : Nat, ws = [(h0, .inr (7, [.ref q1, .ref q2, .ref q3, .int 0])), (q1, .inl (cI, 13, .inl (fun _ => 0))), (q2, .inl (cI, 13, .inl (fun _ => 0))), (q3, .inl (cI, 13, .inl (fun _ => 0)))])) 3 39 (va_A [(h0, .inr (7, [.null, .null, .null, .int 0]))] sz) := by
  refine Met.ofW (cc := cX7_init) (maxL := 1) (ret := none) (by decide) rfl ?_
  intro p e s m args below meth c s₁ B hml hv
  obtain ⟨rfl, hsz, hP, hK, hD0, hN⟩ := hv
  have hx := B.exec
  have hb := B.bytes
  have hr := B.returns
  have hts := atoms_spec (ws := Jvm.Cond.code yX7_init cX7_init 1 none :: zWL) B.pre
  have hown : s.vm.findClass RX7 = some m.cls := findClass_of_methodNamed B.named
  have hlocks := B.notSynchronized
  have hin : meth.name = "<init>" := (name_of_methodNamed B.named B.method).1
  subst hsz
  have hD := hD0.self (sz := s.heap.size)
  generalize hAe : va_A [(h0, .inr (7, [.null, .null, .null, .int 0]))] s.heap.size = A at hD ⊢
  have hA : ∀ q : Nat, s.heap.size ≤ q → A q := fun q h => by rw [← hAe]; exact Or.inr h
  have hS : va_S A s.heap s.heap [] := va_S.rf
  have hP : va_P D vwCl [(h0, .inr (7, [.null, .null, .null, .int 0]))] s.heap := hP
  have hl := lv_entry ([.ref h0]) (n := 1) (Nat.le_of_ble_eq_true rfl)
  rw [lg_entry_eq]
  generalize (lg_sl ([.ref h0]) ++ List.replicate (1 - (lg_sl ([.ref h0])).length) Slot.unset).toArray = ls at hl ⊢
  have hl : lv_has ls 1 [(0, .ref h0)] := hl
  refine lv_aload_n hx hb di_Stones_0 rfl (lv_at hl 0 rfl) ?_
  refine W.objInit hx hb hown (hts (.methodLink RX7 3 objectInit) (List.mem_cons_of_mem _ (zg1 (List.mem_of_getElem? (i := 37) rfl) rfl))) (hts (.instanceMethod objectInit) (List.mem_cons_of_mem _ (zg1 (List.mem_of_getElem? (i := 24) rfl) rfl))) (hts (.code objectInit ⟨#[0xb1]⟩ 1 none) (List.mem_cons_of_mem _ (zg1 (List.mem_of_getElem? (i := 25) rfl) rfl))) rfl (by rw [hml]; exact hl.1) rfl di_Stones_1 (Nat.le_of_ble_eq_true rfl) (Nat.le_of_ble_eq_true rfl) ?_
  refine W.eq (g2 := F0 m 4 ls []) rfl ?_
  refine lv_aload_n hx hb di_Stones_4 rfl (lv_at hl 0 rfl) ?_
  refine lv_bipush (v := 13) hx hb di_Stones_5 (by decide) ?_
  refine zc_newa hx hb (hts _ (List.mem_cons_of_mem _ (zg1 (List.mem_of_getElem? (i := 51) rfl) rfl))) hK hP hD hS hA (N' := 13) (by decide) rfl (Nat.le_of_ble_eq_true rfl) (Nat.le_of_ble_eq_true rfl) (Nat.le_of_ble_eq_true rfl) di_Stones_7 (fun q1 H hP hD hS => ?_)
  have hP : va_P D vwCl [(h0, .inr (7, [.null, .null, .null, .int 0])), (q1, .inl (cI, 13, .inl (fun _ => 0)))] H := hP
  have hD : va_D A [(h0, .inr (7, [.null, .null, .null, .int 0])), (q1, .inl (cI, 13, .inl (fun _ => 0)))] := hD
  refine W.widen (k := 1) (n := 13) (by omega) (by omega) ?_
  refine va_putF (D := D) (ci := 7) (v := .ref q1) (ty := .array .int) (C := RX7) (T := TX7) (N := 4) hx hb hts (fun w h => List.mem_cons_of_mem _ ((zcls (ci := 7) rfl).1 w h)) tyX7 tyX7_ok nmX7 hown hK hP hD hS 0 rfl rfl 0 (by decide) (hts (.fieldLink RX7 11 "BridgeByTwo$Stones" "kinds" "[I") (List.mem_cons_of_mem _ (zg1 (List.mem_of_getElem? (i := 38) rfl) rfl))) (fun _ h9 => h9) rfl hin rfl (by decide +kernel) rfl rfl (Nat.le_of_ble_eq_true rfl) di_Stones_9 (fun H locs hP hD hS => ?_)
  have hP : va_P D vwCl [(h0, .inr (7, [.ref q1, .null, .null, .int 0])), (q1, .inl (cI, 13, .inl (fun _ => 0)))] H := hP
  have hD : va_D A [(h0, .inr (7, [.ref q1, .null, .null, .int 0])), (q1, .inl (cI, 13, .inl (fun _ => 0)))] := hD
  refine lv_aload_n hx hb di_Stones_12 rfl (lv_at hl 0 rfl) ?_
  refine lv_bipush (v := 13) hx hb di_Stones_13 (by decide) ?_
  refine zc_newa hx hb (hts _ (List.mem_cons_of_mem _ (zg1 (List.mem_of_getElem? (i := 51) rfl) rfl))) hK hP hD hS hA (N' := 13) (by decide) rfl (Nat.le_of_ble_eq_true rfl) (Nat.le_of_ble_eq_true rfl) (Nat.le_of_ble_eq_true rfl) di_Stones_15 (fun q2 H hP hD hS => ?_)
  have hP : va_P D vwCl [(h0, .inr (7, [.ref q1, .null, .null, .int 0])), (q1, .inl (cI, 13, .inl (fun _ => 0))), (q2, .inl (cI, 13, .inl (fun _ => 0)))] H := hP
  have hD : va_D A [(h0, .inr (7, [.ref q1, .null, .null, .int 0])), (q1, .inl (cI, 13, .inl (fun _ => 0))), (q2, .inl (cI, 13, .inl (fun _ => 0)))] := hD
  refine W.widen (k := 2) (n := 26) (by omega) (by omega) ?_
  refine va_putF (D := D) (ci := 7) (v := .ref q2) (ty := .array .int) (C := RX7) (T := TX7) (N := 4) hx hb hts (fun w h => List.mem_cons_of_mem _ ((zcls (ci := 7) rfl).1 w h)) tyX7 tyX7_ok nmX7 hown hK hP hD hS 0 rfl rfl 1 (by decide) (hts (.fieldLink RX7 15 "BridgeByTwo$Stones" "figures" "[I") (List.mem_cons_of_mem _ (zg1 (List.mem_of_getElem? (i := 39) rfl) rfl))) (fun _ h9 => h9) rfl hin rfl (by decide +kernel) rfl rfl (Nat.le_of_ble_eq_true rfl) di_Stones_17 (fun H locs hP hD hS => ?_)
  have hP : va_P D vwCl [(h0, .inr (7, [.ref q1, .ref q2, .null, .int 0])), (q1, .inl (cI, 13, .inl (fun _ => 0))), (q2, .inl (cI, 13, .inl (fun _ => 0)))] H := hP
  have hD : va_D A [(h0, .inr (7, [.ref q1, .ref q2, .null, .int 0])), (q1, .inl (cI, 13, .inl (fun _ => 0))), (q2, .inl (cI, 13, .inl (fun _ => 0)))] := hD
  refine lv_aload_n hx hb di_Stones_20 rfl (lv_at hl 0 rfl) ?_
  refine lv_bipush (v := 13) hx hb di_Stones_21 (by decide) ?_
  refine zc_newa hx hb (hts _ (List.mem_cons_of_mem _ (zg1 (List.mem_of_getElem? (i := 51) rfl) rfl))) hK hP hD hS hA (N' := 13) (by decide) rfl (Nat.le_of_ble_eq_true rfl) (Nat.le_of_ble_eq_true rfl) (Nat.le_of_ble_eq_true rfl) di_Stones_23 (fun q3 H hP hD hS => ?_)
  have hP : va_P D vwCl [(h0, .inr (7, [.ref q1, .ref q2, .null, .int 0])), (q1, .inl (cI, 13, .inl (fun _ => 0))), (q2, .inl (cI, 13, .inl (fun _ => 0))), (q3, .inl (cI, 13, .inl (fun _ => 0)))] H := hP
  have hD : va_D A [(h0, .inr (7, [.ref q1, .ref q2, .null, .int 0])), (q1, .inl (cI, 13, .inl (fun _ => 0))), (q2, .inl (cI, 13, .inl (fun _ => 0))), (q3, .inl (cI, 13, .inl (fun _ => 0)))] := hD
  refine W.widen (k := 3) (n := 39) (by omega) (by omega) ?_
  refine va_putF (D := D) (ci := 7) (v := .ref q3) (ty := .array .int) (C := RX7) (T := TX7) (N := 4) hx hb hts (fun w h => List.mem_cons_of_mem _ ((zcls (ci := 7) rfl).1 w h)) tyX7 tyX7_ok nmX7 hown hK hP hD hS 0 rfl rfl 2 (by decide) (hts (.fieldLink RX7 18 "BridgeByTwo$Stones" "layers" "[I") (List.mem_cons_of_mem _ (zg1 (List.mem_of_getElem? (i := 40) rfl) rfl))) (fun _ h9 => h9) rfl hin rfl (by decide +kernel) rfl rfl (Nat.le_of_ble_eq_true rfl) di_Stones_25 (fun H locs hP hD hS => ?_)
  have hP : va_P D vwCl [(h0, .inr (7, [.ref q1, .ref q2, .ref q3, .int 0])), (q1, .inl (cI, 13, .inl (fun _ => 0))), (q2, .inl (cI, 13, .inl (fun _ => 0))), (q3, .inl (cI, 13, .inl (fun _ => 0)))] H := hP
  have hD : va_D A [(h0, .inr (7, [.ref q1, .ref q2, .ref q3, .int 0])), (q1, .inl (cI, 13, .inl (fun _ => 0))), (q2, .inl (cI, 13, .inl (fun _ => 0))), (q3, .inl (cI, 13, .inl (fun _ => 0)))] := hD
  have hP := hP.sub (ws' := [(h0, .inr (7, [.ref q1, .ref q2, .ref q3, .int 0])), (q1, .inl (cI, 13, .inl (fun _ => 0))), (q2, .inl (cI, 13, .inl (fun _ => 0))), (q3, .inl (cI, 13, .inl (fun _ => 0)))]) [0, 1, 2, 3] rfl
  have hD := hD.sub (ws' := [(h0, .inr (7, [.ref q1, .ref q2, .ref q3, .int 0])), (q1, .inl (cI, 13, .inl (fun _ => 0))), (q2, .inl (cI, 13, .inl (fun _ => 0))), (q3, .inl (cI, 13, .inl (fun _ => 0)))]) [0, 1, 2, 3] (by decide) rfl
  exact W.vret hx hb hr (fun t ht hW => ⟨⟨[(h0, .inr (7, [.ref q1, .ref q2, .ref q3, .int 0])), (q1, .inl (cI, 13, .inl (fun _ => 0))), (q2, .inl (cI, 13, .inl (fun _ => 0))), (q3, .inl (cI, 13, .inl (fun _ => 0)))], rfl, ⟨q1, q2, q3, rfl⟩, by rw [ht]; exact hP, hD⟩, hS.F ht⟩) hS.2.2 di_Stones_28
theorem di_Mason_0 : decode cX4_init 0 = .ok (.aload_n 0, 1) := by decide +kernel
theorem di_Mason_1 : decode cX4_init 1 = .ok (.invokespecial 3, 3) := by decide +kernel
theorem di_Mason_4 : decode cX4_init 4 = .ok (.aload_n 0, 1) := by decide +kernel
theorem di_Mason_5 : decode cX4_init 5 = .ok (.iconst 0, 1) := by decide +kernel
theorem di_Mason_6 : decode cX4_init 6 = .ok (.putfield 9, 3) := by decide +kernel
theorem di_Mason_9 : decode cX4_init 9 = .ok (.aload_n 0, 1) := by decide +kernel
theorem di_Mason_10 : decode cX4_init 10 = .ok (.iconst 5, 1) := by decide +kernel
theorem di_Mason_11 : decode cX4_init 11 = .ok (.putfield 15, 3) := by decide +kernel
theorem di_Mason_14 : decode cX4_init 14 = .ok (.aload_n 0, 1) := by decide +kernel
theorem di_Mason_15 : decode cX4_init 15 = .ok (.iconst 5, 1) := by decide +kernel
theorem di_Mason_16 : decode cX4_init 16 = .ok (.putfield 18, 3) := by decide +kernel
theorem di_Mason_19 : decode cX4_init 19 = .ok (.return_, 1) := by decide +kernel
set_option maxHeartbeats 8000000 in
set_option maxRecDepth 100000 in
theorem ci_Mason (l : Launch) (D : va_G) (cI : ClassId) (h0 : Nat) (sz : Nat) : Met l yX4_init (Jvm.Cond.code yX4_init cX4_init 1 none :: zWL) { frames := 1, cells := 0, slots := 0, locals := 12 } (zcPre D cI [.ref h0] sz (h0, .inr (4, [.int 0, .int 0, .int 0]))) (zcPost D (va_A [(h0, .inr (4, [.int 0, .int 0, .int 0]))] sz) (fun ws => ws = [(h0, .inr (4, [.int 0, .int 5, .int 5]))])) 0 0 (va_A [(h0, .inr (4, [.int 0, .int 0, .int 0]))] sz) := by
  refine Met.ofW (cc := cX4_init) (maxL := 1) (ret := none) (by decide) rfl ?_
  intro p e s m args below meth c s₁ B hml hv
  obtain ⟨rfl, hsz, hP, hK, hD0, hN⟩ := hv
  have hx := B.exec
  have hb := B.bytes
  have hr := B.returns
  have hts := atoms_spec (ws := Jvm.Cond.code yX4_init cX4_init 1 none :: zWL) B.pre
  have hown : s.vm.findClass RX4 = some m.cls := findClass_of_methodNamed B.named
  have hlocks := B.notSynchronized
  have hin : meth.name = "<init>" := (name_of_methodNamed B.named B.method).1
  subst hsz
  have hD := hD0.self (sz := s.heap.size)
  generalize hAe : va_A [(h0, .inr (4, [.int 0, .int 0, .int 0]))] s.heap.size = A at hD ⊢
  have hA : ∀ q : Nat, s.heap.size ≤ q → A q := fun q h => by rw [← hAe]; exact Or.inr h
  have hS : va_S A s.heap s.heap [] := va_S.rf
  have hP : va_P D vwCl [(h0, .inr (4, [.int 0, .int 0, .int 0]))] s.heap := hP
  have hl := lv_entry ([.ref h0]) (n := 1) (Nat.le_of_ble_eq_true rfl)
  rw [lg_entry_eq]
  generalize (lg_sl ([.ref h0]) ++ List.replicate (1 - (lg_sl ([.ref h0])).length) Slot.unset).toArray = ls at hl ⊢
  have hl : lv_has ls 1 [(0, .ref h0)] := hl
  refine lv_aload_n hx hb di_Mason_0 rfl (lv_at hl 0 rfl) ?_
  refine W.objInit hx hb hown (hts (.methodLink RX4 3 objectInit) (List.mem_cons_of_mem _ (zg1 (List.mem_of_getElem? (i := 57) rfl) rfl))) (hts (.instanceMethod objectInit) (List.mem_cons_of_mem _ (zg1 (List.mem_of_getElem? (i := 24) rfl) rfl))) (hts (.code objectInit ⟨#[0xb1]⟩ 1 none) (List.mem_cons_of_mem _ (zg1 (List.mem_of_getElem? (i := 25) rfl) rfl))) rfl (by rw [hml]; exact hl.1) rfl di_Mason_1 (Nat.le_of_ble_eq_true rfl) (Nat.le_of_ble_eq_true rfl) ?_
  refine W.eq (g2 := F0 m 4 ls []) rfl ?_
  refine lv_aload_n hx hb di_Mason_4 rfl (lv_at hl 0 rfl) ?_
  refine lv_iconst (v := 0) hx hb di_Mason_5 (by decide) ?_
  refine va_put (D := D) (ci := 4) (v := .int 0) (ty := .int) (C := RX4) (T := TX4) (N := 3) hx hb hts (fun w h => List.mem_cons_of_mem _ ((zcls (ci := 4) rfl).1 w h)) tyX4 tyX4_ok nmX4 hown hK hP hD hS 0 rfl rfl 0 (by decide) (hts (.fieldLink RX4 9 "BridgeByTwo$Mason" "style" "I") (List.mem_cons_of_mem _ (zg1 (List.mem_of_getElem? (i := 58) rfl) rfl))) (fun _ h9 => h9) rfl (by decide +kernel) rfl rfl (Nat.le_of_ble_eq_true rfl) di_Mason_6 (fun H locs hP hD hS => ?_)
  have hP : va_P D vwCl [(h0, .inr (4, [.int 0, .int 0, .int 0]))] H := hP
  have hD : va_D A [(h0, .inr (4, [.int 0, .int 0, .int 0]))] := hD
  refine lv_aload_n hx hb di_Mason_9 rfl (lv_at hl 0 rfl) ?_
  refine lv_iconst (v := 5) hx hb di_Mason_10 (by decide) ?_
  refine va_put (D := D) (ci := 4) (v := .int 5) (ty := .int) (C := RX4) (T := TX4) (N := 3) hx hb hts (fun w h => List.mem_cons_of_mem _ ((zcls (ci := 4) rfl).1 w h)) tyX4 tyX4_ok nmX4 hown hK hP hD hS 0 rfl rfl 1 (by decide) (hts (.fieldLink RX4 15 "BridgeByTwo$Mason" "hand" "I") (List.mem_cons_of_mem _ (zg1 (List.mem_of_getElem? (i := 63) rfl) rfl))) (fun _ h9 => h9) rfl (by decide +kernel) rfl rfl (Nat.le_of_ble_eq_true rfl) di_Mason_11 (fun H locs hP hD hS => ?_)
  have hP : va_P D vwCl [(h0, .inr (4, [.int 0, .int 5, .int 0]))] H := hP
  have hD : va_D A [(h0, .inr (4, [.int 0, .int 5, .int 0]))] := hD
  refine lv_aload_n hx hb di_Mason_14 rfl (lv_at hl 0 rfl) ?_
  refine lv_iconst (v := 5) hx hb di_Mason_15 (by decide) ?_
  refine va_put (D := D) (ci := 4) (v := .int 5) (ty := .int) (C := RX4) (T := TX4) (N := 3) hx hb hts (fun w h => List.mem_cons_of_mem _ ((zcls (ci := 4) rfl).1 w h)) tyX4 tyX4_ok nmX4 hown hK hP hD hS 0 rfl rfl 2 (by decide) (hts (.fieldLink RX4 18 "BridgeByTwo$Mason" "spite" "I") (List.mem_cons_of_mem _ (zg1 (List.mem_of_getElem? (i := 68) rfl) rfl))) (fun _ h9 => h9) rfl (by decide +kernel) rfl rfl (Nat.le_of_ble_eq_true rfl) di_Mason_16 (fun H locs hP hD hS => ?_)
  have hP : va_P D vwCl [(h0, .inr (4, [.int 0, .int 5, .int 5]))] H := hP
  have hD : va_D A [(h0, .inr (4, [.int 0, .int 5, .int 5]))] := hD
  have hP := hP.sub (ws' := [(h0, .inr (4, [.int 0, .int 5, .int 5]))]) [0] rfl
  have hD := hD.sub (ws' := [(h0, .inr (4, [.int 0, .int 5, .int 5]))]) [0] (by decide) rfl
  exact W.vret hx hb hr (fun t ht hW => ⟨⟨[(h0, .inr (4, [.int 0, .int 5, .int 5]))], rfl, rfl, by rw [ht]; exact hP, hD⟩, hS.F ht⟩) hS.2.2 di_Mason_19
theorem di_Draws_0 : decode cX1_init 0 = .ok (.aload_n 0, 1) := by decide +kernel
theorem di_Draws_1 : decode cX1_init 1 = .ok (.invokespecial 1, 3) := by decide +kernel
theorem di_Draws_4 : decode cX1_init 4 = .ok (.return_, 1) := by decide +kernel
set_option maxHeartbeats 8000000 in
set_option maxRecDepth 100000 in
theorem ci_Draws (l : Launch) (D : va_G) (cI : ClassId) (h0 : Nat) (sz : Nat) : Met l yX1_init (Jvm.Cond.code yX1_init cX1_init 1 none :: zWL) { frames := 1, cells := 0, slots := 0, locals := 12 } (zcPre D cI [.ref h0] sz (h0, .inr (1, [.int 0]))) (zcPost D (va_A [(h0, .inr (1, [.int 0]))] sz) (fun ws => ws = [(h0, .inr (1, [.int 0]))])) 0 0 (va_A [(h0, .inr (1, [.int 0]))] sz) := by
  refine Met.ofW (cc := cX1_init) (maxL := 1) (ret := none) (by decide) rfl ?_
  intro p e s m args below meth c s₁ B hml hv
  obtain ⟨rfl, hsz, hP, hK, hD0, hN⟩ := hv
  have hx := B.exec
  have hb := B.bytes
  have hr := B.returns
  have hts := atoms_spec (ws := Jvm.Cond.code yX1_init cX1_init 1 none :: zWL) B.pre
  have hown : s.vm.findClass RX1 = some m.cls := findClass_of_methodNamed B.named
  have hlocks := B.notSynchronized
  have hin : meth.name = "<init>" := (name_of_methodNamed B.named B.method).1
  subst hsz
  have hD := hD0.self (sz := s.heap.size)
  generalize hAe : va_A [(h0, .inr (1, [.int 0]))] s.heap.size = A at hD ⊢
  have hA : ∀ q : Nat, s.heap.size ≤ q → A q := fun q h => by rw [← hAe]; exact Or.inr h
  have hS : va_S A s.heap s.heap [] := va_S.rf
  have hP : va_P D vwCl [(h0, .inr (1, [.int 0]))] s.heap := hP
  have hl := lv_entry ([.ref h0]) (n := 1) (Nat.le_of_ble_eq_true rfl)
  rw [lg_entry_eq]
  generalize (lg_sl ([.ref h0]) ++ List.replicate (1 - (lg_sl ([.ref h0])).length) Slot.unset).toArray = ls at hl ⊢
  have hl : lv_has ls 1 [(0, .ref h0)] := hl
  refine lv_aload_n hx hb di_Draws_0 rfl (lv_at hl 0 rfl) ?_
  refine W.objInit hx hb hown (hts (.methodLink RX1 1 objectInit) (List.mem_cons_of_mem _ (zg1 (List.mem_of_getElem? (i := 143) rfl) rfl))) (hts (.instanceMethod objectInit) (List.mem_cons_of_mem _ (zg1 (List.mem_of_getElem? (i := 24) rfl) rfl))) (hts (.code objectInit ⟨#[0xb1]⟩ 1 none) (List.mem_cons_of_mem _ (zg1 (List.mem_of_getElem? (i := 25) rfl) rfl))) rfl (by rw [hml]; exact hl.1) rfl di_Draws_1 (Nat.le_of_ble_eq_true rfl) (Nat.le_of_ble_eq_true rfl) ?_
  refine W.eq (g2 := F0 m 4 ls []) rfl ?_
  have hP := hP.sub (ws' := [(h0, .inr (1, [.int 0]))]) [0] rfl
  have hD := hD.sub (ws' := [(h0, .inr (1, [.int 0]))]) [0] (by decide) rfl
  exact W.vret hx hb hr (fun t ht hW => ⟨⟨[(h0, .inr (1, [.int 0]))], rfl, rfl, by rw [ht]; exact hP, hD⟩, hS.F ht⟩) hS.2.2 di_Draws_4
theorem di_Letters_0 : decode cX3_init 0 = .ok (.aload_n 0, 1) := by decide +kernel
theorem di_Letters_1 : decode cX3_init 1 = .ok (.invokespecial 3, 3) := by decide +kernel
theorem di_Letters_4 : decode cX3_init 4 = .ok (.aload_n 0, 1) := by decide +kernel
theorem di_Letters_5 : decode cX3_init 5 = .ok (.bipush 96, 2) := by decide +kernel
theorem di_Letters_7 : decode cX3_init 7 = .ok (.newarray .int, 2) := by decide +kernel
theorem di_Letters_9 : decode cX3_init 9 = .ok (.putfield 9, 3) := by decide +kernel
theorem di_Letters_12 : decode cX3_init 12 = .ok (.return_, 1) := by decide +kernel
set_option maxHeartbeats 8000000 in
set_option maxRecDepth 100000 in
theorem ci_Letters (l : Launch) (D : va_G) (cI : ClassId) (h0 : Nat) (sz : Nat) : Met l yX3_init (Jvm.Cond.code yX3_init cX3_init 1 none :: zWL) { frames := 1, cells := 1, slots := 96, locals := 12 } (zcPre D cI [.ref h0] sz (h0, .inr (3, [.null, .int 0]))) (zcPost D (va_A [(h0, .inr (3, [.null, .int 0]))] sz) (fun ws => ∃ q1 : Nat, ws = [(h0, .inr (3, [.ref q1, .int 0])), (q1, .inl (cI, 96, .inl (fun _ => 0)))])) 1 96 (va_A [(h0, .inr (3, [.null, .int 0]))] sz) := by
  refine Met.ofW (cc := cX3_init) (maxL := 1) (ret := none) (by decide) rfl ?_
  intro p e s m args below meth c s₁ B hml hv
  obtain ⟨rfl, hsz, hP, hK, hD0, hN⟩ := hv
  have hx := B.exec
  have hb := B.bytes
  have hr := B.returns
  have hts := atoms_spec (ws := Jvm.Cond.code yX3_init cX3_init 1 none :: zWL) B.pre
  have hown : s.vm.findClass RX3 = some m.cls := findClass_of_methodNamed B.named
  have hlocks := B.notSynchronized
  have hin : meth.name = "<init>" := (name_of_methodNamed B.named B.method).1
  subst hsz
  have hD := hD0.self (sz := s.heap.size)
  generalize hAe : va_A [(h0, .inr (3, [.null, .int 0]))] s.heap.size = A at hD ⊢
  have hA : ∀ q : Nat, s.heap.size ≤ q → A q := fun q h => by rw [← hAe]; exact Or.inr h
  have hS : va_S A s.heap s.heap [] := va_S.rf
  have hP : va_P D vwCl [(h0, .inr (3, [.null, .int 0]))] s.heap := hP
  have hl := lv_entry ([.ref h0]) (n := 1) (Nat.le_of_ble_eq_true rfl)
  rw [lg_entry_eq]
  generalize (lg_sl ([.ref h0]) ++ List.replicate (1 - (lg_sl ([.ref h0])).length) Slot.unset).toArray = ls at hl ⊢
  have hl : lv_has ls 1 [(0, .ref h0)] := hl
  refine lv_aload_n hx hb di_Letters_0 rfl (lv_at hl 0 rfl) ?_
  refine W.objInit hx hb hown (hts (.methodLink RX3 3 objectInit) (List.mem_cons_of_mem _ (zg1 (List.mem_of_getElem? (i := 109) rfl) rfl))) (hts (.instanceMethod objectInit) (List.mem_cons_of_mem _ (zg1 (List.mem_of_getElem? (i := 24) rfl) rfl))) (hts (.code objectInit ⟨#[0xb1]⟩ 1 none) (List.mem_cons_of_mem _ (zg1 (List.mem_of_getElem? (i := 25) rfl) rfl))) rfl (by rw [hml]; exact hl.1) rfl di_Letters_1 (Nat.le_of_ble_eq_true rfl) (Nat.le_of_ble_eq_true rfl) ?_
  refine W.eq (g2 := F0 m 4 ls []) rfl ?_
  refine lv_aload_n hx hb di_Letters_4 rfl (lv_at hl 0 rfl) ?_
  refine lv_bipush (v := 96) hx hb di_Letters_5 (by decide) ?_
  refine zc_newa hx hb (hts _ (List.mem_cons_of_mem _ (zg1 (List.mem_of_getElem? (i := 51) rfl) rfl))) hK hP hD hS hA (N' := 96) (by decide) rfl (Nat.le_of_ble_eq_true rfl) (Nat.le_of_ble_eq_true rfl) (Nat.le_of_ble_eq_true rfl) di_Letters_7 (fun q1 H hP hD hS => ?_)
  have hP : va_P D vwCl [(h0, .inr (3, [.null, .int 0])), (q1, .inl (cI, 96, .inl (fun _ => 0)))] H := hP
  have hD : va_D A [(h0, .inr (3, [.null, .int 0])), (q1, .inl (cI, 96, .inl (fun _ => 0)))] := hD
  refine W.widen (k := 1) (n := 96) (by omega) (by omega) ?_
  refine va_putF (D := D) (ci := 3) (v := .ref q1) (ty := .array .int) (C := RX3) (T := TX3) (N := 2) hx hb hts (fun w h => List.mem_cons_of_mem _ ((zcls (ci := 3) rfl).1 w h)) tyX3 tyX3_ok nmX3 hown hK hP hD hS 0 rfl rfl 0 (by decide) (hts (.fieldLink RX3 9 "BridgeByTwo$Letters" "letters" "[I") (List.mem_cons_of_mem _ (zg1 (List.mem_of_getElem? (i := 110) rfl) rfl))) (fun _ h9 => h9) rfl hin rfl (by decide +kernel) rfl rfl (Nat.le_of_ble_eq_true rfl) di_Letters_9 (fun H locs hP hD hS => ?_)
  have hP : va_P D vwCl [(h0, .inr (3, [.ref q1, .int 0])), (q1, .inl (cI, 96, .inl (fun _ => 0)))] H := hP
  have hD : va_D A [(h0, .inr (3, [.ref q1, .int 0])), (q1, .inl (cI, 96, .inl (fun _ => 0)))] := hD
  have hP := hP.sub (ws' := [(h0, .inr (3, [.ref q1, .int 0])), (q1, .inl (cI, 96, .inl (fun _ => 0)))]) [0, 1] rfl
  have hD := hD.sub (ws' := [(h0, .inr (3, [.ref q1, .int 0])), (q1, .inl (cI, 96, .inl (fun _ => 0)))]) [0, 1] (by decide) rfl
  exact W.vret hx hb hr (fun t ht hW => ⟨⟨[(h0, .inr (3, [.ref q1, .int 0])), (q1, .inl (cI, 96, .inl (fun _ => 0)))], rfl, ⟨q1, rfl⟩, by rw [ht]; exact hP, hD⟩, hS.F ht⟩) hS.2.2 di_Letters_12
theorem di_Row_0 : decode cX6_init 0 = .ok (.aload_n 0, 1) := by decide +kernel
theorem di_Row_1 : decode cX6_init 1 = .ok (.invokespecial 3, 3) := by decide +kernel
theorem di_Row_4 : decode cX6_init 4 = .ok (.aload_n 0, 1) := by decide +kernel
theorem di_Row_5 : decode cX6_init 5 = .ok (.bipush 16, 2) := by decide +kernel
theorem di_Row_7 : decode cX6_init 7 = .ok (.newarray .int, 2) := by decide +kernel
theorem di_Row_9 : decode cX6_init 9 = .ok (.putfield 9, 3) := by decide +kernel
theorem di_Row_12 : decode cX6_init 12 = .ok (.return_, 1) := by decide +kernel
set_option maxHeartbeats 8000000 in
set_option maxRecDepth 100000 in
theorem ci_Row (l : Launch) (D : va_G) (cI : ClassId) (h0 : Nat) (sz : Nat) : Met l yX6_init (Jvm.Cond.code yX6_init cX6_init 1 none :: zWL) { frames := 1, cells := 1, slots := 16, locals := 12 } (zcPre D cI [.ref h0] sz (h0, .inr (6, [.null, .int 0]))) (zcPost D (va_A [(h0, .inr (6, [.null, .int 0]))] sz) (fun ws => ∃ q1 : Nat, ws = [(h0, .inr (6, [.ref q1, .int 0])), (q1, .inl (cI, 16, .inl (fun _ => 0)))])) 1 16 (va_A [(h0, .inr (6, [.null, .int 0]))] sz) := by
  refine Met.ofW (cc := cX6_init) (maxL := 1) (ret := none) (by decide) rfl ?_
  intro p e s m args below meth c s₁ B hml hv
  obtain ⟨rfl, hsz, hP, hK, hD0, hN⟩ := hv
  have hx := B.exec
  have hb := B.bytes
  have hr := B.returns
  have hts := atoms_spec (ws := Jvm.Cond.code yX6_init cX6_init 1 none :: zWL) B.pre
  have hown : s.vm.findClass RX6 = some m.cls := findClass_of_methodNamed B.named
  have hlocks := B.notSynchronized
  have hin : meth.name = "<init>" := (name_of_methodNamed B.named B.method).1
  subst hsz
  have hD := hD0.self (sz := s.heap.size)
  generalize hAe : va_A [(h0, .inr (6, [.null, .int 0]))] s.heap.size = A at hD ⊢
  have hA : ∀ q : Nat, s.heap.size ≤ q → A q := fun q h => by rw [← hAe]; exact Or.inr h
  have hS : va_S A s.heap s.heap [] := va_S.rf
  have hP : va_P D vwCl [(h0, .inr (6, [.null, .int 0]))] s.heap := hP
  have hl := lv_entry ([.ref h0]) (n := 1) (Nat.le_of_ble_eq_true rfl)
  rw [lg_entry_eq]
  generalize (lg_sl ([.ref h0]) ++ List.replicate (1 - (lg_sl ([.ref h0])).length) Slot.unset).toArray = ls at hl ⊢
  have hl : lv_has ls 1 [(0, .ref h0)] := hl
  refine lv_aload_n hx hb di_Row_0 rfl (lv_at hl 0 rfl) ?_
  refine W.objInit hx hb hown (hts (.methodLink RX6 3 objectInit) (List.mem_cons_of_mem _ (zg1 (List.mem_of_getElem? (i := 122) rfl) rfl))) (hts (.instanceMethod objectInit) (List.mem_cons_of_mem _ (zg1 (List.mem_of_getElem? (i := 24) rfl) rfl))) (hts (.code objectInit ⟨#[0xb1]⟩ 1 none) (List.mem_cons_of_mem _ (zg1 (List.mem_of_getElem? (i := 25) rfl) rfl))) rfl (by rw [hml]; exact hl.1) rfl di_Row_1 (Nat.le_of_ble_eq_true rfl) (Nat.le_of_ble_eq_true rfl) ?_
  refine W.eq (g2 := F0 m 4 ls []) rfl ?_
  refine lv_aload_n hx hb di_Row_4 rfl (lv_at hl 0 rfl) ?_
  refine lv_bipush (v := 16) hx hb di_Row_5 (by decide) ?_
  refine zc_newa hx hb (hts _ (List.mem_cons_of_mem _ (zg1 (List.mem_of_getElem? (i := 51) rfl) rfl))) hK hP hD hS hA (N' := 16) (by decide) rfl (Nat.le_of_ble_eq_true rfl) (Nat.le_of_ble_eq_true rfl) (Nat.le_of_ble_eq_true rfl) di_Row_7 (fun q1 H hP hD hS => ?_)
  have hP : va_P D vwCl [(h0, .inr (6, [.null, .int 0])), (q1, .inl (cI, 16, .inl (fun _ => 0)))] H := hP
  have hD : va_D A [(h0, .inr (6, [.null, .int 0])), (q1, .inl (cI, 16, .inl (fun _ => 0)))] := hD
  refine W.widen (k := 1) (n := 16) (by omega) (by omega) ?_
  refine va_putF (D := D) (ci := 6) (v := .ref q1) (ty := .array .int) (C := RX6) (T := TX6) (N := 2) hx hb hts (fun w h => List.mem_cons_of_mem _ ((zcls (ci := 6) rfl).1 w h)) tyX6 tyX6_ok nmX6 hown hK hP hD hS 0 rfl rfl 0 (by decide) (hts (.fieldLink RX6 9 "BridgeByTwo$Row" "numbers" "[I") (List.mem_cons_of_mem _ (zg1 (List.mem_of_getElem? (i := 123) rfl) rfl))) (fun _ h9 => h9) rfl hin rfl (by decide +kernel) rfl rfl (Nat.le_of_ble_eq_true rfl) di_Row_9 (fun H locs hP hD hS => ?_)
  have hP : va_P D vwCl [(h0, .inr (6, [.ref q1, .int 0])), (q1, .inl (cI, 16, .inl (fun _ => 0)))] H := hP
  have hD : va_D A [(h0, .inr (6, [.ref q1, .int 0])), (q1, .inl (cI, 16, .inl (fun _ => 0)))] := hD
  have hP := hP.sub (ws' := [(h0, .inr (6, [.ref q1, .int 0])), (q1, .inl (cI, 16, .inl (fun _ => 0)))]) [0, 1] rfl
  have hD := hD.sub (ws' := [(h0, .inr (6, [.ref q1, .int 0])), (q1, .inl (cI, 16, .inl (fun _ => 0)))]) [0, 1] (by decide) rfl
  exact W.vret hx hb hr (fun t ht hW => ⟨⟨[(h0, .inr (6, [.ref q1, .int 0])), (q1, .inl (cI, 16, .inl (fun _ => 0)))], rfl, ⟨q1, rfl⟩, by rw [ht]; exact hP, hD⟩, hS.F ht⟩) hS.2.2 di_Row_12
