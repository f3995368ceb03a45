theorem di_Bridge_0 : decode cX0_init 0 = .ok (.aload_n 0, 1) := by decide +kernel
theorem di_Bridge_1 : decode cX0_init 1 = .ok (.invokespecial 3, 3) := by decide +kernel
theorem di_Bridge_4 : decode cX0_init 4 = .ok (.aload_n 0, 1) := by decide +kernel
theorem di_Bridge_5 : decode cX0_init 5 = .ok (.new 9, 3) := by decide +kernel
theorem di_Bridge_8 : decode cX0_init 8 = .ok (.dup, 1) := by decide +kernel
theorem di_Bridge_9 : decode cX0_init 9 = .ok (.invokespecial 11, 3) := by decide +kernel
theorem di_Bridge_12 : decode cX0_init 12 = .ok (.putfield 12, 3) := by decide +kernel
theorem di_Bridge_15 : decode cX0_init 15 = .ok (.aload_n 0, 1) := by decide +kernel
theorem di_Bridge_16 : decode cX0_init 16 = .ok (.new 18, 3) := by decide +kernel
theorem di_Bridge_19 : decode cX0_init 19 = .ok (.dup, 1) := by decide +kernel
theorem di_Bridge_20 : decode cX0_init 20 = .ok (.invokespecial 20, 3) := by decide +kernel
theorem di_Bridge_23 : decode cX0_init 23 = .ok (.putfield 21, 3) := by decide +kernel
theorem di_Bridge_26 : decode cX0_init 26 = .ok (.aload_n 0, 1) := by decide +kernel
theorem di_Bridge_27 : decode cX0_init 27 = .ok (.new 18, 3) := by decide +kernel
theorem di_Bridge_30 : decode cX0_init 30 = .ok (.dup, 1) := by decide +kernel
theorem di_Bridge_31 : decode cX0_init 31 = .ok (.invokespecial 20, 3) := by decide +kernel
theorem di_Bridge_34 : decode cX0_init 34 = .ok (.putfield 25, 3) := by decide +kernel
theorem di_Bridge_37 : decode cX0_init 37 = .ok (.return_, 1) := by decide +kernel
set_option maxHeartbeats 8000000 in
set_option maxRecDepth 100000 in
theorem ci_Bridge (l : Launch) (D : va_G) (cI : ClassId) (h0 : Nat) (sz : Nat) : Met l yX0_init (Jvm.Cond.code yX0_init cX0_init 1 none :: zWL) { frames := 2, cells := 6, slots := 49, locals := 32 } (zcPre D cI [.ref h0] sz (h0, .inr (0, [.null, .null, .null, .int 0, .int 0]))) (zcPost D (va_A [(h0, .inr (0, [.null, .null, .null, .int 0, .int 0]))] sz) (fun ws => ∃ q1 q2 q3 q4 q5 q6 : Nat, ws = [(h0, .inr (0, [.ref q1, .ref q5, .ref q6, .int 0, .int 0])), (q1, .inr (7, [.ref q2, .ref q3, .ref q4, .int 0])), (q2, .inl (cI, 13, .inl (fun _ => 0))), (q3, .inl (cI, 13, .inl (fun _ => 0))), (q4, .inl (cI, 13, .inl (fun _ => 0))), (q5, .inr (4, [.int 0, .int 5, .int 5])), (q6, .inr (4, [.int 0, .int 5, .int 5]))])) 6 49 (va_A [(h0, .inr (0, [.null, .null, .null, .int 0, .int 0]))] sz) := by
  refine Met.ofW (cc := cX0_init) (maxL := 1) (ret := none) (by decide) rfl ?_
  intro p e s m args below meth c s₁ B hml hv
  obtain ⟨rfl, hsz, hP, hK, hD0, hN⟩ := hv
  have hx := B.exec
  have hb := B.bytes
  have hr := B.returns
  have hts := atoms_spec (ws := Jvm.Cond.code yX0_init cX0_init 1 none :: zWL) B.pre
  have hown : s.vm.findClass RX0 = some m.cls := findClass_of_methodNamed B.named
  have hlocks := B.notSynchronized
  have hin : meth.name = "<init>" := (name_of_methodNamed B.named B.method).1
  subst hsz
  have hD := hD0.self (sz := s.heap.size)
  generalize hAe : va_A [(h0, .inr (0, [.null, .null, .null, .int 0, .int 0]))] s.heap.size = A at hD ⊢
  have hA : ∀ q : Nat, s.heap.size ≤ q → A q := fun q h => by rw [← hAe]; exact Or.inr h
  have hS : va_S A s.heap s.heap [] := va_S.rf
  have hP : va_P D vwCl [(h0, .inr (0, [.null, .null, .null, .int 0, .int 0]))] s.heap := hP
  have hl := lv_entry ([.ref h0]) (n := 1) (Nat.le_of_ble_eq_true rfl)
  rw [lg_entry_eq]
  generalize (lg_sl ([.ref h0]) ++ List.replicate (1 - (lg_sl ([.ref h0])).length) Slot.unset).toArray = ls at hl ⊢
  have hl : lv_has ls 1 [(0, .ref h0)] := hl
  refine lv_aload_n hx hb di_Bridge_0 rfl (lv_at hl 0 rfl) ?_
  refine W.objInit hx hb hown (hts (.methodLink RX0 3 objectInit) (List.mem_cons_of_mem _ (zg1 (List.mem_of_getElem? (i := 31) rfl) rfl))) (hts (.instanceMethod objectInit) (List.mem_cons_of_mem _ (zg1 (List.mem_of_getElem? (i := 24) rfl) rfl))) (hts (.code objectInit ⟨#[0xb1]⟩ 1 none) (List.mem_cons_of_mem _ (zg1 (List.mem_of_getElem? (i := 25) rfl) rfl))) rfl (by rw [hml]; exact hl.1) rfl di_Bridge_1 (Nat.le_of_ble_eq_true rfl) (Nat.le_of_ble_eq_true rfl) ?_
  refine W.eq (g2 := F0 m 4 ls []) rfl ?_
  refine lv_aload_n hx hb di_Bridge_4 rfl (lv_at hl 0 rfl) ?_
  refine va_new (ci := 7) (fs := [.null, .null, .null, .int 0]) (C := RX7) (T := TX7) (N := 4) hx hb hts (fun w h => List.mem_cons_of_mem _ ((zcls (ci := 7) rfl).1 w h)) tyX7 tyX7_ok hown (hts (.classLink RX0 9 RX7) (List.mem_cons_of_mem _ (zg1 (List.mem_of_getElem? (i := 32) rfl) rfl))) (hts (.instantiable RX7 4) (List.mem_cons_of_mem _ (zg1 (List.mem_of_getElem? (i := 33) rfl) rfl))) (hts (.initialized RX7) (List.mem_cons_of_mem _ (zg1 (List.mem_of_getElem? (i := 3) rfl) rfl))) hK hP hD hS hA rfl (fun j hj => by rcases (show j = 0 ∨ j = 1 ∨ j = 2 ∨ j = 3 by omega) with rfl | rfl | rfl | rfl <;> rfl) (Nat.le_of_ble_eq_true rfl) (Nat.le_of_ble_eq_true rfl) di_Bridge_5 (fun q1 H hP hD hS => ?_)
  have hP : va_P D vwCl [(h0, .inr (0, [.null, .null, .null, .int 0, .int 0])), (q1, .inr (7, [.null, .null, .null, .int 0]))] H := hP
  have hD : va_D A [(h0, .inr (0, [.null, .null, .null, .int 0, .int 0])), (q1, .inr (7, [.null, .null, .null, .int 0]))] := hD
  refine W.widen (k := 1) (n := 4) (by omega) (by omega) ?_
  refine lv_dup hx hb di_Bridge_8 rfl ?_
  have hPc := hP.sub (ws' := [(q1, .inr (7, [.null, .null, .null, .int 0]))]) [1] rfl
  have hDc := hD.sub (ws' := [(q1, .inr (7, [.null, .null, .null, .int 0]))]) [1] (by decide) rfl
  have hFc := va_free (wc := [(q1, .inr (7, [.null, .null, .null, .int 0]))]) hD hS hA [1] rfl
  refine va_callv (va_runIN (As := []) (rest := [.ref q1, .ref h0]) ⟨hx, hb, hml, hown, hts⟩ (ci_Stones l D cI q1 H.size) ⟨va_cnB 0 hts (zGIc (zg1 (List.mem_of_getElem? (i := 36) rfl) rfl)) rfl rfl rfl (hN _ (zn1 (List.mem_of_getElem? (i := 34) rfl) rfl)) (hts (.initialized RX7) (List.mem_cons_of_mem _ (zg1 (List.mem_of_getElem? (i := 3) rfl) rfl))) ⟨by decide +kernel, by decide +kernel, by decide +kernel⟩ ⟨(Nat.le_of_ble_eq_true rfl), (Nat.le_of_ble_eq_true rfl)⟩, rfl, hts (.instanceMethod yX7_init) (List.mem_cons_of_mem _ (zg1 (List.mem_of_getElem? (i := 35) rfl) rfl))⟩ ⟨zcPre_blind, fun U hU hW => ⟨rfl, by rw [hU], by rw [hU]; exact hPc, va_K.moved hW.alike hK, hDc.weaken (fun _ _ _ _ => trivial), fun w hw => zNL_warm hW hw (hN w hw)⟩⟩ rfl rfl hl.1 rfl (lv_room (Nat.le_of_ble_eq_true rfl)) di_Bridge_9 ⟨(Nat.le_of_ble_eq_true rfl), (Nat.le_of_ble_eq_true rfl)⟩) hS (fun q _ h => hFc q h) hFc (fun u t H1 locs ht hvm hw hB hz1 hk1 hS => ?_)
  obtain ⟨q2, q3, q4, rfl⟩ := hw
  obtain ⟨hP1, hD1⟩ := hB
  rw [ht] at hP1
  obtain ⟨hP, hD⟩ := va_join (wr := [(h0, .inr (0, [.null, .null, .null, .int 0, .int 0]))]) (w1 := [(q1, .inr (7, [.ref q2, .ref q3, .ref q4, .int 0])), (q2, .inl (cI, 13, .inl (fun _ => 0))), (q3, .inl (cI, 13, .inl (fun _ => 0))), (q4, .inl (cI, 13, .inl (fun _ => 0)))]) hP hD [1] [0] rfl rfl (by decide) (by decide) hk1 hFc hP1 hD1
  clear hPc hDc hFc hP1 hD1 hk1 hz1 ht hvm
  generalize H1 = H at hP hS ⊢
  have hP : va_P D vwCl [(h0, .inr (0, [.null, .null, .null, .int 0, .int 0])), (q1, .inr (7, [.ref q2, .ref q3, .ref q4, .int 0])), (q2, .inl (cI, 13, .inl (fun _ => 0))), (q3, .inl (cI, 13, .inl (fun _ => 0))), (q4, .inl (cI, 13, .inl (fun _ => 0)))] H := hP
  have hD : va_D A [(h0, .inr (0, [.null, .null, .null, .int 0, .int 0])), (q1, .inr (7, [.ref q2, .ref q3, .ref q4, .int 0])), (q2, .inl (cI, 13, .inl (fun _ => 0))), (q3, .inl (cI, 13, .inl (fun _ => 0))), (q4, .inl (cI, 13, .inl (fun _ => 0)))] := hD
  refine W.widen (k := 4) (n := 43) (by omega) (by omega) ?_
  refine va_putF (D := D) (ci := 0) (v := .ref q1) (ty := .object "BridgeByTwo$Stones") (C := RX0) (T := TX0) (N := 5) hx hb hts (fun w h => List.mem_cons_of_mem _ ((zcls (ci := 0) rfl).1 w h)) tyX0 tyX0_ok nmX0 hown hK hP hD hS 0 rfl rfl 0 (by decide) (hts (.fieldLink RX0 12 "BridgeByTwo$Bridge" "stones" "LBridgeByTwo$Stones;") (List.mem_cons_of_mem _ (zg1 (List.mem_of_getElem? (i := 80) rfl) rfl))) (fun _ h9 => h9) rfl hin rfl (by decide +kernel) rfl rfl (Nat.le_of_ble_eq_true rfl) di_Bridge_12 (fun H locs hP hD hS => ?_)
  have hP : va_P D vwCl [(h0, .inr (0, [.ref q1, .null, .null, .int 0, .int 0])), (q1, .inr (7, [.ref q2, .ref q3, .ref q4, .int 0])), (q2, .inl (cI, 13, .inl (fun _ => 0))), (q3, .inl (cI, 13, .inl (fun _ => 0))), (q4, .inl (cI, 13, .inl (fun _ => 0)))] H := hP
  have hD : va_D A [(h0, .inr (0, [.ref q1, .null, .null, .int 0, .int 0])), (q1, .inr (7, [.ref q2, .ref q3, .ref q4, .int 0])), (q2, .inl (cI, 13, .inl (fun _ => 0))), (q3, .inl (cI, 13, .inl (fun _ => 0))), (q4, .inl (cI, 13, .inl (fun _ => 0)))] := hD
  refine lv_aload_n hx hb di_Bridge_15 rfl (lv_at hl 0 rfl) ?_
  refine va_new (ci := 4) (fs := [.int 0, .int 0, .int 0]) (C := RX4) (T := TX4) (N := 3) hx hb hts (fun w h => List.mem_cons_of_mem _ ((zcls (ci := 4) rfl).1 w h)) tyX4 tyX4_ok hown (hts (.classLink RX0 18 RX4) (List.mem_cons_of_mem _ (zg1 (List.mem_of_getElem? (i := 52) rfl) rfl))) (hts (.instantiable RX4 3) (List.mem_cons_of_mem _ (zg1 (List.mem_of_getElem? (i := 53) rfl) rfl))) (hts (.initialized RX4) (List.mem_cons_of_mem _ (zg1 (List.mem_of_getElem? (i := 4) rfl) rfl))) hK hP hD hS hA rfl (fun j hj => by rcases (show j = 0 ∨ j = 1 ∨ j = 2 by omega) with rfl | rfl | rfl <;> rfl) (Nat.le_of_ble_eq_true rfl) (Nat.le_of_ble_eq_true rfl) di_Bridge_16 (fun q5 H hP hD hS => ?_)
  have hP : va_P D vwCl [(h0, .inr (0, [.ref q1, .null, .null, .int 0, .int 0])), (q1, .inr (7, [.ref q2, .ref q3, .ref q4, .int 0])), (q2, .inl (cI, 13, .inl (fun _ => 0))), (q3, .inl (cI, 13, .inl (fun _ => 0))), (q4, .inl (cI, 13, .inl (fun _ => 0))), (q5, .inr (4, [.int 0, .int 0, .int 0]))] H := hP
  have hD : va_D A [(h0, .inr (0, [.ref q1, .null, .null, .int 0, .int 0])), (q1, .inr (7, [.ref q2, .ref q3, .ref q4, .int 0])), (q2, .inl (cI, 13, .inl (fun _ => 0))), (q3, .inl (cI, 13, .inl (fun _ => 0))), (q4, .inl (cI, 13, .inl (fun _ => 0))), (q5, .inr (4, [.int 0, .int 0, .int 0]))] := hD
  refine W.widen (k := 5) (n := 46) (by omega) (by omega) ?_
  refine lv_dup hx hb di_Bridge_19 rfl ?_
  have hPc := hP.sub (ws' := [(q5, .inr (4, [.int 0, .int 0, .int 0]))]) [5] rfl
  have hDc := hD.sub (ws' := [(q5, .inr (4, [.int 0, .int 0, .int 0]))]) [5] (by decide) rfl
  have hFc := va_free (wc := [(q5, .inr (4, [.int 0, .int 0, .int 0]))]) hD hS hA [5] rfl
  refine va_callv (va_runIN (As := []) (rest := [.ref q5, .ref h0]) ⟨hx, hb, hml, hown, hts⟩ (ci_Mason l D cI q5 H.size) ⟨va_cnB 0 hts (zGIc (zg1 (List.mem_of_getElem? (i := 56) rfl) rfl)) rfl rfl rfl (hN _ (zn1 (List.mem_of_getElem? (i := 54) rfl) rfl)) (hts (.initialized RX4) (List.mem_cons_of_mem _ (zg1 (List.mem_of_getElem? (i := 4) rfl) rfl))) ⟨by decide +kernel, by decide +kernel, by decide +kernel⟩ ⟨(Nat.le_of_ble_eq_true rfl), (Nat.le_of_ble_eq_true rfl)⟩, rfl, hts (.instanceMethod yX4_init) (List.mem_cons_of_mem _ (zg1 (List.mem_of_getElem? (i := 55) rfl) rfl))⟩ ⟨zcPre_blind, fun U hU hW => ⟨rfl, by rw [hU], by rw [hU]; exact hPc, va_K.moved hW.alike hK, hDc.weaken (fun _ _ _ _ => trivial), fun w hw => zNL_warm hW hw (hN w hw)⟩⟩ rfl rfl hl.1 rfl (lv_room (Nat.le_of_ble_eq_true rfl)) di_Bridge_20 ⟨(Nat.le_of_ble_eq_true rfl), (Nat.le_of_ble_eq_true rfl)⟩) hS (fun q _ h => hFc q h) hFc (fun u t H1 locs ht hvm hw hB hz1 hk1 hS => ?_)
  obtain rfl := hw
  obtain ⟨hP1, hD1⟩ := hB
  rw [ht] at hP1
  obtain ⟨hP, hD⟩ := va_join (wr := [(h0, .inr (0, [.ref q1, .null, .null, .int 0, .int 0])), (q1, .inr (7, [.ref q2, .ref q3, .ref q4, .int 0])), (q2, .inl (cI, 13, .inl (fun _ => 0))), (q3, .inl (cI, 13, .inl (fun _ => 0))), (q4, .inl (cI, 13, .inl (fun _ => 0)))]) (w1 := [(q5, .inr (4, [.int 0, .int 5, .int 5]))]) hP hD [5] [0, 1, 2, 3, 4] rfl rfl (by decide) (by decide) hk1 hFc hP1 hD1
  clear hPc hDc hFc hP1 hD1 hk1 hz1 ht hvm
  generalize H1 = H at hP hS ⊢
  have hP : va_P D vwCl [(h0, .inr (0, [.ref q1, .null, .null, .int 0, .int 0])), (q1, .inr (7, [.ref q2, .ref q3, .ref q4, .int 0])), (q2, .inl (cI, 13, .inl (fun _ => 0))), (q3, .inl (cI, 13, .inl (fun _ => 0))), (q4, .inl (cI, 13, .inl (fun _ => 0))), (q5, .inr (4, [.int 0, .int 5, .int 5]))] H := hP
  have hD : va_D A [(h0, .inr (0, [.ref q1, .null, .null, .int 0, .int 0])), (q1, .inr (7, [.ref q2, .ref q3, .ref q4, .int 0])), (q2, .inl (cI, 13, .inl (fun _ => 0))), (q3, .inl (cI, 13, .inl (fun _ => 0))), (q4, .inl (cI, 13, .inl (fun _ => 0))), (q5, .inr (4, [.int 0, .int 5, .int 5]))] := hD
  refine W.widen (k := 5) (n := 46) (by omega) (by omega) ?_
  refine va_putF (D := D) (ci := 0) (v := .ref q5) (ty := .object "BridgeByTwo$Mason") (C := RX0) (T := TX0) (N := 5) hx hb hts (fun w h => List.mem_cons_of_mem _ ((zcls (ci := 0) rfl).1 w h)) tyX0 tyX0_ok nmX0 hown hK hP hD hS 0 rfl rfl 1 (by decide) (hts (.fieldLink RX0 21 "BridgeByTwo$Bridge" "ofDay" "LBridgeByTwo$Mason;") (List.mem_cons_of_mem _ (zg1 (List.mem_of_getElem? (i := 84) rfl) rfl))) (fun _ h9 => h9) rfl hin rfl (by decide +kernel) rfl rfl (Nat.le_of_ble_eq_true rfl) di_Bridge_23 (fun H locs hP hD hS => ?_)
  have hP : va_P D vwCl [(h0, .inr (0, [.ref q1, .ref q5, .null, .int 0, .int 0])), (q1, .inr (7, [.ref q2, .ref q3, .ref q4, .int 0])), (q2, .inl (cI, 13, .inl (fun _ => 0))), (q3, .inl (cI, 13, .inl (fun _ => 0))), (q4, .inl (cI, 13, .inl (fun _ => 0))), (q5, .inr (4, [.int 0, .int 5, .int 5]))] H := hP
  have hD : va_D A [(h0, .inr (0, [.ref q1, .ref q5, .null, .int 0, .int 0])), (q1, .inr (7, [.ref q2, .ref q3, .ref q4, .int 0])), (q2, .inl (cI, 13, .inl (fun _ => 0))), (q3, .inl (cI, 13, .inl (fun _ => 0))), (q4, .inl (cI, 13, .inl (fun _ => 0))), (q5, .inr (4, [.int 0, .int 5, .int 5]))] := hD
  refine lv_aload_n hx hb di_Bridge_26 rfl (lv_at hl 0 rfl) ?_
  refine va_new (ci := 4) (fs := [.int 0, .int 0, .int 0]) (C := RX4) (T := TX4) (N := 3) hx hb hts (fun w h => List.mem_cons_of_mem _ ((zcls (ci := 4) rfl).1 w h)) tyX4 tyX4_ok hown (hts (.classLink RX0 18 RX4) (List.mem_cons_of_mem _ (zg1 (List.mem_of_getElem? (i := 52) rfl) rfl))) (hts (.instantiable RX4 3) (List.mem_cons_of_mem _ (zg1 (List.mem_of_getElem? (i := 53) rfl) rfl))) (hts (.initialized RX4) (List.mem_cons_of_mem _ (zg1 (List.mem_of_getElem? (i := 4) rfl) rfl))) hK hP hD hS hA rfl (fun j hj => by rcases (show j = 0 ∨ j = 1 ∨ j = 2 by omega) with rfl | rfl | rfl <;> rfl) (Nat.le_of_ble_eq_true rfl) (Nat.le_of_ble_eq_true rfl) di_Bridge_27 (fun q6 H hP hD hS => ?_)
  have hP : va_P D vwCl [(h0, .inr (0, [.ref q1, .ref q5, .null, .int 0, .int 0])), (q1, .inr (7, [.ref q2, .ref q3, .ref q4, .int 0])), (q2, .inl (cI, 13, .inl (fun _ => 0))), (q3, .inl (cI, 13, .inl (fun _ => 0))), (q4, .inl (cI, 13, .inl (fun _ => 0))), (q5, .inr (4, [.int 0, .int 5, .int 5])), (q6, .inr (4, [.int 0, .int 0, .int 0]))] H := hP
  have hD : va_D A [(h0, .inr (0, [.ref q1, .ref q5, .null, .int 0, .int 0])), (q1, .inr (7, [.ref q2, .ref q3, .ref q4, .int 0])), (q2, .inl (cI, 13, .inl (fun _ => 0))), (q3, .inl (cI, 13, .inl (fun _ => 0))), (q4, .inl (cI, 13, .inl (fun _ => 0))), (q5, .inr (4, [.int 0, .int 5, .int 5])), (q6, .inr (4, [.int 0, .int 0, .int 0]))] := hD
  refine W.widen (k := 6) (n := 49) (by omega) (by omega) ?_
  refine lv_dup hx hb di_Bridge_30 rfl ?_
  have hPc := hP.sub (ws' := [(q6, .inr (4, [.int 0, .int 0, .int 0]))]) [6] rfl
  have hDc := hD.sub (ws' := [(q6, .inr (4, [.int 0, .int 0, .int 0]))]) [6] (by decide) rfl
  have hFc := va_free (wc := [(q6, .inr (4, [.int 0, .int 0, .int 0]))]) hD hS hA [6] rfl
  refine va_callv (va_runIN (As := []) (rest := [.ref q6, .ref h0]) ⟨hx, hb, hml, hown, hts⟩ (ci_Mason l D cI q6 H.size) ⟨va_cnB 0 hts (zGIc (zg1 (List.mem_of_getElem? (i := 56) rfl) rfl)) rfl rfl rfl (hN _ (zn1 (List.mem_of_getElem? (i := 54) rfl) rfl)) (hts (.initialized RX4) (List.mem_cons_of_mem _ (zg1 (List.mem_of_getElem? (i := 4) rfl) rfl))) ⟨by decide +kernel, by decide +kernel, by decide +kernel⟩ ⟨(Nat.le_of_ble_eq_true rfl), (Nat.le_of_ble_eq_true rfl)⟩, rfl, hts (.instanceMethod yX4_init) (List.mem_cons_of_mem _ (zg1 (List.mem_of_getElem? (i := 55) rfl) rfl))⟩ ⟨zcPre_blind, fun U hU hW => ⟨rfl, by rw [hU], by rw [hU]; exact hPc, va_K.moved hW.alike hK, hDc.weaken (fun _ _ _ _ => trivial), fun w hw => zNL_warm hW hw (hN w hw)⟩⟩ rfl rfl hl.1 rfl (lv_room (Nat.le_of_ble_eq_true rfl)) di_Bridge_31 ⟨(Nat.le_of_ble_eq_true rfl), (Nat.le_of_ble_eq_true rfl)⟩) hS (fun q _ h => hFc q h) hFc (fun u t H1 locs ht hvm hw hB hz1 hk1 hS => ?_)
  obtain rfl := hw
  obtain ⟨hP1, hD1⟩ := hB
  rw [ht] at hP1
  obtain ⟨hP, hD⟩ := va_join (wr := [(h0, .inr (0, [.ref q1, .ref q5, .null, .int 0, .int 0])), (q1, .inr (7, [.ref q2, .ref q3, .ref q4, .int 0])), (q2, .inl (cI, 13, .inl (fun _ => 0))), (q3, .inl (cI, 13, .inl (fun _ => 0))), (q4, .inl (cI, 13, .inl (fun _ => 0))), (q5, .inr (4, [.int 0, .int 5, .int 5]))]) (w1 := [(q6, .inr (4, [.int 0, .int 5, .int 5]))]) hP hD [6] [0, 1, 2, 3, 4, 5] rfl rfl (by decide) (by decide) hk1 hFc hP1 hD1
  clear hPc hDc hFc hP1 hD1 hk1 hz1 ht hvm
  generalize H1 = H at hP hS ⊢
  have hP : va_P D vwCl [(h0, .inr (0, [.ref q1, .ref q5, .null, .int 0, .int 0])), (q1, .inr (7, [.ref q2, .ref q3, .ref q4, .int 0])), (q2, .inl (cI, 13, .inl (fun _ => 0))), (q3, .inl (cI, 13, .inl (fun _ => 0))), (q4, .inl (cI, 13, .inl (fun _ => 0))), (q5, .inr (4, [.int 0, .int 5, .int 5])), (q6, .inr (4, [.int 0, .int 5, .int 5]))] H := hP
  have hD : va_D A [(h0, .inr (0, [.ref q1, .ref q5, .null, .int 0, .int 0])), (q1, .inr (7, [.ref q2, .ref q3, .ref q4, .int 0])), (q2, .inl (cI, 13, .inl (fun _ => 0))), (q3, .inl (cI, 13, .inl (fun _ => 0))), (q4, .inl (cI, 13, .inl (fun _ => 0))), (q5, .inr (4, [.int 0, .int 5, .int 5])), (q6, .inr (4, [.int 0, .int 5, .int 5]))] := hD
  refine W.widen (k := 6) (n := 49) (by omega) (by omega) ?_
  refine va_putF (D := D) (ci := 0) (v := .ref q6) (ty := .object "BridgeByTwo$Mason") (C := RX0) (T := TX0) (N := 5) hx hb hts (fun w h => List.mem_cons_of_mem _ ((zcls (ci := 0) rfl).1 w h)) tyX0 tyX0_ok nmX0 hown hK hP hD hS 0 rfl rfl 2 (by decide) (hts (.fieldLink RX0 25 "BridgeByTwo$Bridge" "ofNight" "LBridgeByTwo$Mason;") (List.mem_cons_of_mem _ (zg1 (List.mem_of_getElem? (i := 86) rfl) rfl))) (fun _ h9 => h9) rfl hin rfl (by decide +kernel) rfl rfl (Nat.le_of_ble_eq_true rfl) di_Bridge_34 (fun H locs hP hD hS => ?_)
  have hP : va_P D vwCl [(h0, .inr (0, [.ref q1, .ref q5, .ref q6, .int 0, .int 0])), (q1, .inr (7, [.ref q2, .ref q3, .ref q4, .int 0])), (q2, .inl (cI, 13, .inl (fun _ => 0))), (q3, .inl (cI, 13, .inl (fun _ => 0))), (q4, .inl (cI, 13, .inl (fun _ => 0))), (q5, .inr (4, [.int 0, .int 5, .int 5])), (q6, .inr (4, [.int 0, .int 5, .int 5]))] H := hP
  have hD : va_D A [(h0, .inr (0, [.ref q1, .ref q5, .ref q6, .int 0, .int 0])), (q1, .inr (7, [.ref q2, .ref q3, .ref q4, .int 0])), (q2, .inl (cI, 13, .inl (fun _ => 0))), (q3, .inl (cI, 13, .inl (fun _ => 0))), (q4, .inl (cI, 13, .inl (fun _ => 0))), (q5, .inr (4, [.int 0, .int 5, .int 5])), (q6, .inr (4, [.int 0, .int 5, .int 5]))] := hD
  have hP := hP.sub (ws' := [(h0, .inr (0, [.ref q1, .ref q5, .ref q6, .int 0, .int 0])), (q1, .inr (7, [.ref q2, .ref q3, .ref q4, .int 0])), (q2, .inl (cI, 13, .inl (fun _ => 0))), (q3, .inl (cI, 13, .inl (fun _ => 0))), (q4, .inl (cI, 13, .inl (fun _ => 0))), (q5, .inr (4, [.int 0, .int 5, .int 5])), (q6, .inr (4, [.int 0, .int 5, .int 5]))]) [0, 1, 2, 3, 4, 5, 6] rfl
  have hD := hD.sub (ws' := [(h0, .inr (0, [.ref q1, .ref q5, .ref q6, .int 0, .int 0])), (q1, .inr (7, [.ref q2, .ref q3, .ref q4, .int 0])), (q2, .inl (cI, 13, .inl (fun _ => 0))), (q3, .inl (cI, 13, .inl (fun _ => 0))), (q4, .inl (cI, 13, .inl (fun _ => 0))), (q5, .inr (4, [.int 0, .int 5, .int 5])), (q6, .inr (4, [.int 0, .int 5, .int 5]))]) [0, 1, 2, 3, 4, 5, 6] (by decide) rfl
  exact W.vret hx hb hr (fun t ht hW => ⟨⟨[(h0, .inr (0, [.ref q1, .ref q5, .ref q6, .int 0, .int 0])), (q1, .inr (7, [.ref q2, .ref q3, .ref q4, .int 0])), (q2, .inl (cI, 13, .inl (fun _ => 0))), (q3, .inl (cI, 13, .inl (fun _ => 0))), (q4, .inl (cI, 13, .inl (fun _ => 0))), (q5, .inr (4, [.int 0, .int 5, .int 5])), (q6, .inr (4, [.int 0, .int 5, .int 5]))], rfl, ⟨q1, q2, q3, q4, q5, q6, rfl⟩, by rw [ht]; exact hP, hD⟩, hS.F ht⟩) hS.2.2 di_Bridge_37
theorem di_Remedies_0 : decode cX5_init 0 = .ok (.aload_n 0, 1) := by decide +kernel
theorem di_Remedies_1 : decode cX5_init 1 = .ok (.invokespecial 3, 3) := by decide +kernel
theorem di_Remedies_4 : decode cX5_init 4 = .ok (.aload_n 0, 1) := by decide +kernel
theorem di_Remedies_5 : decode cX5_init 5 = .ok (.new 9, 3) := by decide +kernel
theorem di_Remedies_8 : decode cX5_init 8 = .ok (.dup, 1) := by decide +kernel
theorem di_Remedies_9 : decode cX5_init 9 = .ok (.invokespecial 11, 3) := by decide +kernel
theorem di_Remedies_12 : decode cX5_init 12 = .ok (.putfield 12, 3) := by decide +kernel
theorem di_Remedies_15 : decode cX5_init 15 = .ok (.aload_n 0, 1) := by decide +kernel
theorem di_Remedies_16 : decode cX5_init 16 = .ok (.bipush 26, 2) := by decide +kernel
theorem di_Remedies_18 : decode cX5_init 18 = .ok (.newarray .int, 2) := by decide +kernel
theorem di_Remedies_20 : decode cX5_init 20 = .ok (.putfield 18, 3) := by decide +kernel
theorem di_Remedies_23 : decode cX5_init 23 = .ok (.aload_n 0, 1) := by decide +kernel
theorem di_Remedies_24 : decode cX5_init 24 = .ok (.bipush 26, 2) := by decide +kernel
theorem di_Remedies_26 : decode cX5_init 26 = .ok (.newarray .int, 2) := by decide +kernel
theorem di_Remedies_28 : decode cX5_init 28 = .ok (.putfield 22, 3) := by decide +kernel
theorem di_Remedies_31 : decode cX5_init 31 = .ok (.aload_n 0, 1) := by decide +kernel
theorem di_Remedies_32 : decode cX5_init 32 = .ok (.aload_n 1, 1) := by decide +kernel
theorem di_Remedies_33 : decode cX5_init 33 = .ok (.putfield 25, 3) := by decide +kernel
theorem di_Remedies_36 : decode cX5_init 36 = .ok (.return_, 1) := by decide +kernel
set_option maxHeartbeats 8000000 in
set_option maxRecDepth 100000 in
theorem ci_Remedies (l : Launch) (D : va_G) (cI : ClassId) (h0 p1 : Nat) (sz : Nat) : Met l yX5_init (Jvm.Cond.code yX5_init cX5_init 2 none :: zWL) { frames := 2, cells := 6, slots := 95, locals := 32 } (zcPre D cI [.ref h0, .ref p1] sz (h0, .inr (5, [.null, .null, .null, .null]))) (zcPost D (va_A [(h0, .inr (5, [.null, .null, .null, .null]))] sz) (fun ws => ∃ q1 q2 q3 q4 q5 q6 : Nat, ws = [(h0, .inr (5, [.ref p1, .ref q1, .ref q5, .ref q6])), (q1, .inr (7, [.ref q2, .ref q3, .ref q4, .int 0])), (q2, .inl (cI, 13, .inl (fun _ => 0))), (q3, .inl (cI, 13, .inl (fun _ => 0))), (q4, .inl (cI, 13, .inl (fun _ => 0))), (q5, .inl (cI, 26, .inl (fun _ => 0))), (q6, .inl (cI, 26, .inl (fun _ => 0)))])) 6 95 (va_A [(h0, .inr (5, [.null, .null, .null, .null]))] sz) := by
  refine Met.ofW (cc := cX5_init) (maxL := 2) (ret := none) (by decide) rfl ?_
  intro p e s m args below meth c s₁ B hml hv
  obtain ⟨rfl, hsz, hP, hK, hD0, hN⟩ := hv
  have hx := B.exec
  have hb := B.bytes
  have hr := B.returns
  have hts := atoms_spec (ws := Jvm.Cond.code yX5_init cX5_init 2 none :: zWL) B.pre
  have hown : s.vm.findClass RX5 = some m.cls := findClass_of_methodNamed B.named
  have hlocks := B.notSynchronized
  have hin : meth.name = "<init>" := (name_of_methodNamed B.named B.method).1
  subst hsz
  have hD := hD0.self (sz := s.heap.size)
  generalize hAe : va_A [(h0, .inr (5, [.null, .null, .null, .null]))] s.heap.size = A at hD ⊢
  have hA : ∀ q : Nat, s.heap.size ≤ q → A q := fun q h => by rw [← hAe]; exact Or.inr h
  have hS : va_S A s.heap s.heap [] := va_S.rf
  have hP : va_P D vwCl [(h0, .inr (5, [.null, .null, .null, .null]))] s.heap := hP
  have hl := lv_entry ([.ref h0, .ref p1]) (n := 2) (Nat.le_of_ble_eq_true rfl)
  rw [lg_entry_eq]
  generalize (lg_sl ([.ref h0, .ref p1]) ++ List.replicate (2 - (lg_sl ([.ref h0, .ref p1])).length) Slot.unset).toArray = ls at hl ⊢
  have hl : lv_has ls 2 [(0, .ref h0), (1, .ref p1)] := hl
  refine lv_aload_n hx hb di_Remedies_0 rfl (lv_at hl 0 rfl) ?_
  refine W.objInit hx hb hown (hts (.methodLink RX5 3 objectInit) (List.mem_cons_of_mem _ (zg1 (List.mem_of_getElem? (i := 166) rfl) rfl))) (hts (.instanceMethod objectInit) (List.mem_cons_of_mem _ (zg1 (List.mem_of_getElem? (i := 24) rfl) rfl))) (hts (.code objectInit ⟨#[0xb1]⟩ 1 none) (List.mem_cons_of_mem _ (zg1 (List.mem_of_getElem? (i := 25) rfl) rfl))) rfl (by rw [hml]; exact hl.1) rfl di_Remedies_1 (Nat.le_of_ble_eq_true rfl) (Nat.le_of_ble_eq_true rfl) ?_
  refine W.eq (g2 := F0 m 4 ls []) rfl ?_
  refine lv_aload_n hx hb di_Remedies_4 rfl (lv_at hl 0 rfl) ?_
  refine va_new (ci := 7) (fs := [.null, .null, .null, .int 0]) (C := RX7) (T := TX7) (N := 4) hx hb hts (fun w h => List.mem_cons_of_mem _ ((zcls (ci := 7) rfl).1 w h)) tyX7 tyX7_ok hown (hts (.classLink RX5 9 RX7) (List.mem_cons_of_mem _ (zg1 (List.mem_of_getElem? (i := 167) rfl) rfl))) (hts (.instantiable RX7 4) (List.mem_cons_of_mem _ (zg1 (List.mem_of_getElem? (i := 33) rfl) rfl))) (hts (.initialized RX7) (List.mem_cons_of_mem _ (zg1 (List.mem_of_getElem? (i := 3) rfl) rfl))) hK hP hD hS hA rfl (fun j hj => by rcases (show j = 0 ∨ j = 1 ∨ j = 2 ∨ j = 3 by omega) with rfl | rfl | rfl | rfl <;> rfl) (Nat.le_of_ble_eq_true rfl) (Nat.le_of_ble_eq_true rfl) di_Remedies_5 (fun q1 H hP hD hS => ?_)
  have hP : va_P D vwCl [(h0, .inr (5, [.null, .null, .null, .null])), (q1, .inr (7, [.null, .null, .null, .int 0]))] H := hP
  have hD : va_D A [(h0, .inr (5, [.null, .null, .null, .null])), (q1, .inr (7, [.null, .null, .null, .int 0]))] := hD
  refine W.widen (k := 1) (n := 4) (by omega) (by omega) ?_
  refine lv_dup hx hb di_Remedies_8 rfl ?_
  have hPc := hP.sub (ws' := [(q1, .inr (7, [.null, .null, .null, .int 0]))]) [1] rfl
  have hDc := hD.sub (ws' := [(q1, .inr (7, [.null, .null, .null, .int 0]))]) [1] (by decide) rfl
  have hFc := va_free (wc := [(q1, .inr (7, [.null, .null, .null, .int 0]))]) hD hS hA [1] rfl
  refine va_callv (va_runIN (As := []) (rest := [.ref q1, .ref h0]) ⟨hx, hb, hml, hown, hts⟩ (ci_Stones l D cI q1 H.size) ⟨va_cnB 0 hts (zGIc (zg1 (List.mem_of_getElem? (i := 36) rfl) rfl)) rfl rfl rfl (hN _ (zn1 (List.mem_of_getElem? (i := 168) rfl) rfl)) (hts (.initialized RX7) (List.mem_cons_of_mem _ (zg1 (List.mem_of_getElem? (i := 3) rfl) rfl))) ⟨by decide +kernel, by decide +kernel, by decide +kernel⟩ ⟨(Nat.le_of_ble_eq_true rfl), (Nat.le_of_ble_eq_true rfl)⟩, rfl, hts (.instanceMethod yX7_init) (List.mem_cons_of_mem _ (zg1 (List.mem_of_getElem? (i := 35) rfl) rfl))⟩ ⟨zcPre_blind, fun U hU hW => ⟨rfl, by rw [hU], by rw [hU]; exact hPc, va_K.moved hW.alike hK, hDc.weaken (fun _ _ _ _ => trivial), fun w hw => zNL_warm hW hw (hN w hw)⟩⟩ rfl rfl hl.1 rfl (lv_room (Nat.le_of_ble_eq_true rfl)) di_Remedies_9 ⟨(Nat.le_of_ble_eq_true rfl), (Nat.le_of_ble_eq_true rfl)⟩) hS (fun q _ h => hFc q h) hFc (fun u t H1 locs ht hvm hw hB hz1 hk1 hS => ?_)
  obtain ⟨q2, q3, q4, rfl⟩ := hw
  obtain ⟨hP1, hD1⟩ := hB
  rw [ht] at hP1
  obtain ⟨hP, hD⟩ := va_join (wr := [(h0, .inr (5, [.null, .null, .null, .null]))]) (w1 := [(q1, .inr (7, [.ref q2, .ref q3, .ref q4, .int 0])), (q2, .inl (cI, 13, .inl (fun _ => 0))), (q3, .inl (cI, 13, .inl (fun _ => 0))), (q4, .inl (cI, 13, .inl (fun _ => 0)))]) hP hD [1] [0] rfl rfl (by decide) (by decide) hk1 hFc hP1 hD1
  clear hPc hDc hFc hP1 hD1 hk1 hz1 ht hvm
  generalize H1 = H at hP hS ⊢
  have hP : va_P D vwCl [(h0, .inr (5, [.null, .null, .null, .null])), (q1, .inr (7, [.ref q2, .ref q3, .ref q4, .int 0])), (q2, .inl (cI, 13, .inl (fun _ => 0))), (q3, .inl (cI, 13, .inl (fun _ => 0))), (q4, .inl (cI, 13, .inl (fun _ => 0)))] H := hP
  have hD : va_D A [(h0, .inr (5, [.null, .null, .null, .null])), (q1, .inr (7, [.ref q2, .ref q3, .ref q4, .int 0])), (q2, .inl (cI, 13, .inl (fun _ => 0))), (q3, .inl (cI, 13, .inl (fun _ => 0))), (q4, .inl (cI, 13, .inl (fun _ => 0)))] := hD
  refine W.widen (k := 4) (n := 43) (by omega) (by omega) ?_
  refine va_putF (D := D) (ci := 5) (v := .ref q1) (ty := .object "BridgeByTwo$Stones") (C := RX5) (T := TX5) (N := 4) hx hb hts (fun w h => List.mem_cons_of_mem _ ((zcls (ci := 5) rfl).1 w h)) tyX5 tyX5_ok nmX5 hown hK hP hD hS 0 rfl rfl 1 (by decide) (hts (.fieldLink RX5 12 "BridgeByTwo$Remedies" "changed" "LBridgeByTwo$Stones;") (List.mem_cons_of_mem _ (zg1 (List.mem_of_getElem? (i := 170) rfl) rfl))) (fun _ h9 => h9) rfl hin rfl (by decide +kernel) rfl rfl (Nat.le_of_ble_eq_true rfl) di_Remedies_12 (fun H locs hP hD hS => ?_)
  have hP : va_P D vwCl [(h0, .inr (5, [.null, .ref q1, .null, .null])), (q1, .inr (7, [.ref q2, .ref q3, .ref q4, .int 0])), (q2, .inl (cI, 13, .inl (fun _ => 0))), (q3, .inl (cI, 13, .inl (fun _ => 0))), (q4, .inl (cI, 13, .inl (fun _ => 0)))] H := hP
  have hD : va_D A [(h0, .inr (5, [.null, .ref q1, .null, .null])), (q1, .inr (7, [.ref q2, .ref q3, .ref q4, .int 0])), (q2, .inl (cI, 13, .inl (fun _ => 0))), (q3, .inl (cI, 13, .inl (fun _ => 0))), (q4, .inl (cI, 13, .inl (fun _ => 0)))] := hD
  refine lv_aload_n hx hb di_Remedies_15 rfl (lv_at hl 0 rfl) ?_
  refine lv_bipush (v := 26) hx hb di_Remedies_16 (by decide) ?_
  refine zc_newa hx hb (hts _ (List.mem_cons_of_mem _ (zg1 (List.mem_of_getElem? (i := 51) rfl) rfl))) hK hP hD hS hA (N' := 26) (by decide) rfl (Nat.le_of_ble_eq_true rfl) (Nat.le_of_ble_eq_true rfl) (Nat.le_of_ble_eq_true rfl) di_Remedies_18 (fun q5 H hP hD hS => ?_)
  have hP : va_P D vwCl [(h0, .inr (5, [.null, .ref q1, .null, .null])), (q1, .inr (7, [.ref q2, .ref q3, .ref q4, .int 0])), (q2, .inl (cI, 13, .inl (fun _ => 0))), (q3, .inl (cI, 13, .inl (fun _ => 0))), (q4, .inl (cI, 13, .inl (fun _ => 0))), (q5, .inl (cI, 26, .inl (fun _ => 0)))] H := hP
  have hD : va_D A [(h0, .inr (5, [.null, .ref q1, .null, .null])), (q1, .inr (7, [.ref q2, .ref q3, .ref q4, .int 0])), (q2, .inl (cI, 13, .inl (fun _ => 0))), (q3, .inl (cI, 13, .inl (fun _ => 0))), (q4, .inl (cI, 13, .inl (fun _ => 0))), (q5, .inl (cI, 26, .inl (fun _ => 0)))] := hD
  refine W.widen (k := 5) (n := 69) (by omega) (by omega) ?_
  refine va_putF (D := D) (ci := 5) (v := .ref q5) (ty := .array .int) (C := RX5) (T := TX5) (N := 4) hx hb hts (fun w h => List.mem_cons_of_mem _ ((zcls (ci := 5) rfl).1 w h)) tyX5 tyX5_ok nmX5 hown hK hP hD hS 0 rfl rfl 2 (by decide) (hts (.fieldLink RX5 18 "BridgeByTwo$Remedies" "ways" "[I") (List.mem_cons_of_mem _ (zg1 (List.mem_of_getElem? (i := 171) rfl) rfl))) (fun _ h9 => h9) rfl hin rfl (by decide +kernel) rfl rfl (Nat.le_of_ble_eq_true rfl) di_Remedies_20 (fun H locs hP hD hS => ?_)
  have hP : va_P D vwCl [(h0, .inr (5, [.null, .ref q1, .ref q5, .null])), (q1, .inr (7, [.ref q2, .ref q3, .ref q4, .int 0])), (q2, .inl (cI, 13, .inl (fun _ => 0))), (q3, .inl (cI, 13, .inl (fun _ => 0))), (q4, .inl (cI, 13, .inl (fun _ => 0))), (q5, .inl (cI, 26, .inl (fun _ => 0)))] H := hP
  have hD : va_D A [(h0, .inr (5, [.null, .ref q1, .ref q5, .null])), (q1, .inr (7, [.ref q2, .ref q3, .ref q4, .int 0])), (q2, .inl (cI, 13, .inl (fun _ => 0))), (q3, .inl (cI, 13, .inl (fun _ => 0))), (q4, .inl (cI, 13, .inl (fun _ => 0))), (q5, .inl (cI, 26, .inl (fun _ => 0)))] := hD
  refine lv_aload_n hx hb di_Remedies_23 rfl (lv_at hl 0 rfl) ?_
  refine lv_bipush (v := 26) hx hb di_Remedies_24 (by decide) ?_
  refine zc_newa hx hb (hts _ (List.mem_cons_of_mem _ (zg1 (List.mem_of_getElem? (i := 51) rfl) rfl))) hK hP hD hS hA (N' := 26) (by decide) rfl (Nat.le_of_ble_eq_true rfl) (Nat.le_of_ble_eq_true rfl) (Nat.le_of_ble_eq_true rfl) di_Remedies_26 (fun q6 H hP hD hS => ?_)
  have hP : va_P D vwCl [(h0, .inr (5, [.null, .ref q1, .ref q5, .null])), (q1, .inr (7, [.ref q2, .ref q3, .ref q4, .int 0])), (q2, .inl (cI, 13, .inl (fun _ => 0))), (q3, .inl (cI, 13, .inl (fun _ => 0))), (q4, .inl (cI, 13, .inl (fun _ => 0))), (q5, .inl (cI, 26, .inl (fun _ => 0))), (q6, .inl (cI, 26, .inl (fun _ => 0)))] H := hP
  have hD : va_D A [(h0, .inr (5, [.null, .ref q1, .ref q5, .null])), (q1, .inr (7, [.ref q2, .ref q3, .ref q4, .int 0])), (q2, .inl (cI, 13, .inl (fun _ => 0))), (q3, .inl (cI, 13, .inl (fun _ => 0))), (q4, .inl (cI, 13, .inl (fun _ => 0))), (q5, .inl (cI, 26, .inl (fun _ => 0))), (q6, .inl (cI, 26, .inl (fun _ => 0)))] := hD
  refine W.widen (k := 6) (n := 95) (by omega) (by omega) ?_
  refine va_putF (D := D) (ci := 5) (v := .ref q6) (ty := .array .int) (C := RX5) (T := TX5) (N := 4) hx hb hts (fun w h => List.mem_cons_of_mem _ ((zcls (ci := 5) rfl).1 w h)) tyX5 tyX5_ok nmX5 hown hK hP hD hS 0 rfl rfl 3 (by decide) (hts (.fieldLink RX5 22 "BridgeByTwo$Remedies" "longerWays" "[I") (List.mem_cons_of_mem _ (zg1 (List.mem_of_getElem? (i := 172) rfl) rfl))) (fun _ h9 => h9) rfl hin rfl (by decide +kernel) rfl rfl (Nat.le_of_ble_eq_true rfl) di_Remedies_28 (fun H locs hP hD hS => ?_)
  have hP : va_P D vwCl [(h0, .inr (5, [.null, .ref q1, .ref q5, .ref q6])), (q1, .inr (7, [.ref q2, .ref q3, .ref q4, .int 0])), (q2, .inl (cI, 13, .inl (fun _ => 0))), (q3, .inl (cI, 13, .inl (fun _ => 0))), (q4, .inl (cI, 13, .inl (fun _ => 0))), (q5, .inl (cI, 26, .inl (fun _ => 0))), (q6, .inl (cI, 26, .inl (fun _ => 0)))] H := hP
  have hD : va_D A [(h0, .inr (5, [.null, .ref q1, .ref q5, .ref q6])), (q1, .inr (7, [.ref q2, .ref q3, .ref q4, .int 0])), (q2, .inl (cI, 13, .inl (fun _ => 0))), (q3, .inl (cI, 13, .inl (fun _ => 0))), (q4, .inl (cI, 13, .inl (fun _ => 0))), (q5, .inl (cI, 26, .inl (fun _ => 0))), (q6, .inl (cI, 26, .inl (fun _ => 0)))] := hD
  refine lv_aload_n hx hb di_Remedies_31 rfl (lv_at hl 0 rfl) ?_
  refine lv_aload_n hx hb di_Remedies_32 rfl (lv_at hl 1 rfl) ?_
  refine va_putF (D := D) (ci := 5) (v := .ref p1) (ty := .object "BridgeByTwo$Stones") (C := RX5) (T := TX5) (N := 4) hx hb hts (fun w h => List.mem_cons_of_mem _ ((zcls (ci := 5) rfl).1 w h)) tyX5 tyX5_ok nmX5 hown hK hP hD hS 0 rfl rfl 0 (by decide) (hts (.fieldLink RX5 25 "BridgeByTwo$Remedies" "now" "LBridgeByTwo$Stones;") (List.mem_cons_of_mem _ (zg1 (List.mem_of_getElem? (i := 169) rfl) rfl))) (fun _ h9 => h9) rfl hin rfl (by decide +kernel) rfl rfl (Nat.le_of_ble_eq_true rfl) di_Remedies_33 (fun H locs hP hD hS => ?_)
  have hP : va_P D vwCl [(h0, .inr (5, [.ref p1, .ref q1, .ref q5, .ref q6])), (q1, .inr (7, [.ref q2, .ref q3, .ref q4, .int 0])), (q2, .inl (cI, 13, .inl (fun _ => 0))), (q3, .inl (cI, 13, .inl (fun _ => 0))), (q4, .inl (cI, 13, .inl (fun _ => 0))), (q5, .inl (cI, 26, .inl (fun _ => 0))), (q6, .inl (cI, 26, .inl (fun _ => 0)))] H := hP
  have hD : va_D A [(h0, .inr (5, [.ref p1, .ref q1, .ref q5, .ref q6])), (q1, .inr (7, [.ref q2, .ref q3, .ref q4, .int 0])), (q2, .inl (cI, 13, .inl (fun _ => 0))), (q3, .inl (cI, 13, .inl (fun _ => 0))), (q4, .inl (cI, 13, .inl (fun _ => 0))), (q5, .inl (cI, 26, .inl (fun _ => 0))), (q6, .inl (cI, 26, .inl (fun _ => 0)))] := hD
  have hP := hP.sub (ws' := [(h0, .inr (5, [.ref p1, .ref q1, .ref q5, .ref q6])), (q1, .inr (7, [.ref q2, .ref q3, .ref q4, .int 0])), (q2, .inl (cI, 13, .inl (fun _ => 0))), (q3, .inl (cI, 13, .inl (fun _ => 0))), (q4, .inl (cI, 13, .inl (fun _ => 0))), (q5, .inl (cI, 26, .inl (fun _ => 0))), (q6, .inl (cI, 26, .inl (fun _ => 0)))]) [0, 1, 2, 3, 4, 5, 6] rfl
  have hD := hD.sub (ws' := [(h0, .inr (5, [.ref p1, .ref q1, .ref q5, .ref q6])), (q1, .inr (7, [.ref q2, .ref q3, .ref q4, .int 0])), (q2, .inl (cI, 13, .inl (fun _ => 0))), (q3, .inl (cI, 13, .inl (fun _ => 0))), (q4, .inl (cI, 13, .inl (fun _ => 0))), (q5, .inl (cI, 26, .inl (fun _ => 0))), (q6, .inl (cI, 26, .inl (fun _ => 0)))]) [0, 1, 2, 3, 4, 5, 6] (by decide) rfl
  exact W.vret hx hb hr (fun t ht hW => ⟨⟨[(h0, .inr (5, [.ref p1, .ref q1, .ref q5, .ref q6])), (q1, .inr (7, [.ref q2, .ref q3, .ref q4, .int 0])), (q2, .inl (cI, 13, .inl (fun _ => 0))), (q3, .inl (cI, 13, .inl (fun _ => 0))), (q4, .inl (cI, 13, .inl (fun _ => 0))), (q5, .inl (cI, 26, .inl (fun _ => 0))), (q6, .inl (cI, 26, .inl (fun _ => 0)))], rfl, ⟨q1, q2, q3, q4, q5, q6, rfl⟩, by rw [ht]; exact hP, hD⟩, hS.F ht⟩) hS.2.2 di_Remedies_36
theorem di_Foresight_0 : decode cX2_init 0 = .ok (.aload_n 0, 1) := by decide +kernel
theorem di_Foresight_1 : decode cX2_init 1 = .ok (.invokespecial 3, 3) := by decide +kernel
theorem di_Foresight_4 : decode cX2_init 4 = .ok (.aload_n 0, 1) := by decide +kernel
theorem di_Foresight_5 : decode cX2_init 5 = .ok (.new 9, 3) := by decide +kernel
theorem di_Foresight_8 : decode cX2_init 8 = .ok (.dup, 1) := by decide +kernel
theorem di_Foresight_9 : decode cX2_init 9 = .ok (.invokespecial 11, 3) := by decide +kernel
theorem di_Foresight_12 : decode cX2_init 12 = .ok (.putfield 12, 3) := by decide +kernel
theorem di_Foresight_15 : decode cX2_init 15 = .ok (.aload_n 0, 1) := by decide +kernel
theorem di_Foresight_16 : decode cX2_init 16 = .ok (.bipush 71, 2) := by decide +kernel
theorem di_Foresight_18 : decode cX2_init 18 = .ok (.newarray .int, 2) := by decide +kernel
theorem di_Foresight_20 : decode cX2_init 20 = .ok (.putfield 18, 3) := by decide +kernel
theorem di_Foresight_23 : decode cX2_init 23 = .ok (.aload_n 0, 1) := by decide +kernel
theorem di_Foresight_24 : decode cX2_init 24 = .ok (.new 22, 3) := by decide +kernel
theorem di_Foresight_27 : decode cX2_init 27 = .ok (.dup, 1) := by decide +kernel
theorem di_Foresight_28 : decode cX2_init 28 = .ok (.invokespecial 24, 3) := by decide +kernel
theorem di_Foresight_31 : decode cX2_init 31 = .ok (.putfield 25, 3) := by decide +kernel
theorem di_Foresight_34 : decode cX2_init 34 = .ok (.aload_n 0, 1) := by decide +kernel
theorem di_Foresight_35 : decode cX2_init 35 = .ok (.aload_n 1, 1) := by decide +kernel
theorem di_Foresight_36 : decode cX2_init 36 = .ok (.putfield 29, 3) := by decide +kernel
theorem di_Foresight_39 : decode cX2_init 39 = .ok (.return_, 1) := by decide +kernel
set_option maxHeartbeats 8000000 in
set_option maxRecDepth 100000 in
theorem ci_Foresight (l : Launch) (D : va_G) (cI : ClassId) (h0 p1 : Nat) (sz : Nat) : Met l yX2_init (Jvm.Cond.code yX2_init cX2_init 2 none :: zWL) { frames := 3, cells := 9, slots := 126, locals := 52 } (zcPre D cI [.ref h0, .ref p1] sz (h0, .inr (2, [.null, .null, .null, .null]))) (zcPost D (va_A [(h0, .inr (2, [.null, .null, .null, .null]))] sz) (fun ws => ∃ q1 q2 q3 q4 q5 q6 q7 q8 q9 : Nat, ws = [(h0, .inr (2, [.ref p1, .ref q1, .ref q8, .ref q9])), (q1, .inr (0, [.ref q2, .ref q6, .ref q7, .int 0, .int 0])), (q2, .inr (7, [.ref q3, .ref q4, .ref q5, .int 0])), (q3, .inl (cI, 13, .inl (fun _ => 0))), (q4, .inl (cI, 13, .inl (fun _ => 0))), (q5, .inl (cI, 13, .inl (fun _ => 0))), (q6, .inr (4, [.int 0, .int 5, .int 5])), (q7, .inr (4, [.int 0, .int 5, .int 5])), (q8, .inl (cI, 71, .inl (fun _ => 0))), (q9, .inr (1, [.int 0]))])) 9 126 (va_A [(h0, .inr (2, [.null, .null, .null, .null]))] sz) := by
  refine Met.ofW (cc := cX2_init) (maxL := 2) (ret := none) (by decide) rfl ?_
  intro p e s m args below meth c s₁ B hml hv
  obtain ⟨rfl, hsz, hP, hK, hD0, hN⟩ := hv
  have hx := B.exec
  have hb := B.bytes
  have hr := B.returns
  have hts := atoms_spec (ws := Jvm.Cond.code yX2_init cX2_init 2 none :: zWL) B.pre
  have hown : s.vm.findClass RX2 = some m.cls := findClass_of_methodNamed B.named
  have hlocks := B.notSynchronized
  have hin : meth.name = "<init>" := (name_of_methodNamed B.named B.method).1
  subst hsz
  have hD := hD0.self (sz := s.heap.size)
  generalize hAe : va_A [(h0, .inr (2, [.null, .null, .null, .null]))] s.heap.size = A at hD ⊢
  have hA : ∀ q : Nat, s.heap.size ≤ q → A q := fun q h => by rw [← hAe]; exact Or.inr h
  have hS : va_S A s.heap s.heap [] := va_S.rf
  have hP : va_P D vwCl [(h0, .inr (2, [.null, .null, .null, .null]))] s.heap := hP
  have hl := lv_entry ([.ref h0, .ref p1]) (n := 2) (Nat.le_of_ble_eq_true rfl)
  rw [lg_entry_eq]
  generalize (lg_sl ([.ref h0, .ref p1]) ++ List.replicate (2 - (lg_sl ([.ref h0, .ref p1])).length) Slot.unset).toArray = ls at hl ⊢
  have hl : lv_has ls 2 [(0, .ref h0), (1, .ref p1)] := hl
  refine lv_aload_n hx hb di_Foresight_0 rfl (lv_at hl 0 rfl) ?_
  refine W.objInit hx hb hown (hts (.methodLink RX2 3 objectInit) (List.mem_cons_of_mem _ (zg1 (List.mem_of_getElem? (i := 135) rfl) rfl))) (hts (.instanceMethod objectInit) (List.mem_cons_of_mem _ (zg1 (List.mem_of_getElem? (i := 24) rfl) rfl))) (hts (.code objectInit ⟨#[0xb1]⟩ 1 none) (List.mem_cons_of_mem _ (zg1 (List.mem_of_getElem? (i := 25) rfl) rfl))) rfl (by rw [hml]; exact hl.1) rfl di_Foresight_1 (Nat.le_of_ble_eq_true rfl) (Nat.le_of_ble_eq_true rfl) ?_
  refine W.eq (g2 := F0 m 4 ls []) rfl ?_
  refine lv_aload_n hx hb di_Foresight_4 rfl (lv_at hl 0 rfl) ?_
  refine va_new (ci := 0) (fs := [.null, .null, .null, .int 0, .int 0]) (C := RX0) (T := TX0) (N := 5) hx hb hts (fun w h => List.mem_cons_of_mem _ ((zcls (ci := 0) rfl).1 w h)) tyX0 tyX0_ok hown (hts (.classLink RX2 9 RX0) (List.mem_cons_of_mem _ (zg1 (List.mem_of_getElem? (i := 136) rfl) rfl))) (hts (.instantiable RX0 5) (List.mem_cons_of_mem _ (zg1 (List.mem_of_getElem? (i := 27) rfl) rfl))) (hts (.initialized RX0) (List.mem_cons_of_mem _ (zg1 (List.mem_of_getElem? (i := 2) rfl) rfl))) hK hP hD hS hA rfl (fun j hj => by rcases (show j = 0 ∨ j = 1 ∨ j = 2 ∨ j = 3 ∨ j = 4 by omega) with rfl | rfl | rfl | rfl | rfl <;> rfl) (Nat.le_of_ble_eq_true rfl) (Nat.le_of_ble_eq_true rfl) di_Foresight_5 (fun q1 H hP hD hS => ?_)
  have hP : va_P D vwCl [(h0, .inr (2, [.null, .null, .null, .null])), (q1, .inr (0, [.null, .null, .null, .int 0, .int 0]))] H := hP
  have hD : va_D A [(h0, .inr (2, [.null, .null, .null, .null])), (q1, .inr (0, [.null, .null, .null, .int 0, .int 0]))] := hD
  refine W.widen (k := 1) (n := 5) (by omega) (by omega) ?_
  refine lv_dup hx hb di_Foresight_8 rfl ?_
  have hPc := hP.sub (ws' := [(q1, .inr (0, [.null, .null, .null, .int 0, .int 0]))]) [1] rfl
  have hDc := hD.sub (ws' := [(q1, .inr (0, [.null, .null, .null, .int 0, .int 0]))]) [1] (by decide) rfl
  have hFc := va_free (wc := [(q1, .inr (0, [.null, .null, .null, .int 0, .int 0]))]) hD hS hA [1] rfl
  refine va_callv (va_runIN (As := []) (rest := [.ref q1, .ref h0]) ⟨hx, hb, hml, hown, hts⟩ (ci_Bridge l D cI q1 H.size) ⟨va_cnB 0 hts (zGIc (zg1 (List.mem_of_getElem? (i := 30) rfl) rfl)) rfl rfl rfl (hN _ (zn1 (List.mem_of_getElem? (i := 137) rfl) rfl)) (hts (.initialized RX0) (List.mem_cons_of_mem _ (zg1 (List.mem_of_getElem? (i := 2) rfl) rfl))) ⟨by decide +kernel, by decide +kernel, by decide +kernel⟩ ⟨(Nat.le_of_ble_eq_true rfl), (Nat.le_of_ble_eq_true rfl)⟩, rfl, hts (.instanceMethod yX0_init) (List.mem_cons_of_mem _ (zg1 (List.mem_of_getElem? (i := 29) rfl) rfl))⟩ ⟨zcPre_blind, fun U hU hW => ⟨rfl, by rw [hU], by rw [hU]; exact hPc, va_K.moved hW.alike hK, hDc.weaken (fun _ _ _ _ => trivial), fun w hw => zNL_warm hW hw (hN w hw)⟩⟩ rfl rfl hl.1 rfl (lv_room (Nat.le_of_ble_eq_true rfl)) di_Foresight_9 ⟨(Nat.le_of_ble_eq_true rfl), (Nat.le_of_ble_eq_true rfl)⟩) hS (fun q _ h => hFc q h) hFc (fun u t H1 locs ht hvm hw hB hz1 hk1 hS => ?_)
  obtain ⟨q2, q3, q4, q5, q6, q7, rfl⟩ := hw
  obtain ⟨hP1, hD1⟩ := hB
  rw [ht] at hP1
  obtain ⟨hP, hD⟩ := va_join (wr := [(h0, .inr (2, [.null, .null, .null, .null]))]) (w1 := [(q1, .inr (0, [.ref q2, .ref q6, .ref q7, .int 0, .int 0])), (q2, .inr (7, [.ref q3, .ref q4, .ref q5, .int 0])), (q3, .inl (cI, 13, .inl (fun _ => 0))), (q4, .inl (cI, 13, .inl (fun _ => 0))), (q5, .inl (cI, 13, .inl (fun _ => 0))), (q6, .inr (4, [.int 0, .int 5, .int 5])), (q7, .inr (4, [.int 0, .int 5, .int 5]))]) hP hD [1] [0] rfl rfl (by decide) (by decide) hk1 hFc hP1 hD1
  clear hPc hDc hFc hP1 hD1 hk1 hz1 ht hvm
  generalize H1 = H at hP hS ⊢
  have hP : va_P D vwCl [(h0, .inr (2, [.null, .null, .null, .null])), (q1, .inr (0, [.ref q2, .ref q6, .ref q7, .int 0, .int 0])), (q2, .inr (7, [.ref q3, .ref q4, .ref q5, .int 0])), (q3, .inl (cI, 13, .inl (fun _ => 0))), (q4, .inl (cI, 13, .inl (fun _ => 0))), (q5, .inl (cI, 13, .inl (fun _ => 0))), (q6, .inr (4, [.int 0, .int 5, .int 5])), (q7, .inr (4, [.int 0, .int 5, .int 5]))] H := hP
  have hD : va_D A [(h0, .inr (2, [.null, .null, .null, .null])), (q1, .inr (0, [.ref q2, .ref q6, .ref q7, .int 0, .int 0])), (q2, .inr (7, [.ref q3, .ref q4, .ref q5, .int 0])), (q3, .inl (cI, 13, .inl (fun _ => 0))), (q4, .inl (cI, 13, .inl (fun _ => 0))), (q5, .inl (cI, 13, .inl (fun _ => 0))), (q6, .inr (4, [.int 0, .int 5, .int 5])), (q7, .inr (4, [.int 0, .int 5, .int 5]))] := hD
  refine W.widen (k := 7) (n := 54) (by omega) (by omega) ?_
  refine va_putF (D := D) (ci := 2) (v := .ref q1) (ty := .object "BridgeByTwo$Bridge") (C := RX2) (T := TX2) (N := 4) hx hb hts (fun w h => List.mem_cons_of_mem _ ((zcls (ci := 2) rfl).1 w h)) tyX2 tyX2_ok nmX2 hown hK hP hD hS 0 rfl rfl 1 (by decide) (hts (.fieldLink RX2 12 "BridgeByTwo$Foresight" "seen" "LBridgeByTwo$Bridge;") (List.mem_cons_of_mem _ (zg1 (List.mem_of_getElem? (i := 149) rfl) rfl))) (fun _ h9 => h9) rfl hin rfl (by decide +kernel) rfl rfl (Nat.le_of_ble_eq_true rfl) di_Foresight_12 (fun H locs hP hD hS => ?_)
  have hP : va_P D vwCl [(h0, .inr (2, [.null, .ref q1, .null, .null])), (q1, .inr (0, [.ref q2, .ref q6, .ref q7, .int 0, .int 0])), (q2, .inr (7, [.ref q3, .ref q4, .ref q5, .int 0])), (q3, .inl (cI, 13, .inl (fun _ => 0))), (q4, .inl (cI, 13, .inl (fun _ => 0))), (q5, .inl (cI, 13, .inl (fun _ => 0))), (q6, .inr (4, [.int 0, .int 5, .int 5])), (q7, .inr (4, [.int 0, .int 5, .int 5]))] H := hP
  have hD : va_D A [(h0, .inr (2, [.null, .ref q1, .null, .null])), (q1, .inr (0, [.ref q2, .ref q6, .ref q7, .int 0, .int 0])), (q2, .inr (7, [.ref q3, .ref q4, .ref q5, .int 0])), (q3, .inl (cI, 13, .inl (fun _ => 0))), (q4, .inl (cI, 13, .inl (fun _ => 0))), (q5, .inl (cI, 13, .inl (fun _ => 0))), (q6, .inr (4, [.int 0, .int 5, .int 5])), (q7, .inr (4, [.int 0, .int 5, .int 5]))] := hD
  refine lv_aload_n hx hb di_Foresight_15 rfl (lv_at hl 0 rfl) ?_
  refine lv_bipush (v := 71) hx hb di_Foresight_16 (by decide) ?_
  refine zc_newa hx hb (hts _ (List.mem_cons_of_mem _ (zg1 (List.mem_of_getElem? (i := 51) rfl) rfl))) hK hP hD hS hA (N' := 71) (by decide) rfl (Nat.le_of_ble_eq_true rfl) (Nat.le_of_ble_eq_true rfl) (Nat.le_of_ble_eq_true rfl) di_Foresight_18 (fun q8 H hP hD hS => ?_)
  have hP : va_P D vwCl [(h0, .inr (2, [.null, .ref q1, .null, .null])), (q1, .inr (0, [.ref q2, .ref q6, .ref q7, .int 0, .int 0])), (q2, .inr (7, [.ref q3, .ref q4, .ref q5, .int 0])), (q3, .inl (cI, 13, .inl (fun _ => 0))), (q4, .inl (cI, 13, .inl (fun _ => 0))), (q5, .inl (cI, 13, .inl (fun _ => 0))), (q6, .inr (4, [.int 0, .int 5, .int 5])), (q7, .inr (4, [.int 0, .int 5, .int 5])), (q8, .inl (cI, 71, .inl (fun _ => 0)))] H := hP
  have hD : va_D A [(h0, .inr (2, [.null, .ref q1, .null, .null])), (q1, .inr (0, [.ref q2, .ref q6, .ref q7, .int 0, .int 0])), (q2, .inr (7, [.ref q3, .ref q4, .ref q5, .int 0])), (q3, .inl (cI, 13, .inl (fun _ => 0))), (q4, .inl (cI, 13, .inl (fun _ => 0))), (q5, .inl (cI, 13, .inl (fun _ => 0))), (q6, .inr (4, [.int 0, .int 5, .int 5])), (q7, .inr (4, [.int 0, .int 5, .int 5])), (q8, .inl (cI, 71, .inl (fun _ => 0)))] := hD
  refine W.widen (k := 8) (n := 125) (by omega) (by omega) ?_
  refine va_putF (D := D) (ci := 2) (v := .ref q8) (ty := .array .int) (C := RX2) (T := TX2) (N := 4) hx hb hts (fun w h => List.mem_cons_of_mem _ ((zcls (ci := 2) rfl).1 w h)) tyX2 tyX2_ok nmX2 hown hK hP hD hS 0 rfl rfl 2 (by decide) (hts (.fieldLink RX2 18 "BridgeByTwo$Foresight" "quarrelsBehind" "[I") (List.mem_cons_of_mem _ (zg1 (List.mem_of_getElem? (i := 150) rfl) rfl))) (fun _ h9 => h9) rfl hin rfl (by decide +kernel) rfl rfl (Nat.le_of_ble_eq_true rfl) di_Foresight_20 (fun H locs hP hD hS => ?_)
  have hP : va_P D vwCl [(h0, .inr (2, [.null, .ref q1, .ref q8, .null])), (q1, .inr (0, [.ref q2, .ref q6, .ref q7, .int 0, .int 0])), (q2, .inr (7, [.ref q3, .ref q4, .ref q5, .int 0])), (q3, .inl (cI, 13, .inl (fun _ => 0))), (q4, .inl (cI, 13, .inl (fun _ => 0))), (q5, .inl (cI, 13, .inl (fun _ => 0))), (q6, .inr (4, [.int 0, .int 5, .int 5])), (q7, .inr (4, [.int 0, .int 5, .int 5])), (q8, .inl (cI, 71, .inl (fun _ => 0)))] H := hP
  have hD : va_D A [(h0, .inr (2, [.null, .ref q1, .ref q8, .null])), (q1, .inr (0, [.ref q2, .ref q6, .ref q7, .int 0, .int 0])), (q2, .inr (7, [.ref q3, .ref q4, .ref q5, .int 0])), (q3, .inl (cI, 13, .inl (fun _ => 0))), (q4, .inl (cI, 13, .inl (fun _ => 0))), (q5, .inl (cI, 13, .inl (fun _ => 0))), (q6, .inr (4, [.int 0, .int 5, .int 5])), (q7, .inr (4, [.int 0, .int 5, .int 5])), (q8, .inl (cI, 71, .inl (fun _ => 0)))] := hD
  refine lv_aload_n hx hb di_Foresight_23 rfl (lv_at hl 0 rfl) ?_
  refine va_new (ci := 1) (fs := [.int 0]) (C := RX1) (T := TX1) (N := 1) hx hb hts (fun w h => List.mem_cons_of_mem _ ((zcls (ci := 1) rfl).1 w h)) tyX1 tyX1_ok hown (hts (.classLink RX2 22 RX1) (List.mem_cons_of_mem _ (zg1 (List.mem_of_getElem? (i := 138) rfl) rfl))) (hts (.instantiable RX1 1) (List.mem_cons_of_mem _ (zg1 (List.mem_of_getElem? (i := 139) rfl) rfl))) (hts (.initialized RX1) (List.mem_cons_of_mem _ (zg1 (List.mem_of_getElem? (i := 8) rfl) rfl))) hK hP hD hS hA rfl (fun j hj => by rcases (show j = 0 by omega) with rfl <;> rfl) (Nat.le_of_ble_eq_true rfl) (Nat.le_of_ble_eq_true rfl) di_Foresight_24 (fun q9 H hP hD hS => ?_)
  have hP : va_P D vwCl [(h0, .inr (2, [.null, .ref q1, .ref q8, .null])), (q1, .inr (0, [.ref q2, .ref q6, .ref q7, .int 0, .int 0])), (q2, .inr (7, [.ref q3, .ref q4, .ref q5, .int 0])), (q3, .inl (cI, 13, .inl (fun _ => 0))), (q4, .inl (cI, 13, .inl (fun _ => 0))), (q5, .inl (cI, 13, .inl (fun _ => 0))), (q6, .inr (4, [.int 0, .int 5, .int 5])), (q7, .inr (4, [.int 0, .int 5, .int 5])), (q8, .inl (cI, 71, .inl (fun _ => 0))), (q9, .inr (1, [.int 0]))] H := hP
  have hD : va_D A [(h0, .inr (2, [.null, .ref q1, .ref q8, .null])), (q1, .inr (0, [.ref q2, .ref q6, .ref q7, .int 0, .int 0])), (q2, .inr (7, [.ref q3, .ref q4, .ref q5, .int 0])), (q3, .inl (cI, 13, .inl (fun _ => 0))), (q4, .inl (cI, 13, .inl (fun _ => 0))), (q5, .inl (cI, 13, .inl (fun _ => 0))), (q6, .inr (4, [.int 0, .int 5, .int 5])), (q7, .inr (4, [.int 0, .int 5, .int 5])), (q8, .inl (cI, 71, .inl (fun _ => 0))), (q9, .inr (1, [.int 0]))] := hD
  refine W.widen (k := 9) (n := 126) (by omega) (by omega) ?_
  refine lv_dup hx hb di_Foresight_27 rfl ?_
  have hPc := hP.sub (ws' := [(q9, .inr (1, [.int 0]))]) [9] rfl
  have hDc := hD.sub (ws' := [(q9, .inr (1, [.int 0]))]) [9] (by decide) rfl
  have hFc := va_free (wc := [(q9, .inr (1, [.int 0]))]) hD hS hA [9] rfl
  refine va_callv (va_runIN (As := []) (rest := [.ref q9, .ref h0]) ⟨hx, hb, hml, hown, hts⟩ (ci_Draws l D cI q9 H.size) ⟨va_cnB 0 hts (zGIc (zg1 (List.mem_of_getElem? (i := 142) rfl) rfl)) rfl rfl rfl (hN _ (zn1 (List.mem_of_getElem? (i := 140) rfl) rfl)) (hts (.initialized RX1) (List.mem_cons_of_mem _ (zg1 (List.mem_of_getElem? (i := 8) rfl) rfl))) ⟨by decide +kernel, by decide +kernel, by decide +kernel⟩ ⟨(Nat.le_of_ble_eq_true rfl), (Nat.le_of_ble_eq_true rfl)⟩, rfl, hts (.instanceMethod yX1_init) (List.mem_cons_of_mem _ (zg1 (List.mem_of_getElem? (i := 141) rfl) rfl))⟩ ⟨zcPre_blind, fun U hU hW => ⟨rfl, by rw [hU], by rw [hU]; exact hPc, va_K.moved hW.alike hK, hDc.weaken (fun _ _ _ _ => trivial), fun w hw => zNL_warm hW hw (hN w hw)⟩⟩ rfl rfl hl.1 rfl (lv_room (Nat.le_of_ble_eq_true rfl)) di_Foresight_28 ⟨(Nat.le_of_ble_eq_true rfl), (Nat.le_of_ble_eq_true rfl)⟩) hS (fun q _ h => hFc q h) hFc (fun u t H1 locs ht hvm hw hB hz1 hk1 hS => ?_)
  obtain rfl := hw
  obtain ⟨hP1, hD1⟩ := hB
  rw [ht] at hP1
  obtain ⟨hP, hD⟩ := va_join (wr := [(h0, .inr (2, [.null, .ref q1, .ref q8, .null])), (q1, .inr (0, [.ref q2, .ref q6, .ref q7, .int 0, .int 0])), (q2, .inr (7, [.ref q3, .ref q4, .ref q5, .int 0])), (q3, .inl (cI, 13, .inl (fun _ => 0))), (q4, .inl (cI, 13, .inl (fun _ => 0))), (q5, .inl (cI, 13, .inl (fun _ => 0))), (q6, .inr (4, [.int 0, .int 5, .int 5])), (q7, .inr (4, [.int 0, .int 5, .int 5])), (q8, .inl (cI, 71, .inl (fun _ => 0)))]) (w1 := [(q9, .inr (1, [.int 0]))]) hP hD [9] [0, 1, 2, 3, 4, 5, 6, 7, 8] rfl rfl (by decide) (by decide) hk1 hFc hP1 hD1
  clear hPc hDc hFc hP1 hD1 hk1 hz1 ht hvm
  generalize H1 = H at hP hS ⊢
  have hP : va_P D vwCl [(h0, .inr (2, [.null, .ref q1, .ref q8, .null])), (q1, .inr (0, [.ref q2, .ref q6, .ref q7, .int 0, .int 0])), (q2, .inr (7, [.ref q3, .ref q4, .ref q5, .int 0])), (q3, .inl (cI, 13, .inl (fun _ => 0))), (q4, .inl (cI, 13, .inl (fun _ => 0))), (q5, .inl (cI, 13, .inl (fun _ => 0))), (q6, .inr (4, [.int 0, .int 5, .int 5])), (q7, .inr (4, [.int 0, .int 5, .int 5])), (q8, .inl (cI, 71, .inl (fun _ => 0))), (q9, .inr (1, [.int 0]))] H := hP
  have hD : va_D A [(h0, .inr (2, [.null, .ref q1, .ref q8, .null])), (q1, .inr (0, [.ref q2, .ref q6, .ref q7, .int 0, .int 0])), (q2, .inr (7, [.ref q3, .ref q4, .ref q5, .int 0])), (q3, .inl (cI, 13, .inl (fun _ => 0))), (q4, .inl (cI, 13, .inl (fun _ => 0))), (q5, .inl (cI, 13, .inl (fun _ => 0))), (q6, .inr (4, [.int 0, .int 5, .int 5])), (q7, .inr (4, [.int 0, .int 5, .int 5])), (q8, .inl (cI, 71, .inl (fun _ => 0))), (q9, .inr (1, [.int 0]))] := hD
  refine W.widen (k := 9) (n := 126) (by omega) (by omega) ?_
  refine va_putF (D := D) (ci := 2) (v := .ref q9) (ty := .object "BridgeByTwo$Draws") (C := RX2) (T := TX2) (N := 4) hx hb hts (fun w h => List.mem_cons_of_mem _ ((zcls (ci := 2) rfl).1 w h)) tyX2 tyX2_ok nmX2 hown hK hP hD hS 0 rfl rfl 3 (by decide) (hts (.fieldLink RX2 25 "BridgeByTwo$Foresight" "draws" "LBridgeByTwo$Draws;") (List.mem_cons_of_mem _ (zg1 (List.mem_of_getElem? (i := 151) rfl) rfl))) (fun _ h9 => h9) rfl hin rfl (by decide +kernel) rfl rfl (Nat.le_of_ble_eq_true rfl) di_Foresight_31 (fun H locs hP hD hS => ?_)
  have hP : va_P D vwCl [(h0, .inr (2, [.null, .ref q1, .ref q8, .ref q9])), (q1, .inr (0, [.ref q2, .ref q6, .ref q7, .int 0, .int 0])), (q2, .inr (7, [.ref q3, .ref q4, .ref q5, .int 0])), (q3, .inl (cI, 13, .inl (fun _ => 0))), (q4, .inl (cI, 13, .inl (fun _ => 0))), (q5, .inl (cI, 13, .inl (fun _ => 0))), (q6, .inr (4, [.int 0, .int 5, .int 5])), (q7, .inr (4, [.int 0, .int 5, .int 5])), (q8, .inl (cI, 71, .inl (fun _ => 0))), (q9, .inr (1, [.int 0]))] H := hP
  have hD : va_D A [(h0, .inr (2, [.null, .ref q1, .ref q8, .ref q9])), (q1, .inr (0, [.ref q2, .ref q6, .ref q7, .int 0, .int 0])), (q2, .inr (7, [.ref q3, .ref q4, .ref q5, .int 0])), (q3, .inl (cI, 13, .inl (fun _ => 0))), (q4, .inl (cI, 13, .inl (fun _ => 0))), (q5, .inl (cI, 13, .inl (fun _ => 0))), (q6, .inr (4, [.int 0, .int 5, .int 5])), (q7, .inr (4, [.int 0, .int 5, .int 5])), (q8, .inl (cI, 71, .inl (fun _ => 0))), (q9, .inr (1, [.int 0]))] := hD
  refine lv_aload_n hx hb di_Foresight_34 rfl (lv_at hl 0 rfl) ?_
  refine lv_aload_n hx hb di_Foresight_35 rfl (lv_at hl 1 rfl) ?_
  refine va_putF (D := D) (ci := 2) (v := .ref p1) (ty := .object "BridgeByTwo$Bridge") (C := RX2) (T := TX2) (N := 4) hx hb hts (fun w h => List.mem_cons_of_mem _ ((zcls (ci := 2) rfl).1 w h)) tyX2 tyX2_ok nmX2 hown hK hP hD hS 0 rfl rfl 0 (by decide) (hts (.fieldLink RX2 29 "BridgeByTwo$Foresight" "now" "LBridgeByTwo$Bridge;") (List.mem_cons_of_mem _ (zg1 (List.mem_of_getElem? (i := 148) rfl) rfl))) (fun _ h9 => h9) rfl hin rfl (by decide +kernel) rfl rfl (Nat.le_of_ble_eq_true rfl) di_Foresight_36 (fun H locs hP hD hS => ?_)
  have hP : va_P D vwCl [(h0, .inr (2, [.ref p1, .ref q1, .ref q8, .ref q9])), (q1, .inr (0, [.ref q2, .ref q6, .ref q7, .int 0, .int 0])), (q2, .inr (7, [.ref q3, .ref q4, .ref q5, .int 0])), (q3, .inl (cI, 13, .inl (fun _ => 0))), (q4, .inl (cI, 13, .inl (fun _ => 0))), (q5, .inl (cI, 13, .inl (fun _ => 0))), (q6, .inr (4, [.int 0, .int 5, .int 5])), (q7, .inr (4, [.int 0, .int 5, .int 5])), (q8, .inl (cI, 71, .inl (fun _ => 0))), (q9, .inr (1, [.int 0]))] H := hP
  have hD : va_D A [(h0, .inr (2, [.ref p1, .ref q1, .ref q8, .ref q9])), (q1, .inr (0, [.ref q2, .ref q6, .ref q7, .int 0, .int 0])), (q2, .inr (7, [.ref q3, .ref q4, .ref q5, .int 0])), (q3, .inl (cI, 13, .inl (fun _ => 0))), (q4, .inl (cI, 13, .inl (fun _ => 0))), (q5, .inl (cI, 13, .inl (fun _ => 0))), (q6, .inr (4, [.int 0, .int 5, .int 5])), (q7, .inr (4, [.int 0, .int 5, .int 5])), (q8, .inl (cI, 71, .inl (fun _ => 0))), (q9, .inr (1, [.int 0]))] := hD
  have hP := hP.sub (ws' := [(h0, .inr (2, [.ref p1, .ref q1, .ref q8, .ref q9])), (q1, .inr (0, [.ref q2, .ref q6, .ref q7, .int 0, .int 0])), (q2, .inr (7, [.ref q3, .ref q4, .ref q5, .int 0])), (q3, .inl (cI, 13, .inl (fun _ => 0))), (q4, .inl (cI, 13, .inl (fun _ => 0))), (q5, .inl (cI, 13, .inl (fun _ => 0))), (q6, .inr (4, [.int 0, .int 5, .int 5])), (q7, .inr (4, [.int 0, .int 5, .int 5])), (q8, .inl (cI, 71, .inl (fun _ => 0))), (q9, .inr (1, [.int 0]))]) [0, 1, 2, 3, 4, 5, 6, 7, 8, 9] rfl
  have hD := hD.sub (ws' := [(h0, .inr (2, [.ref p1, .ref q1, .ref q8, .ref q9])), (q1, .inr (0, [.ref q2, .ref q6, .ref q7, .int 0, .int 0])), (q2, .inr (7, [.ref q3, .ref q4, .ref q5, .int 0])), (q3, .inl (cI, 13, .inl (fun _ => 0))), (q4, .inl (cI, 13, .inl (fun _ => 0))), (q5, .inl (cI, 13, .inl (fun _ => 0))), (q6, .inr (4, [.int 0, .int 5, .int 5])), (q7, .inr (4, [.int 0, .int 5, .int 5])), (q8, .inl (cI, 71, .inl (fun _ => 0))), (q9, .inr (1, [.int 0]))]) [0, 1, 2, 3, 4, 5, 6, 7, 8, 9] (by decide) rfl
  exact W.vret hx hb hr (fun t ht hW => ⟨⟨[(h0, .inr (2, [.ref p1, .ref q1, .ref q8, .ref q9])), (q1, .inr (0, [.ref q2, .ref q6, .ref q7, .int 0, .int 0])), (q2, .inr (7, [.ref q3, .ref q4, .ref q5, .int 0])), (q3, .inl (cI, 13, .inl (fun _ => 0))), (q4, .inl (cI, 13, .inl (fun _ => 0))), (q5, .inl (cI, 13, .inl (fun _ => 0))), (q6, .inr (4, [.int 0, .int 5, .int 5])), (q7, .inr (4, [.int 0, .int 5, .int 5])), (q8, .inl (cI, 71, .inl (fun _ => 0))), (q9, .inr (1, [.int 0]))], rfl, ⟨q1, q2, q3, q4, q5, q6, q7, q8, q9, rfl⟩, by rw [ht]; exact hP, hD⟩, hS.F ht⟩) hS.2.2 di_Foresight_39
