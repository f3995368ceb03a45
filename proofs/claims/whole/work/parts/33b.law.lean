set_option maxRecDepth 100000 in
set_option maxHeartbeats 8000000 in
theorem whole_start {p : Program} {e : Env} {s : State} {m : MethodId} {below : List Frame} {meth : Method} {c : Code} (l : Launch) (hflags : l.flags = flags0) {b L : Nat} {xs : Nat → Int32} (hL : L ≤ 2048) (C0 : lw_At p s m meth c b L xs) : W p l e room_1 s m #[Value.ref b] below meth c s.heap [] 0 0 (lw_Z below #[Value.ref b] s) (entryFrame m ([Value.ref b] : List Value).toArray 4) := by
  obtain ⟨hx, hb, hr, hml, hown, hts, hX, hbl, hlocks, hgv⟩ := id C0
  have hA : ∀ q : Nat, s.heap.size ≤ q → (fun q : Nat => s.heap.size ≤ q) q := fun _ h => h
  have hA' : ∀ a : Nat, a < s.heap.size → ¬ (fun q : Nat => s.heap.size ≤ q) a := fun a h => Nat.not_le.mpr h
  obtain ⟨D, cI, hK⟩ := st_K hts
  obtain ⟨adK, adV, fv, hfv, h0⟩ := st_0 hts hgv hA'
  have hNl := (h0 []).2.2.2.2
  have hS : va_S (fun q : Nat => s.heap.size ≤ q) s.heap s.heap [] := va_S.rf
  have hP : va_P D vwCl [] s.heap := fun k q h => by simp at h
  have hD : va_D (fun q : Nat => s.heap.size ≤ q) [] := ⟨fun i j p q h => by simp at h, fun k q h => by simp at h⟩
  have hl := lv_entry ([.ref b]) (n := 4) (Nat.le_of_ble_eq_true rfl)
  rw [lg_entry_eq]
  generalize (lg_sl ([.ref b]) ++ List.replicate (4 - (lg_sl ([.ref b])).length) Slot.unset).toArray = ls at hl ⊢
  have hl : lv_has ls 4 [(0, .ref b)] := hl
  refine va_new (ci := 8) (fs := [.null, .null, .int 0, .null, .null, .null, .null, .null, .null]) (C := RX8) (T := TX8) (N := 9) hx hb hts (fun w h => zLT ((zcls (ci := 8) rfl).1 w h)) tyX8 tyX8_ok hown (hts (.classLink R_law 7 RX8) (zt1 (List.mem_of_getElem? (i := 18) rfl))) (hts (.instantiable RX8 9) (zt1 (List.mem_of_getElem? (i := 19) rfl))) (hts (.initialized RX8) (zt1 (List.mem_of_getElem? (i := 1) rfl))) hK hP hD hS hA rfl (fun j hj => by rcases (show j = 0 ∨ j = 1 ∨ j = 2 ∨ j = 3 ∨ j = 4 ∨ j = 5 ∨ j = 6 ∨ j = 7 ∨ j = 8 by omega) with rfl | rfl | rfl | rfl | rfl | rfl | rfl | rfl | rfl <;> rfl) (Nat.le_of_ble_eq_true rfl) (Nat.le_of_ble_eq_true rfl) d_law_0 (fun x0 H hP hD hS => ?_)
  have hP : va_P D vwCl [(x0, .inr (8, [.null, .null, .int 0, .null, .null, .null, .null, .null, .null]))] H := hP
  have hD : va_D (fun q : Nat => s.heap.size ≤ q) [(x0, .inr (8, [.null, .null, .int 0, .null, .null, .null, .null, .null, .null]))] := hD
  refine W.widen (k := 1) (n := 9) (by omega) (by omega) ?_
  refine lv_dup hx hb d_law_3 rfl ?_
  have hFc := va_free (wc := [(x0, .inr (8, [.null, .null, .int 0, .null, .null, .null, .null, .null, .null]))]) hD hS hA [0] rfl
  refine va_callv (va_runI (As := []) (rest := [.ref x0]) ⟨hx, hb, hml, hown, hts⟩ (ci_X l D cI x0 H.size) (cwI 0 hts (zLG (zg1 (List.mem_of_getElem? (i := 22) rfl) rfl)) rfl rfl rfl (hts (.initialized RX8) (zt1 (List.mem_of_getElem? (i := 1) rfl))) (hts (.methodLink R_law 9 yX8_init) (zt1 (List.mem_of_getElem? (i := 20) rfl))) (hts (.instanceMethod yX8_init) (zt1 (List.mem_of_getElem? (i := 21) rfl))) rfl ⟨by decide +kernel, by decide +kernel, by decide +kernel⟩ ⟨(Nat.le_of_ble_eq_true rfl), (Nat.le_of_ble_eq_true rfl)⟩) ⟨zcPre_blind, fun U hU hW => ⟨rfl, by rw [hU], by rw [hU]; exact hP, va_K.moved hW.alike hK, hD.weaken (fun _ _ _ _ => trivial), fun w hw => zNL_warm hW hw (hNl w hw)⟩⟩ rfl rfl hl.1 rfl (lv_room (Nat.le_of_ble_eq_true rfl)) d_law_4 ⟨(Nat.le_of_ble_eq_true rfl), (Nat.le_of_ble_eq_true rfl)⟩) hS (fun q _ h => hFc q h) hFc (fun u t H1 locs ht hvm hw hB hz1 hk1 hS => ?_)
  obtain ⟨x1, x2, x3, x4, x5, x6, x7, x8, x9, x10, x11, x12, x13, x14, x15, x16, x17, x18, x19, x20, x21, x22, x23, x24, x25, x26, x27, x28, x29, x30, x31, x32, x33, x34, x35, x36, x37, x38, x39, x40, x41, x42, x43, rfl⟩ := hw
  obtain ⟨hP1, hD1⟩ := hB
  rw [ht] at hP1
  obtain ⟨hP, hD⟩ := va_join (wr := []) hP hD [0] [] rfl rfl (by decide) (by decide) hk1 hFc hP1 hD1
  have ew := zw_X (cI := cI) (h0 := x0) (q1 := x1) (q2 := x2) (q3 := x3) (q4 := x4) (q5 := x5) (q6 := x6) (q7 := x7) (q8 := x8) (q9 := x9) (q10 := x10) (q11 := x11) (q12 := x12) (q13 := x13) (q14 := x14) (q15 := x15) (q16 := x16) (q17 := x17) (q18 := x18) (q19 := x19) (q20 := x20) (q21 := x21) (q22 := x22) (q23 := x23) (q24 := x24) (q25 := x25) (q26 := x26) (q27 := x27) (q28 := x28) (q29 := x29) (q30 := x30) (q31 := x31) (q32 := x32) (q33 := x33) (q34 := x34) (q35 := x35) (q36 := x36) (q37 := x37) (q38 := x38) (q39 := x39) (q40 := x40) (q41 := x41) (q42 := x42) (q43 := x43) (adK := adK) (adV := adV)
  rw [List.nil_append, ew] at hP hD
  clear hP1 hD1 hk1 hFc hz1 ht hvm ew
  generalize H1 = H at hP hS ⊢
  refine W.widen (k := 44) (n := 523) (by omega) (by omega) ?_
  refine lv_astore_n (lv' := [(1, .ref x0), (0, .ref b)]) hx hb d_law_7 rfl hl (by decide) rfl (fun ls hl => ?_)
  have h0X := h0 [x0, x1, x2, x3, x4, x5, x6, x7, x8, x9, x10, x11, x12, x13, x14, x15, x16, x17, x18, x19, x20, x21, x22, x23, x24, x25, x26, x27, x28, x29, x30, x31, x32, x33, x34, x35, x36, x37, x38, x39, x40, x41, x42, x43]
  have ea : zadr [x0, x1, x2, x3, x4, x5, x6, x7, x8, x9, x10, x11, x12, x13, x14, x15, x16, x17, x18, x19, x20, x21, x22, x23, x24, x25, x26, x27, x28, x29, x30, x31, x32, x33, x34, x35, x36, x37, x38, x39, x40, x41, x42, x43] adK adV 0 = x0 := rfl
  generalize zadr [x0, x1, x2, x3, x4, x5, x6, x7, x8, x9, x10, x11, x12, x13, x14, x15, x16, x17, x18, x19, x20, x21, x22, x23, x24, x25, x26, x27, x28, x29, x30, x31, x32, x33, x34, x35, x36, x37, x38, x39, x40, x41, x42, x43] adK adV = adX at *
  refine va_new (ci := 9) (fs := [.null, .null, .null, .null, .null, .null, .null, .int 0, .int 0, .int 0, .null, .null, .null, .null, .int 0, .int 0, .int 0, .null, .int 0, .int 0, .int 0, .int 0, .int 0, .null, .null, .int 0, .int 0]) (C := RX9) (T := TX9) (N := 27) hx hb hts (fun w h => zLT ((zcls (ci := 9) rfl).1 w h)) tyX9 tyX9_ok hown (hts (.classLink R_law 10 RX9) (zt5 (List.mem_of_getElem? (i := 80) rfl))) (hts (.instantiable RX9 27) (zt5 (List.mem_of_getElem? (i := 81) rfl))) (hts (.initialized RX9) (zt1 (List.mem_of_getElem? (i := 10) rfl))) hK hP hD hS hA rfl (fun j hj => by rcases (show j = 0 ∨ j = 1 ∨ j = 2 ∨ j = 3 ∨ j = 4 ∨ j = 5 ∨ j = 6 ∨ j = 7 ∨ j = 8 ∨ j = 9 ∨ j = 10 ∨ j = 11 ∨ j = 12 ∨ j = 13 ∨ j = 14 ∨ j = 15 ∨ j = 16 ∨ j = 17 ∨ j = 18 ∨ j = 19 ∨ j = 20 ∨ j = 21 ∨ j = 22 ∨ j = 23 ∨ j = 24 ∨ j = 25 ∨ j = 26 by omega) with rfl | rfl | rfl | rfl | rfl | rfl | rfl | rfl | rfl | rfl | rfl | rfl | rfl | rfl | rfl | rfl | rfl | rfl | rfl | rfl | rfl | rfl | rfl | rfl | rfl | rfl | rfl <;> rfl) (Nat.le_of_ble_eq_true rfl) (Nat.le_of_ble_eq_true rfl) d_law_8 (fun m0 H hP hD hS => ?_)
  refine W.widen (k := 45) (n := 550) (by omega) (by omega) ?_
  refine lv_dup hx hb d_law_11 rfl ?_
  have hPc := hP.sub (ws' := [(m0, .inr (9, [.null, .null, .null, .null, .null, .null, .null, .int 0, .int 0, .int 0, .null, .null, .null, .null, .int 0, .int 0, .int 0, .null, .int 0, .int 0, .int 0, .int 0, .int 0, .null, .null, .int 0, .int 0]))]) [44] rfl
  have hDc := hD.sub (ws' := [(m0, .inr (9, [.null, .null, .null, .null, .null, .null, .null, .int 0, .int 0, .int 0, .null, .null, .null, .null, .int 0, .int 0, .int 0, .null, .int 0, .int 0, .int 0, .int 0, .int 0, .null, .null, .int 0, .int 0]))]) [44] (by decide) rfl
  have hFc := va_free (wc := [(m0, .inr (9, [.null, .null, .null, .null, .null, .null, .null, .int 0, .int 0, .int 0, .null, .null, .null, .null, .int 0, .int 0, .int 0, .null, .int 0, .int 0, .int 0, .int 0, .int 0, .null, .null, .int 0, .int 0]))]) hD hS hA [44] rfl
  refine va_callv (va_runI (As := []) (rest := [.ref m0]) ⟨hx, hb, hml, hown, hts⟩ (ci_M l D cI m0 H.size) (cwI 0 hts (zLG (zg5 (List.mem_of_getElem? (i := 84) rfl) rfl)) rfl rfl rfl (hts (.initialized RX9) (zt1 (List.mem_of_getElem? (i := 10) rfl))) (hts (.methodLink R_law 12 yX9_init) (zt5 (List.mem_of_getElem? (i := 82) rfl))) (hts (.instanceMethod yX9_init) (zt5 (List.mem_of_getElem? (i := 83) rfl))) rfl ⟨by decide +kernel, by decide +kernel, by decide +kernel⟩ ⟨(Nat.le_of_ble_eq_true rfl), (Nat.le_of_ble_eq_true rfl)⟩) ⟨zcPre_blind, fun U hU hW => ⟨rfl, by rw [hU], by rw [hU]; exact hPc, va_K.moved hW.alike hK, hDc.weaken (fun _ _ _ _ => trivial), fun w hw => zNL_warm hW hw (hNl w hw)⟩⟩ rfl rfl hl.1 rfl (lv_room (Nat.le_of_ble_eq_true rfl)) d_law_12 ⟨(Nat.le_of_ble_eq_true rfl), (Nat.le_of_ble_eq_true rfl)⟩) hS (fun q _ h => hFc q h) hFc (fun u t H1 locs ht hvm hw hB hz1 hk1 hS => ?_)
  obtain ⟨m1, m2, m3, m4, m5, m6, m7, m8, m9, m10, m11, m12, m13, m14, rfl⟩ := hw
  obtain ⟨hP1, hD1⟩ := hB
  rw [ht] at hP1
  obtain ⟨hP, hD⟩ := va_join (wr := zW cI adX zshX 44 sX0) hP hD [44] [0, 1, 2, 3, 4, 5, 6, 7, 8, 9, 10, 11, 12, 13, 14, 15, 16, 17, 18, 19, 20, 21, 22, 23, 24, 25, 26, 27, 28, 29, 30, 31, 32, 33, 34, 35, 36, 37, 38, 39, 40, 41, 42, 43] rfl rfl (by decide) (by decide) hk1 hFc hP1 hD1
  have ew := zw_M (cI := cI) (h0 := m0) (q1 := m1) (q2 := m2) (q3 := m3) (q4 := m4) (q5 := m5) (q6 := m6) (q7 := m7) (q8 := m8) (q9 := m9) (q10 := m10) (q11 := m11) (q12 := m12) (q13 := m13) (q14 := m14) (adK := adK) (adV := adV)
  rw [ew] at hP hD
  clear hP1 hD1 hk1 hFc hz1 ht hvm ew hPc hDc
  generalize H1 = H at hP hS ⊢
  refine W.widen (k := 59) (n := 1154) (by omega) (by omega) ?_
  refine lv_astore_n (lv' := [(2, .ref m0), (1, .ref x0), (0, .ref b)]) hx hb d_law_15 rfl hl (by decide) rfl (fun ls hl => ?_)
  refine lv_iconst (v := 0) hx hb d_law_16 (by decide) ?_
  refine lv_istore_n (lv' := [(3, .int 0), (2, .ref m0), (1, .ref x0), (0, .ref b)]) hx hb d_law_17 rfl hl (by decide) rfl (fun ls hl => ?_)
  have h0M := h0 [m0, m1, m2, m3, m4, m5, m6, m7, m8, m9, m10, m11, m12, m13, m14]
  have eb : zadr [m0, m1, m2, m3, m4, m5, m6, m7, m8, m9, m10, m11, m12, m13, m14] adK adV 0 = m0 := rfl
  generalize zadr [m0, m1, m2, m3, m4, m5, m6, m7, m8, m9, m10, m11, m12, m13, m14] adK adV = adM at *
  obtain ⟨d1, d2, d3, d4, d5⟩ := st_D hD
  obtain ⟨p1, p2⟩ := st_P hP
  exact law_loop (l := l) (adX := adX) (adM := adM) ⟨hfv, d1, d2, d3, hx, hb, hml, hown, hts, hK, h0X, h0M, d4, d5, hX, hbl⟩ hL hr hlocks 513 0 (by omega) (by omega) a00 sX0 sM0 H locs ls beginX beginM p1 p2 hS (by rw [ea, eb]; exact lv_sub hl [3, 2, 1, 0] rfl)
