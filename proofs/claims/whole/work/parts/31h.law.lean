section
variable {p : Program} {l : Launch} {e : Env} {s : State} {m : MethodId} {args : Array Value} {below : List Frame} {meth : Method} {c : Code} {H : Heap} {locs : List Loc} {Q : State → Prop} {ls : Array Slot} {D : va_G} {cI : ClassId} {adX adM : Nat → Nat} {fv : Value} {b L : Nat} {xs : Nat → Int32} {a : At} {σX σM : zG} {i : Int32}
set_option maxRecDepth 20000 in
set_option maxHeartbeats 4000000 in
theorem lc_swap (C : zLC p l s m args c b L xs D cI adX adM fv) (hX : RX σX a) (hM : WX σM a) (hPX : va_P D vwCl (zW cI adX zshX 44 σX) H) (hPM : va_P D vwCl (zW cI adM zshM 15 σM) H) (hS : va_S (fun q : Nat => s.heap.size ≤ q) s.heap H locs) (hl : lv_has ls 4 [(0, .ref b), (1, .ref (adX 0)), (2, .ref (adM 0)), (3, .int i)]) (h1 : vp_in (i + 1) L) (h2 : vp_in (i + 2) L) (h3 : vp_in (i + 3) L) (kk : ∀ (a' : At) (σX' σM' : zG) (H' : Heap) (locs' : List Loc), RX σX' a' → WX σM' a' → va_P D vwCl (zW cI adX zshX 44 σX') H' → va_P D vwCl (zW cI adM zshM 15 σM') H' → va_S (fun q : Nat => s.heap.size ≤ q) s.heap H' locs' → W p l e room_1 s m args below meth c H' locs' 59 1154 Q (F0 m 1244 ls [])) : W p l e room_1 s m args below meth c H locs 59 1154 Q (F0 m 933 ls []) := by
  obtain ⟨hfv, iX, iM, hd, hx, hb, hml, hown, hts, hK, h0X, h0M, aX, aM, hsc, hbl⟩ := C
  have hbA : ¬ (fun q : Nat => s.heap.size ≤ q) b := Nat.not_le.mpr hbl
  refine lv_aload_n hx hb d_law_933 rfl (lv_at hl 1 rfl) ?_
  refine lv_aload_n hx hb d_law_934 rfl (lv_at hl 0 rfl) ?_
  refine lv_iload_n hx hb d_law_935 rfl (lv_at hl 3 rfl) ?_
  refine lv_iconst (v := 1) hx hb d_law_936 (by decide) ?_
  refine lv_iadd hx hb d_law_937 ?_
  refine va_sld hx hb hsc hbl hbA hS h1 d_law_938 ?_
  refine zl_call (ad := adX) (sh := zshX) (N := 44) (Q' := fun r σ' => r = some (.int (c_swap a (xs (i + 1).toNatClampNeg)).1) ∧ RX σ' (c_swap a (xs (i + 1).toNatClampNeg)).2) hfv zshX_ok iX hx hb hml hown hts hK h0X aX hS hPX (mi := 132) rfl [.int (xs (i + 1).toNatClampNeg)] (X_swap hX (fun σ' h => ⟨rfl, h⟩)) (Nat.le_of_ble_eq_true rfl) rfl (by decide) (by decide) rfl (zg4 (List.mem_of_getElem? (i := 147) rfl) rfl) ⟨(Nat.le_of_ble_eq_true rfl), (Nat.le_of_ble_eq_true rfl)⟩ hl.1 (Nat.le_of_ble_eq_true rfl) d_law_939 rfl (fun r σX' H1 locs1 hq hPX1 hk hS1 => ?_) (Nat.le_refl _) (Nat.le_refl _)
  obtain ⟨rfl, hX1⟩ := hq
  have hPM1 := zl_keep hPM hk hd
  refine lv_aload_n hx hb d_law_942 rfl (lv_at hl 2 rfl) ?_
  refine lv_aload_n hx hb d_law_943 rfl (lv_at hl 0 rfl) ?_
  refine lv_iload_n hx hb d_law_944 rfl (lv_at hl 3 rfl) ?_
  refine lv_iconst (v := 1) hx hb d_law_945 (by decide) ?_
  refine lv_iadd hx hb d_law_946 ?_
  refine va_sld hx hb hsc hbl hbA hS1 h1 d_law_947 ?_
  refine zl_call (ad := adM) (sh := zshM) (N := 15) (Q' := fun r σ' => r = some (.int (c_swap a (xs (i + 1).toNatClampNeg)).1) ∧ WX σ' (c_swap a (xs (i + 1).toNatClampNeg)).2) hfv zshM_ok iM hx hb hml hown hts hK h0M aM hS1 hPM1 (mi := 240) rfl [.int (xs (i + 1).toNatClampNeg)] (M_swap hM (fun σ' h => ⟨rfl, h⟩)) (Nat.le_of_ble_eq_true rfl) rfl (by decide) (by decide) rfl (zg6 (List.mem_of_getElem? (i := 230) rfl) rfl) ⟨(Nat.le_of_ble_eq_true rfl), (Nat.le_of_ble_eq_true rfl)⟩ hl.1 (Nat.le_of_ble_eq_true rfl) d_law_948 rfl (fun r σM' H2 locs2 hq hPM2 hk2 hS2 => ?_) (Nat.le_refl _) (Nat.le_refl _)
  obtain ⟨rfl, hM1⟩ := hq
  have hPX2 := zl_keep hPX1 hk2 (fun i j g1 g2 e => hd j i g2 g1 e.symm)
  refine lv_icmp_eq (tgt := 1244) hx hb d_law_951 (by decide) (fun _ => ?_) (fun h => absurd rfl h)
  exact kk _ σX' σM' H2 locs2 hX1 hM1 hPX2 hPM2 hS2
set_option maxRecDepth 20000 in
set_option maxHeartbeats 4000000 in
theorem lc_two (C : zLC p l s m args c b L xs D cI adX adM fv) (hX : RX σX a) (hM : WX σM a) (hPX : va_P D vwCl (zW cI adX zshX 44 σX) H) (hPM : va_P D vwCl (zW cI adM zshM 15 σM) H) (hS : va_S (fun q : Nat => s.heap.size ≤ q) s.heap H locs) (hl : lv_has ls 4 [(0, .ref b), (1, .ref (adX 0)), (2, .ref (adM 0)), (3, .int i)]) (h1 : vp_in (i + 1) L) (h2 : vp_in (i + 2) L) (h3 : vp_in (i + 3) L) (kk : ∀ (a' : At) (σX' σM' : zG) (H' : Heap) (locs' : List Loc), RX σX' a' → WX σM' a' → va_P D vwCl (zW cI adX zshX 44 σX') H' → va_P D vwCl (zW cI adM zshM 15 σM') H' → va_S (fun q : Nat => s.heap.size ≤ q) s.heap H' locs' → W p l e room_1 s m args below meth c H' locs' 59 1154 Q (F0 m 1244 ls [])) : W p l e room_1 s m args below meth c H locs 59 1154 Q (F0 m 956 ls []) := by
  obtain ⟨hfv, iX, iM, hd, hx, hb, hml, hown, hts, hK, h0X, h0M, aX, aM, hsc, hbl⟩ := C
  have hbA : ¬ (fun q : Nat => s.heap.size ≤ q) b := Nat.not_le.mpr hbl
  refine lv_aload_n hx hb d_law_956 rfl (lv_at hl 1 rfl) ?_
  refine lv_aload_n hx hb d_law_957 rfl (lv_at hl 0 rfl) ?_
  refine lv_iload_n hx hb d_law_958 rfl (lv_at hl 3 rfl) ?_
  refine lv_iconst (v := 1) hx hb d_law_959 (by decide) ?_
  refine lv_iadd hx hb d_law_960 ?_
  refine va_sld hx hb hsc hbl hbA hS h1 d_law_961 ?_
  refine zl_call (ad := adX) (sh := zshX) (N := 44) (Q' := fun r σ' => r = some (.int (c_two a (xs (i + 1).toNatClampNeg)).1) ∧ RX σ' (c_two a (xs (i + 1).toNatClampNeg)).2) hfv zshX_ok iX hx hb hml hown hts hK h0X aX hS hPX (mi := 133) rfl [.int (xs (i + 1).toNatClampNeg)] (X_two hX (fun σ' h => ⟨rfl, h⟩)) (Nat.le_of_ble_eq_true rfl) rfl (by decide) (by decide) rfl (zg4 (List.mem_of_getElem? (i := 156) rfl) rfl) ⟨(Nat.le_of_ble_eq_true rfl), (Nat.le_of_ble_eq_true rfl)⟩ hl.1 (Nat.le_of_ble_eq_true rfl) d_law_962 rfl (fun r σX' H1 locs1 hq hPX1 hk hS1 => ?_) (Nat.le_refl _) (Nat.le_refl _)
  obtain ⟨rfl, hX1⟩ := hq
  have hPM1 := zl_keep hPM hk hd
  refine lv_aload_n hx hb d_law_965 rfl (lv_at hl 2 rfl) ?_
  refine lv_aload_n hx hb d_law_966 rfl (lv_at hl 0 rfl) ?_
  refine lv_iload_n hx hb d_law_967 rfl (lv_at hl 3 rfl) ?_
  refine lv_iconst (v := 1) hx hb d_law_968 (by decide) ?_
  refine lv_iadd hx hb d_law_969 ?_
  refine va_sld hx hb hsc hbl hbA hS1 h1 d_law_970 ?_
  refine zl_call (ad := adM) (sh := zshM) (N := 15) (Q' := fun r σ' => r = some (.int (c_two a (xs (i + 1).toNatClampNeg)).1) ∧ WX σ' (c_two a (xs (i + 1).toNatClampNeg)).2) hfv zshM_ok iM hx hb hml hown hts hK h0M aM hS1 hPM1 (mi := 242) rfl [.int (xs (i + 1).toNatClampNeg)] (M_two hM (fun σ' h => ⟨rfl, h⟩)) (Nat.le_of_ble_eq_true rfl) rfl (by decide) (by decide) rfl (zg7 (List.mem_of_getElem? (i := 2) rfl) rfl) ⟨(Nat.le_of_ble_eq_true rfl), (Nat.le_of_ble_eq_true rfl)⟩ hl.1 (Nat.le_of_ble_eq_true rfl) d_law_971 rfl (fun r σM' H2 locs2 hq hPM2 hk2 hS2 => ?_) (Nat.le_refl _) (Nat.le_refl _)
  obtain ⟨rfl, hM1⟩ := hq
  have hPX2 := zl_keep hPX1 hk2 (fun i j g1 g2 e => hd j i g2 g1 e.symm)
  refine lv_icmp_eq (tgt := 1244) hx hb d_law_974 (by decide) (fun _ => ?_) (fun h => absurd rfl h)
  exact kk _ σX' σM' H2 locs2 hX1 hM1 hPX2 hPM2 hS2
set_option maxRecDepth 20000 in
set_option maxHeartbeats 4000000 in
theorem lc_fever (C : zLC p l s m args c b L xs D cI adX adM fv) (hX : RX σX a) (hM : WX σM a) (hPX : va_P D vwCl (zW cI adX zshX 44 σX) H) (hPM : va_P D vwCl (zW cI adM zshM 15 σM) H) (hS : va_S (fun q : Nat => s.heap.size ≤ q) s.heap H locs) (hl : lv_has ls 4 [(0, .ref b), (1, .ref (adX 0)), (2, .ref (adM 0)), (3, .int i)]) (h1 : vp_in (i + 1) L) (h2 : vp_in (i + 2) L) (h3 : vp_in (i + 3) L) (kk : ∀ (a' : At) (σX' σM' : zG) (H' : Heap) (locs' : List Loc), RX σX' a' → WX σM' a' → va_P D vwCl (zW cI adX zshX 44 σX') H' → va_P D vwCl (zW cI adM zshM 15 σM') H' → va_S (fun q : Nat => s.heap.size ≤ q) s.heap H' locs' → W p l e room_1 s m args below meth c H' locs' 59 1154 Q (F0 m 1244 ls [])) : W p l e room_1 s m args below meth c H locs 59 1154 Q (F0 m 979 ls []) := by
  obtain ⟨hfv, iX, iM, hd, hx, hb, hml, hown, hts, hK, h0X, h0M, aX, aM, hsc, hbl⟩ := C
  have hbA : ¬ (fun q : Nat => s.heap.size ≤ q) b := Nat.not_le.mpr hbl
  refine lv_aload_n hx hb d_law_979 rfl (lv_at hl 1 rfl) ?_
  refine lv_aload_n hx hb d_law_980 rfl (lv_at hl 0 rfl) ?_
  refine lv_iload_n hx hb d_law_981 rfl (lv_at hl 3 rfl) ?_
  refine lv_iconst (v := 1) hx hb d_law_982 (by decide) ?_
  refine lv_iadd hx hb d_law_983 ?_
  refine va_sld hx hb hsc hbl hbA hS h1 d_law_984 ?_
  refine lv_aload_n hx hb d_law_985 rfl (lv_at hl 0 rfl) ?_
  refine lv_iload_n hx hb d_law_986 rfl (lv_at hl 3 rfl) ?_
  refine lv_iconst (v := 2) hx hb d_law_987 (by decide) ?_
  refine lv_iadd hx hb d_law_988 ?_
  refine va_sld hx hb hsc hbl hbA hS h2 d_law_989 ?_
  refine lv_aload_n hx hb d_law_990 rfl (lv_at hl 0 rfl) ?_
  refine lv_iload_n hx hb d_law_991 rfl (lv_at hl 3 rfl) ?_
  refine lv_iconst (v := 3) hx hb d_law_992 (by decide) ?_
  refine lv_iadd hx hb d_law_993 ?_
  refine va_sld hx hb hsc hbl hbA hS h3 d_law_994 ?_
  refine zl_call (ad := adX) (sh := zshX) (N := 44) (Q' := fun r σ' => r = some (.long (c_fever a (xs (i + 1).toNatClampNeg) (xs (i + 2).toNatClampNeg) (xs (i + 3).toNatClampNeg)).1) ∧ RX σ' (c_fever a (xs (i + 1).toNatClampNeg) (xs (i + 2).toNatClampNeg) (xs (i + 3).toNatClampNeg)).2) hfv zshX_ok iX hx hb hml hown hts hK h0X aX hS hPX (mi := 134) rfl [.int (xs (i + 1).toNatClampNeg), .int (xs (i + 2).toNatClampNeg), .int (xs (i + 3).toNatClampNeg)] (X_fever hX (fun σ' h => ⟨rfl, h⟩)) (Nat.le_of_ble_eq_true rfl) rfl (by decide) (by decide) rfl (zg4 (List.mem_of_getElem? (i := 169) rfl) rfl) ⟨(Nat.le_of_ble_eq_true rfl), (Nat.le_of_ble_eq_true rfl)⟩ hl.1 (Nat.le_of_ble_eq_true rfl) d_law_995 rfl (fun r σX' H1 locs1 hq hPX1 hk hS1 => ?_) (Nat.le_refl _) (Nat.le_refl _)
  obtain ⟨rfl, hX1⟩ := hq
  have hPM1 := zl_keep hPM hk hd
  refine lv_aload_n hx hb d_law_998 rfl (lv_at hl 2 rfl) ?_
  refine lv_aload_n hx hb d_law_999 rfl (lv_at hl 0 rfl) ?_
  refine lv_iload_n hx hb d_law_1000 rfl (lv_at hl 3 rfl) ?_
  refine lv_iconst (v := 1) hx hb d_law_1001 (by decide) ?_
  refine lv_iadd hx hb d_law_1002 ?_
  refine va_sld hx hb hsc hbl hbA hS1 h1 d_law_1003 ?_
  refine lv_aload_n hx hb d_law_1004 rfl (lv_at hl 0 rfl) ?_
  refine lv_iload_n hx hb d_law_1005 rfl (lv_at hl 3 rfl) ?_
  refine lv_iconst (v := 2) hx hb d_law_1006 (by decide) ?_
  refine lv_iadd hx hb d_law_1007 ?_
  refine va_sld hx hb hsc hbl hbA hS1 h2 d_law_1008 ?_
  refine lv_aload_n hx hb d_law_1009 rfl (lv_at hl 0 rfl) ?_
  refine lv_iload_n hx hb d_law_1010 rfl (lv_at hl 3 rfl) ?_
  refine lv_iconst (v := 3) hx hb d_law_1011 (by decide) ?_
  refine lv_iadd hx hb d_law_1012 ?_
  refine va_sld hx hb hsc hbl hbA hS1 h3 d_law_1013 ?_
  refine zl_call (ad := adM) (sh := zshM) (N := 15) (Q' := fun r σ' => r = some (.long (c_fever a (xs (i + 1).toNatClampNeg) (xs (i + 2).toNatClampNeg) (xs (i + 3).toNatClampNeg)).1) ∧ WX σ' (c_fever a (xs (i + 1).toNatClampNeg) (xs (i + 2).toNatClampNeg) (xs (i + 3).toNatClampNeg)).2) hfv zshM_ok iM hx hb hml hown hts hK h0M aM hS1 hPM1 (mi := 245) rfl [.int (xs (i + 1).toNatClampNeg), .int (xs (i + 2).toNatClampNeg), .int (xs (i + 3).toNatClampNeg)] (M_fever hM (fun σ' h => ⟨rfl, h⟩)) (Nat.le_of_ble_eq_true rfl) rfl (by decide) (by decide) rfl (zg7 (List.mem_of_getElem? (i := 10) rfl) rfl) ⟨(Nat.le_of_ble_eq_true rfl), (Nat.le_of_ble_eq_true rfl)⟩ hl.1 (Nat.le_of_ble_eq_true rfl) d_law_1014 rfl (fun r σM' H2 locs2 hq hPM2 hk2 hS2 => ?_) (Nat.le_refl _) (Nat.le_refl _)
  obtain ⟨rfl, hM1⟩ := hq
  have hPX2 := zl_keep hPX1 hk2 (fun i j g1 g2 e => hd j i g2 g1 e.symm)
  refine W.lcmp hx hb d_law_1017 ?_
  refine lv_if_eq (tgt := 1244) hx hb d_law_1018 (by decide) (fun _ => ?_) (fun h => absurd (cmp_eq.mpr rfl) h)
  exact kk _ σX' σM' H2 locs2 hX1 hM1 hPX2 hPM2 hS2
set_option maxRecDepth 20000 in
set_option maxHeartbeats 4000000 in
theorem lc_mean (C : zLC p l s m args c b L xs D cI adX adM fv) (hX : RX σX a) (hM : WX σM a) (hPX : va_P D vwCl (zW cI adX zshX 44 σX) H) (hPM : va_P D vwCl (zW cI adM zshM 15 σM) H) (hS : va_S (fun q : Nat => s.heap.size ≤ q) s.heap H locs) (hl : lv_has ls 4 [(0, .ref b), (1, .ref (adX 0)), (2, .ref (adM 0)), (3, .int i)]) (h1 : vp_in (i + 1) L) (h2 : vp_in (i + 2) L) (h3 : vp_in (i + 3) L) (kk : ∀ (a' : At) (σX' σM' : zG) (H' : Heap) (locs' : List Loc), RX σX' a' → WX σM' a' → va_P D vwCl (zW cI adX zshX 44 σX') H' → va_P D vwCl (zW cI adM zshM 15 σM') H' → va_S (fun q : Nat => s.heap.size ≤ q) s.heap H' locs' → W p l e room_1 s m args below meth c H' locs' 59 1154 Q (F0 m 1244 ls [])) : W p l e room_1 s m args below meth c H locs 59 1154 Q (F0 m 1023 ls []) := by
  obtain ⟨hfv, iX, iM, hd, hx, hb, hml, hown, hts, hK, h0X, h0M, aX, aM, hsc, hbl⟩ := C
  have hbA : ¬ (fun q : Nat => s.heap.size ≤ q) b := Nat.not_le.mpr hbl
  refine lv_aload_n hx hb d_law_1023 rfl (lv_at hl 1 rfl) ?_
  refine lv_aload_n hx hb d_law_1024 rfl (lv_at hl 0 rfl) ?_
  refine lv_iload_n hx hb d_law_1025 rfl (lv_at hl 3 rfl) ?_
  refine lv_iconst (v := 1) hx hb d_law_1026 (by decide) ?_
  refine lv_iadd hx hb d_law_1027 ?_
  refine va_sld hx hb hsc hbl hbA hS h1 d_law_1028 ?_
  refine zl_call (ad := adX) (sh := zshX) (N := 44) (Q' := fun r σ' => r = some (.long (c_mean a (xs (i + 1).toNatClampNeg)).1) ∧ RX σ' (c_mean a (xs (i + 1).toNatClampNeg)).2) hfv zshX_ok iX hx hb hml hown hts hK h0X aX hS hPX (mi := 135) rfl [.int (xs (i + 1).toNatClampNeg)] (X_mean hX (fun σ' h => ⟨rfl, h⟩)) (Nat.le_of_ble_eq_true rfl) rfl (by decide) (by decide) rfl (zg4 (List.mem_of_getElem? (i := 200) rfl) rfl) ⟨(Nat.le_of_ble_eq_true rfl), (Nat.le_of_ble_eq_true rfl)⟩ hl.1 (Nat.le_of_ble_eq_true rfl) d_law_1029 rfl (fun r σX' H1 locs1 hq hPX1 hk hS1 => ?_) (Nat.le_refl _) (Nat.le_refl _)
  obtain ⟨rfl, hX1⟩ := hq
  have hPM1 := zl_keep hPM hk hd
  refine lv_aload_n hx hb d_law_1032 rfl (lv_at hl 2 rfl) ?_
  refine lv_aload_n hx hb d_law_1033 rfl (lv_at hl 0 rfl) ?_
  refine lv_iload_n hx hb d_law_1034 rfl (lv_at hl 3 rfl) ?_
  refine lv_iconst (v := 1) hx hb d_law_1035 (by decide) ?_
  refine lv_iadd hx hb d_law_1036 ?_
  refine va_sld hx hb hsc hbl hbA hS1 h1 d_law_1037 ?_
  refine zl_call (ad := adM) (sh := zshM) (N := 15) (Q' := fun r σ' => r = some (.long (c_mean a (xs (i + 1).toNatClampNeg)).1) ∧ WX σ' (c_mean a (xs (i + 1).toNatClampNeg)).2) hfv zshM_ok iM hx hb hml hown hts hK h0M aM hS1 hPM1 (mi := 247) rfl [.int (xs (i + 1).toNatClampNeg)] (M_mean hM (fun σ' h => ⟨rfl, h⟩)) (Nat.le_of_ble_eq_true rfl) rfl (by decide) (by decide) rfl (zg7 (List.mem_of_getElem? (i := 25) rfl) rfl) ⟨(Nat.le_of_ble_eq_true rfl), (Nat.le_of_ble_eq_true rfl)⟩ hl.1 (Nat.le_of_ble_eq_true rfl) d_law_1038 rfl (fun r σM' H2 locs2 hq hPM2 hk2 hS2 => ?_) (Nat.le_refl _) (Nat.le_refl _)
  obtain ⟨rfl, hM1⟩ := hq
  have hPX2 := zl_keep hPX1 hk2 (fun i j g1 g2 e => hd j i g2 g1 e.symm)
  refine W.lcmp hx hb d_law_1041 ?_
  refine lv_if_eq (tgt := 1244) hx hb d_law_1042 (by decide) (fun _ => ?_) (fun h => absurd (cmp_eq.mpr rfl) h)
  exact kk _ σX' σM' H2 locs2 hX1 hM1 hPX2 hPM2 hS2
set_option maxRecDepth 20000 in
set_option maxHeartbeats 4000000 in
theorem lc_whoLaid (C : zLC p l s m args c b L xs D cI adX adM fv) (hX : RX σX a) (hM : WX σM a) (hPX : va_P D vwCl (zW cI adX zshX 44 σX) H) (hPM : va_P D vwCl (zW cI adM zshM 15 σM) H) (hS : va_S (fun q : Nat => s.heap.size ≤ q) s.heap H locs) (hl : lv_has ls 4 [(0, .ref b), (1, .ref (adX 0)), (2, .ref (adM 0)), (3, .int i)]) (h1 : vp_in (i + 1) L) (h2 : vp_in (i + 2) L) (h3 : vp_in (i + 3) L) (kk : ∀ (a' : At) (σX' σM' : zG) (H' : Heap) (locs' : List Loc), RX σX' a' → WX σM' a' → va_P D vwCl (zW cI adX zshX 44 σX') H' → va_P D vwCl (zW cI adM zshM 15 σM') H' → va_S (fun q : Nat => s.heap.size ≤ q) s.heap H' locs' → W p l e room_1 s m args below meth c H' locs' 59 1154 Q (F0 m 1244 ls [])) : W p l e room_1 s m args below meth c H locs 59 1154 Q (F0 m 1047 ls []) := by
  obtain ⟨hfv, iX, iM, hd, hx, hb, hml, hown, hts, hK, h0X, h0M, aX, aM, hsc, hbl⟩ := C
  have hbA : ¬ (fun q : Nat => s.heap.size ≤ q) b := Nat.not_le.mpr hbl
  refine lv_aload_n hx hb d_law_1047 rfl (lv_at hl 1 rfl) ?_
  refine lv_aload_n hx hb d_law_1048 rfl (lv_at hl 0 rfl) ?_
  refine lv_iload_n hx hb d_law_1049 rfl (lv_at hl 3 rfl) ?_
  refine lv_iconst (v := 1) hx hb d_law_1050 (by decide) ?_
  refine lv_iadd hx hb d_law_1051 ?_
  refine va_sld hx hb hsc hbl hbA hS h1 d_law_1052 ?_
  refine zl_call (ad := adX) (sh := zshX) (N := 44) (Q' := fun r σ' => r = some (.int (c_whoLaid a (xs (i + 1).toNatClampNeg)).1) ∧ RX σ' (c_whoLaid a (xs (i + 1).toNatClampNeg)).2) hfv zshX_ok iX hx hb hml hown hts hK h0X aX hS hPX (mi := 136) rfl [.int (xs (i + 1).toNatClampNeg)] (X_whoLaid hX (fun σ' h => ⟨rfl, h⟩)) (Nat.le_of_ble_eq_true rfl) rfl (by decide) (by decide) rfl (zg4 (List.mem_of_getElem? (i := 209) rfl) rfl) ⟨(Nat.le_of_ble_eq_true rfl), (Nat.le_of_ble_eq_true rfl)⟩ hl.1 (Nat.le_of_ble_eq_true rfl) d_law_1053 rfl (fun r σX' H1 locs1 hq hPX1 hk hS1 => ?_) (Nat.le_refl _) (Nat.le_refl _)
  obtain ⟨rfl, hX1⟩ := hq
  have hPM1 := zl_keep hPM hk hd
  refine lv_aload_n hx hb d_law_1056 rfl (lv_at hl 2 rfl) ?_
  refine lv_aload_n hx hb d_law_1057 rfl (lv_at hl 0 rfl) ?_
  refine lv_iload_n hx hb d_law_1058 rfl (lv_at hl 3 rfl) ?_
  refine lv_iconst (v := 1) hx hb d_law_1059 (by decide) ?_
  refine lv_iadd hx hb d_law_1060 ?_
  refine va_sld hx hb hsc hbl hbA hS1 h1 d_law_1061 ?_
  refine zl_call (ad := adM) (sh := zshM) (N := 15) (Q' := fun r σ' => r = some (.int (c_whoLaid a (xs (i + 1).toNatClampNeg)).1) ∧ WX σ' (c_whoLaid a (xs (i + 1).toNatClampNeg)).2) hfv zshM_ok iM hx hb hml hown hts hK h0M aM hS1 hPM1 (mi := 250) rfl [.int (xs (i + 1).toNatClampNeg)] (M_whoLaid hM (fun σ' h => ⟨rfl, h⟩)) (Nat.le_of_ble_eq_true rfl) rfl (by decide) (by decide) rfl (zg7 (List.mem_of_getElem? (i := 33) rfl) rfl) ⟨(Nat.le_of_ble_eq_true rfl), (Nat.le_of_ble_eq_true rfl)⟩ hl.1 (Nat.le_of_ble_eq_true rfl) d_law_1062 rfl (fun r σM' H2 locs2 hq hPM2 hk2 hS2 => ?_) (Nat.le_refl _) (Nat.le_refl _)
  obtain ⟨rfl, hM1⟩ := hq
  have hPX2 := zl_keep hPX1 hk2 (fun i j g1 g2 e => hd j i g2 g1 e.symm)
  refine lv_icmp_eq (tgt := 1244) hx hb d_law_1065 (by decide) (fun _ => ?_) (fun h => absurd rfl h)
  exact kk _ σX' σM' H2 locs2 hX1 hM1 hPX2 hPM2 hS2
set_option maxRecDepth 20000 in
set_option maxHeartbeats 4000000 in
theorem lc_whatIs (C : zLC p l s m args c b L xs D cI adX adM fv) (hX : RX σX a) (hM : WX σM a) (hPX : va_P D vwCl (zW cI adX zshX 44 σX) H) (hPM : va_P D vwCl (zW cI adM zshM 15 σM) H) (hS : va_S (fun q : Nat => s.heap.size ≤ q) s.heap H locs) (hl : lv_has ls 4 [(0, .ref b), (1, .ref (adX 0)), (2, .ref (adM 0)), (3, .int i)]) (h1 : vp_in (i + 1) L) (h2 : vp_in (i + 2) L) (h3 : vp_in (i + 3) L) (kk : ∀ (a' : At) (σX' σM' : zG) (H' : Heap) (locs' : List Loc), RX σX' a' → WX σM' a' → va_P D vwCl (zW cI adX zshX 44 σX') H' → va_P D vwCl (zW cI adM zshM 15 σM') H' → va_S (fun q : Nat => s.heap.size ≤ q) s.heap H' locs' → W p l e room_1 s m args below meth c H' locs' 59 1154 Q (F0 m 1244 ls [])) : W p l e room_1 s m args below meth c H locs 59 1154 Q (F0 m 1070 ls []) := by
  obtain ⟨hfv, iX, iM, hd, hx, hb, hml, hown, hts, hK, h0X, h0M, aX, aM, hsc, hbl⟩ := C
  have hbA : ¬ (fun q : Nat => s.heap.size ≤ q) b := Nat.not_le.mpr hbl
  refine lv_aload_n hx hb d_law_1070 rfl (lv_at hl 1 rfl) ?_
  refine lv_aload_n hx hb d_law_1071 rfl (lv_at hl 0 rfl) ?_
  refine lv_iload_n hx hb d_law_1072 rfl (lv_at hl 3 rfl) ?_
  refine lv_iconst (v := 1) hx hb d_law_1073 (by decide) ?_
  refine lv_iadd hx hb d_law_1074 ?_
  refine va_sld hx hb hsc hbl hbA hS h1 d_law_1075 ?_
  refine lv_aload_n hx hb d_law_1076 rfl (lv_at hl 0 rfl) ?_
  refine lv_iload_n hx hb d_law_1077 rfl (lv_at hl 3 rfl) ?_
  refine lv_iconst (v := 2) hx hb d_law_1078 (by decide) ?_
  refine lv_iadd hx hb d_law_1079 ?_
  refine va_sld hx hb hsc hbl hbA hS h2 d_law_1080 ?_
  refine zl_call (ad := adX) (sh := zshX) (N := 44) (Q' := fun r σ' => r = some (.int (c_whatIs a (xs (i + 1).toNatClampNeg) (xs (i + 2).toNatClampNeg)).1) ∧ RX σ' (c_whatIs a (xs (i + 1).toNatClampNeg) (xs (i + 2).toNatClampNeg)).2) hfv zshX_ok iX hx hb hml hown hts hK h0X aX hS hPX (mi := 137) rfl [.int (xs (i + 1).toNatClampNeg), .int (xs (i + 2).toNatClampNeg)] (X_whatIs hX (fun σ' h => ⟨rfl, h⟩)) (Nat.le_of_ble_eq_true rfl) rfl (by decide) (by decide) rfl (zg4 (List.mem_of_getElem? (i := 224) rfl) rfl) ⟨(Nat.le_of_ble_eq_true rfl), (Nat.le_of_ble_eq_true rfl)⟩ hl.1 (Nat.le_of_ble_eq_true rfl) d_law_1081 rfl (fun r σX' H1 locs1 hq hPX1 hk hS1 => ?_) (Nat.le_refl _) (Nat.le_refl _)
  obtain ⟨rfl, hX1⟩ := hq
  have hPM1 := zl_keep hPM hk hd
  refine lv_aload_n hx hb d_law_1084 rfl (lv_at hl 2 rfl) ?_
  refine lv_aload_n hx hb d_law_1085 rfl (lv_at hl 0 rfl) ?_
  refine lv_iload_n hx hb d_law_1086 rfl (lv_at hl 3 rfl) ?_
  refine lv_iconst (v := 1) hx hb d_law_1087 (by decide) ?_
  refine lv_iadd hx hb d_law_1088 ?_
  refine va_sld hx hb hsc hbl hbA hS1 h1 d_law_1089 ?_
  refine lv_aload_n hx hb d_law_1090 rfl (lv_at hl 0 rfl) ?_
  refine lv_iload_n hx hb d_law_1091 rfl (lv_at hl 3 rfl) ?_
  refine lv_iconst (v := 2) hx hb d_law_1092 (by decide) ?_
  refine lv_iadd hx hb d_law_1093 ?_
  refine va_sld hx hb hsc hbl hbA hS1 h2 d_law_1094 ?_
  refine zl_call (ad := adM) (sh := zshM) (N := 15) (Q' := fun r σ' => r = some (.int (c_whatIs a (xs (i + 1).toNatClampNeg) (xs (i + 2).toNatClampNeg)).1) ∧ WX σ' (c_whatIs a (xs (i + 1).toNatClampNeg) (xs (i + 2).toNatClampNeg)).2) hfv zshM_ok iM hx hb hml hown hts hK h0M aM hS1 hPM1 (mi := 251) rfl [.int (xs (i + 1).toNatClampNeg), .int (xs (i + 2).toNatClampNeg)] (M_whatIs hM (fun σ' h => ⟨rfl, h⟩)) (Nat.le_of_ble_eq_true rfl) rfl (by decide) (by decide) rfl (zg7 (List.mem_of_getElem? (i := 45) rfl) rfl) ⟨(Nat.le_of_ble_eq_true rfl), (Nat.le_of_ble_eq_true rfl)⟩ hl.1 (Nat.le_of_ble_eq_true rfl) d_law_1095 rfl (fun r σM' H2 locs2 hq hPM2 hk2 hS2 => ?_) (Nat.le_refl _) (Nat.le_refl _)
  obtain ⟨rfl, hM1⟩ := hq
  have hPX2 := zl_keep hPX1 hk2 (fun i j g1 g2 e => hd j i g2 g1 e.symm)
  refine lv_icmp_eq (tgt := 1244) hx hb d_law_1098 (by decide) (fun _ => ?_) (fun h => absurd rfl h)
  exact kk _ σX' σM' H2 locs2 hX1 hM1 hPX2 hPM2 hS2
set_option maxRecDepth 20000 in
set_option maxHeartbeats 4000000 in
theorem lc_row (C : zLC p l s m args c b L xs D cI adX adM fv) (hX : RX σX a) (hM : WX σM a) (hPX : va_P D vwCl (zW cI adX zshX 44 σX) H) (hPM : va_P D vwCl (zW cI adM zshM 15 σM) H) (hS : va_S (fun q : Nat => s.heap.size ≤ q) s.heap H locs) (hl : lv_has ls 4 [(0, .ref b), (1, .ref (adX 0)), (2, .ref (adM 0)), (3, .int i)]) (h1 : vp_in (i + 1) L) (h2 : vp_in (i + 2) L) (h3 : vp_in (i + 3) L) (kk : ∀ (a' : At) (σX' σM' : zG) (H' : Heap) (locs' : List Loc), RX σX' a' → WX σM' a' → va_P D vwCl (zW cI adX zshX 44 σX') H' → va_P D vwCl (zW cI adM zshM 15 σM') H' → va_S (fun q : Nat => s.heap.size ≤ q) s.heap H' locs' → W p l e room_1 s m args below meth c H' locs' 59 1154 Q (F0 m 1244 ls [])) : W p l e room_1 s m args below meth c H locs 59 1154 Q (F0 m 1103 ls []) := by
  obtain ⟨hfv, iX, iM, hd, hx, hb, hml, hown, hts, hK, h0X, h0M, aX, aM, hsc, hbl⟩ := C
  have hbA : ¬ (fun q : Nat => s.heap.size ≤ q) b := Nat.not_le.mpr hbl
  refine lv_aload_n hx hb d_law_1103 rfl (lv_at hl 1 rfl) ?_
  refine lv_aload_n hx hb d_law_1104 rfl (lv_at hl 0 rfl) ?_
  refine lv_iload_n hx hb d_law_1105 rfl (lv_at hl 3 rfl) ?_
  refine lv_iconst (v := 1) hx hb d_law_1106 (by decide) ?_
  refine lv_iadd hx hb d_law_1107 ?_
  refine va_sld hx hb hsc hbl hbA hS h1 d_law_1108 ?_
  refine zl_call (ad := adX) (sh := zshX) (N := 44) (Q' := fun r σ' => r = some (.int (c_row a (xs (i + 1).toNatClampNeg)).1) ∧ RX σ' (c_row a (xs (i + 1).toNatClampNeg)).2) hfv zshX_ok iX hx hb hml hown hts hK h0X aX hS hPX (mi := 138) rfl [.int (xs (i + 1).toNatClampNeg)] (X_row hX (fun σ' h => ⟨rfl, h⟩)) (Nat.le_of_ble_eq_true rfl) rfl (by decide) (by decide) rfl (zg4 (List.mem_of_getElem? (i := 236) rfl) rfl) ⟨(Nat.le_of_ble_eq_true rfl), (Nat.le_of_ble_eq_true rfl)⟩ hl.1 (Nat.le_of_ble_eq_true rfl) d_law_1109 rfl (fun r σX' H1 locs1 hq hPX1 hk hS1 => ?_) (Nat.le_refl _) (Nat.le_refl _)
  obtain ⟨rfl, hX1⟩ := hq
  have hPM1 := zl_keep hPM hk hd
  refine lv_aload_n hx hb d_law_1112 rfl (lv_at hl 2 rfl) ?_
  refine lv_aload_n hx hb d_law_1113 rfl (lv_at hl 0 rfl) ?_
  refine lv_iload_n hx hb d_law_1114 rfl (lv_at hl 3 rfl) ?_
  refine lv_iconst (v := 1) hx hb d_law_1115 (by decide) ?_
  refine lv_iadd hx hb d_law_1116 ?_
  refine va_sld hx hb hsc hbl hbA hS1 h1 d_law_1117 ?_
  refine zl_call (ad := adM) (sh := zshM) (N := 15) (Q' := fun r σ' => r = some (.int (c_row a (xs (i + 1).toNatClampNeg)).1) ∧ WX σ' (c_row a (xs (i + 1).toNatClampNeg)).2) hfv zshM_ok iM hx hb hml hown hts hK h0M aM hS1 hPM1 (mi := 252) rfl [.int (xs (i + 1).toNatClampNeg)] (M_row hM (fun σ' h => ⟨rfl, h⟩)) (Nat.le_of_ble_eq_true rfl) rfl (by decide) (by decide) rfl (zg7 (List.mem_of_getElem? (i := 49) rfl) rfl) ⟨(Nat.le_of_ble_eq_true rfl), (Nat.le_of_ble_eq_true rfl)⟩ hl.1 (Nat.le_of_ble_eq_true rfl) d_law_1118 rfl (fun r σM' H2 locs2 hq hPM2 hk2 hS2 => ?_) (Nat.le_refl _) (Nat.le_refl _)
  obtain ⟨rfl, hM1⟩ := hq
  have hPX2 := zl_keep hPX1 hk2 (fun i j g1 g2 e => hd j i g2 g1 e.symm)
  refine lv_icmp_eq (tgt := 1244) hx hb d_law_1121 (by decide) (fun _ => ?_) (fun h => absurd rfl h)
  exact kk _ σX' σM' H2 locs2 hX1 hM1 hPX2 hPM2 hS2
set_option maxRecDepth 20000 in
set_option maxHeartbeats 4000000 in
theorem lc_judge (C : zLC p l s m args c b L xs D cI adX adM fv) (hX : RX σX a) (hM : WX σM a) (hPX : va_P D vwCl (zW cI adX zshX 44 σX) H) (hPM : va_P D vwCl (zW cI adM zshM 15 σM) H) (hS : va_S (fun q : Nat => s.heap.size ≤ q) s.heap H locs) (hl : lv_has ls 4 [(0, .ref b), (1, .ref (adX 0)), (2, .ref (adM 0)), (3, .int i)]) (h1 : vp_in (i + 1) L) (h2 : vp_in (i + 2) L) (h3 : vp_in (i + 3) L) (kk : ∀ (a' : At) (σX' σM' : zG) (H' : Heap) (locs' : List Loc), RX σX' a' → WX σM' a' → va_P D vwCl (zW cI adX zshX 44 σX') H' → va_P D vwCl (zW cI adM zshM 15 σM') H' → va_S (fun q : Nat => s.heap.size ≤ q) s.heap H' locs' → W p l e room_1 s m args below meth c H' locs' 59 1154 Q (F0 m 1244 ls [])) : W p l e room_1 s m args below meth c H locs 59 1154 Q (F0 m 1126 ls []) := by
  obtain ⟨hfv, iX, iM, hd, hx, hb, hml, hown, hts, hK, h0X, h0M, aX, aM, hsc, hbl⟩ := C
  have hbA : ¬ (fun q : Nat => s.heap.size ≤ q) b := Nat.not_le.mpr hbl
  refine lv_aload_n hx hb d_law_1126 rfl (lv_at hl 1 rfl) ?_
  refine zl_call (ad := adX) (sh := zshX) (N := 44) (Q' := fun r σ' => r = some (.int (c_judge a).1) ∧ RX σ' (c_judge a).2) hfv zshX_ok iX hx hb hml hown hts hK h0X aX hS hPX (mi := 139) rfl [] (X_judge hX (fun σ' h => ⟨rfl, h⟩)) (Nat.le_of_ble_eq_true rfl) rfl (by decide) (by decide) rfl (zg5 (List.mem_of_getElem? (i := 12) rfl) rfl) ⟨(Nat.le_of_ble_eq_true rfl), (Nat.le_of_ble_eq_true rfl)⟩ hl.1 (Nat.le_of_ble_eq_true rfl) d_law_1127 rfl (fun r σX' H1 locs1 hq hPX1 hk hS1 => ?_) (Nat.le_refl _) (Nat.le_refl _)
  obtain ⟨rfl, hX1⟩ := hq
  have hPM1 := zl_keep hPM hk hd
  refine lv_aload_n hx hb d_law_1130 rfl (lv_at hl 2 rfl) ?_
  refine zl_call (ad := adM) (sh := zshM) (N := 15) (Q' := fun r σ' => r = some (.int (c_judge a).1) ∧ WX σ' (c_judge a).2) hfv zshM_ok iM hx hb hml hown hts hK h0M aM hS1 hPM1 (mi := 253) rfl [] (M_judge hM (fun σ' h => ⟨rfl, h⟩)) (Nat.le_of_ble_eq_true rfl) rfl (by decide) (by decide) rfl (zg7 (List.mem_of_getElem? (i := 53) rfl) rfl) ⟨(Nat.le_of_ble_eq_true rfl), (Nat.le_of_ble_eq_true rfl)⟩ hl.1 (Nat.le_of_ble_eq_true rfl) d_law_1131 rfl (fun r σM' H2 locs2 hq hPM2 hk2 hS2 => ?_) (Nat.le_refl _) (Nat.le_refl _)
  obtain ⟨rfl, hM1⟩ := hq
  have hPX2 := zl_keep hPX1 hk2 (fun i j g1 g2 e => hd j i g2 g1 e.symm)
  refine lv_icmp_eq (tgt := 1244) hx hb d_law_1134 (by decide) (fun _ => ?_) (fun h => absurd rfl h)
  exact kk _ σX' σM' H2 locs2 hX1 hM1 hPX2 hPM2 hS2
set_option maxRecDepth 20000 in
set_option maxHeartbeats 4000000 in
theorem lc_clear (C : zLC p l s m args c b L xs D cI adX adM fv) (hX : RX σX a) (hM : WX σM a) (hPX : va_P D vwCl (zW cI adX zshX 44 σX) H) (hPM : va_P D vwCl (zW cI adM zshM 15 σM) H) (hS : va_S (fun q : Nat => s.heap.size ≤ q) s.heap H locs) (hl : lv_has ls 4 [(0, .ref b), (1, .ref (adX 0)), (2, .ref (adM 0)), (3, .int i)]) (h1 : vp_in (i + 1) L) (h2 : vp_in (i + 2) L) (h3 : vp_in (i + 3) L) (kk : ∀ (a' : At) (σX' σM' : zG) (H' : Heap) (locs' : List Loc), RX σX' a' → WX σM' a' → va_P D vwCl (zW cI adX zshX 44 σX') H' → va_P D vwCl (zW cI adM zshM 15 σM') H' → va_S (fun q : Nat => s.heap.size ≤ q) s.heap H' locs' → W p l e room_1 s m args below meth c H' locs' 59 1154 Q (F0 m 1244 ls [])) : W p l e room_1 s m args below meth c H locs 59 1154 Q (F0 m 1139 ls []) := by
  obtain ⟨hfv, iX, iM, hd, hx, hb, hml, hown, hts, hK, h0X, h0M, aX, aM, hsc, hbl⟩ := C
  have hbA : ¬ (fun q : Nat => s.heap.size ≤ q) b := Nat.not_le.mpr hbl
  refine lv_aload_n hx hb d_law_1139 rfl (lv_at hl 1 rfl) ?_
  refine zl_call (ad := adX) (sh := zshX) (N := 44) (Q' := fun r σ' => r = some (.int (c_clear a).1) ∧ RX σ' (c_clear a).2) hfv zshX_ok iX hx hb hml hown hts hK h0X aX hS hPX (mi := 140) rfl [] (X_clear hX (fun σ' h => ⟨rfl, h⟩)) (Nat.le_of_ble_eq_true rfl) rfl (by decide) (by decide) rfl (zg5 (List.mem_of_getElem? (i := 26) rfl) rfl) ⟨(Nat.le_of_ble_eq_true rfl), (Nat.le_of_ble_eq_true rfl)⟩ hl.1 (Nat.le_of_ble_eq_true rfl) d_law_1140 rfl (fun r σX' H1 locs1 hq hPX1 hk hS1 => ?_) (Nat.le_refl _) (Nat.le_refl _)
  obtain ⟨rfl, hX1⟩ := hq
  have hPM1 := zl_keep hPM hk hd
  refine lv_aload_n hx hb d_law_1143 rfl (lv_at hl 2 rfl) ?_
  refine zl_call (ad := adM) (sh := zshM) (N := 15) (Q' := fun r σ' => r = some (.int (c_clear a).1) ∧ WX σ' (c_clear a).2) hfv zshM_ok iM hx hb hml hown hts hK h0M aM hS1 hPM1 (mi := 254) rfl [] (M_clear hM (fun σ' h => ⟨rfl, h⟩)) (Nat.le_of_ble_eq_true rfl) rfl (by decide) (by decide) rfl (zg7 (List.mem_of_getElem? (i := 57) rfl) rfl) ⟨(Nat.le_of_ble_eq_true rfl), (Nat.le_of_ble_eq_true rfl)⟩ hl.1 (Nat.le_of_ble_eq_true rfl) d_law_1144 rfl (fun r σM' H2 locs2 hq hPM2 hk2 hS2 => ?_) (Nat.le_refl _) (Nat.le_refl _)
  obtain ⟨rfl, hM1⟩ := hq
  have hPX2 := zl_keep hPX1 hk2 (fun i j g1 g2 e => hd j i g2 g1 e.symm)
  refine lv_icmp_eq (tgt := 1244) hx hb d_law_1147 (by decide) (fun _ => ?_) (fun h => absurd rfl h)
  exact kk _ σX' σM' H2 locs2 hX1 hM1 hPX2 hPM2 hS2
set_option maxRecDepth 20000 in
set_option maxHeartbeats 4000000 in
theorem lc_lots (C : zLC p l s m args c b L xs D cI adX adM fv) (hX : RX σX a) (hM : WX σM a) (hPX : va_P D vwCl (zW cI adX zshX 44 σX) H) (hPM : va_P D vwCl (zW cI adM zshM 15 σM) H) (hS : va_S (fun q : Nat => s.heap.size ≤ q) s.heap H locs) (hl : lv_has ls 4 [(0, .ref b), (1, .ref (adX 0)), (2, .ref (adM 0)), (3, .int i)]) (h1 : vp_in (i + 1) L) (h2 : vp_in (i + 2) L) (h3 : vp_in (i + 3) L) (kk : ∀ (a' : At) (σX' σM' : zG) (H' : Heap) (locs' : List Loc), RX σX' a' → WX σM' a' → va_P D vwCl (zW cI adX zshX 44 σX') H' → va_P D vwCl (zW cI adM zshM 15 σM') H' → va_S (fun q : Nat => s.heap.size ≤ q) s.heap H' locs' → W p l e room_1 s m args below meth c H' locs' 59 1154 Q (F0 m 1244 ls [])) : W p l e room_1 s m args below meth c H locs 59 1154 Q (F0 m 1152 ls []) := by
  obtain ⟨hfv, iX, iM, hd, hx, hb, hml, hown, hts, hK, h0X, h0M, aX, aM, hsc, hbl⟩ := C
  have hbA : ¬ (fun q : Nat => s.heap.size ≤ q) b := Nat.not_le.mpr hbl
  refine lv_aload_n hx hb d_law_1152 rfl (lv_at hl 1 rfl) ?_
  refine lv_aload_n hx hb d_law_1153 rfl (lv_at hl 0 rfl) ?_
  refine lv_iload_n hx hb d_law_1154 rfl (lv_at hl 3 rfl) ?_
  refine lv_iconst (v := 1) hx hb d_law_1155 (by decide) ?_
  refine lv_iadd hx hb d_law_1156 ?_
  refine va_sld hx hb hsc hbl hbA hS h1 d_law_1157 ?_
  refine lv_aload_n hx hb d_law_1158 rfl (lv_at hl 0 rfl) ?_
  refine lv_iload_n hx hb d_law_1159 rfl (lv_at hl 3 rfl) ?_
  refine lv_iconst (v := 2) hx hb d_law_1160 (by decide) ?_
  refine lv_iadd hx hb d_law_1161 ?_
  refine va_sld hx hb hsc hbl hbA hS h2 d_law_1162 ?_
  refine lv_aload_n hx hb d_law_1163 rfl (lv_at hl 0 rfl) ?_
  refine lv_iload_n hx hb d_law_1164 rfl (lv_at hl 3 rfl) ?_
  refine lv_iconst (v := 3) hx hb d_law_1165 (by decide) ?_
  refine lv_iadd hx hb d_law_1166 ?_
  refine va_sld hx hb hsc hbl hbA hS h3 d_law_1167 ?_
  refine zl_call (ad := adX) (sh := zshX) (N := 44) (Q' := fun r σ' => r = some (.int (c_lots a (xs (i + 1).toNatClampNeg) (xs (i + 2).toNatClampNeg) (xs (i + 3).toNatClampNeg)).1) ∧ RX σ' (c_lots a (xs (i + 1).toNatClampNeg) (xs (i + 2).toNatClampNeg) (xs (i + 3).toNatClampNeg)).2) hfv zshX_ok iX hx hb hml hown hts hK h0X aX hS hPX (mi := 141) rfl [.int (xs (i + 1).toNatClampNeg), .int (xs (i + 2).toNatClampNeg), .int (xs (i + 3).toNatClampNeg)] (X_lots hX (fun σ' h => ⟨rfl, h⟩)) (Nat.le_of_ble_eq_true rfl) rfl (by decide) (by decide) rfl (zg5 (List.mem_of_getElem? (i := 30) rfl) rfl) ⟨(Nat.le_of_ble_eq_true rfl), (Nat.le_of_ble_eq_true rfl)⟩ hl.1 (Nat.le_of_ble_eq_true rfl) d_law_1168 rfl (fun r σX' H1 locs1 hq hPX1 hk hS1 => ?_) (Nat.le_refl _) (Nat.le_refl _)
  obtain ⟨rfl, hX1⟩ := hq
  have hPM1 := zl_keep hPM hk hd
  refine lv_aload_n hx hb d_law_1171 rfl (lv_at hl 2 rfl) ?_
  refine lv_aload_n hx hb d_law_1172 rfl (lv_at hl 0 rfl) ?_
  refine lv_iload_n hx hb d_law_1173 rfl (lv_at hl 3 rfl) ?_
  refine lv_iconst (v := 1) hx hb d_law_1174 (by decide) ?_
  refine lv_iadd hx hb d_law_1175 ?_
  refine va_sld hx hb hsc hbl hbA hS1 h1 d_law_1176 ?_
  refine lv_aload_n hx hb d_law_1177 rfl (lv_at hl 0 rfl) ?_
  refine lv_iload_n hx hb d_law_1178 rfl (lv_at hl 3 rfl) ?_
  refine lv_iconst (v := 2) hx hb d_law_1179 (by decide) ?_
  refine lv_iadd hx hb d_law_1180 ?_
  refine va_sld hx hb hsc hbl hbA hS1 h2 d_law_1181 ?_
  refine lv_aload_n hx hb d_law_1182 rfl (lv_at hl 0 rfl) ?_
  refine lv_iload_n hx hb d_law_1183 rfl (lv_at hl 3 rfl) ?_
  refine lv_iconst (v := 3) hx hb d_law_1184 (by decide) ?_
  refine lv_iadd hx hb d_law_1185 ?_
  refine va_sld hx hb hsc hbl hbA hS1 h3 d_law_1186 ?_
  refine zl_call (ad := adM) (sh := zshM) (N := 15) (Q' := fun r σ' => r = some (.int (c_lots a (xs (i + 1).toNatClampNeg) (xs (i + 2).toNatClampNeg) (xs (i + 3).toNatClampNeg)).1) ∧ WX σ' (c_lots a (xs (i + 1).toNatClampNeg) (xs (i + 2).toNatClampNeg) (xs (i + 3).toNatClampNeg)).2) hfv zshM_ok iM hx hb hml hown hts hK h0M aM hS1 hPM1 (mi := 256) rfl [.int (xs (i + 1).toNatClampNeg), .int (xs (i + 2).toNatClampNeg), .int (xs (i + 3).toNatClampNeg)] (M_lots hM (fun σ' h => ⟨rfl, h⟩)) (Nat.le_of_ble_eq_true rfl) rfl (by decide) (by decide) rfl (zg7 (List.mem_of_getElem? (i := 61) rfl) rfl) ⟨(Nat.le_of_ble_eq_true rfl), (Nat.le_of_ble_eq_true rfl)⟩ hl.1 (Nat.le_of_ble_eq_true rfl) d_law_1187 rfl (fun r σM' H2 locs2 hq hPM2 hk2 hS2 => ?_) (Nat.le_refl _) (Nat.le_refl _)
  obtain ⟨rfl, hM1⟩ := hq
  have hPX2 := zl_keep hPX1 hk2 (fun i j g1 g2 e => hd j i g2 g1 e.symm)
  refine lv_icmp_eq (tgt := 1244) hx hb d_law_1190 (by decide) (fun _ => ?_) (fun h => absurd rfl h)
  exact kk _ σX' σM' H2 locs2 hX1 hM1 hPX2 hPM2 hS2
set_option maxRecDepth 20000 in
set_option maxHeartbeats 4000000 in
theorem lc_image (C : zLC p l s m args c b L xs D cI adX adM fv) (hX : RX σX a) (hM : WX σM a) (hPX : va_P D vwCl (zW cI adX zshX 44 σX) H) (hPM : va_P D vwCl (zW cI adM zshM 15 σM) H) (hS : va_S (fun q : Nat => s.heap.size ≤ q) s.heap H locs) (hl : lv_has ls 4 [(0, .ref b), (1, .ref (adX 0)), (2, .ref (adM 0)), (3, .int i)]) (h1 : vp_in (i + 1) L) (h2 : vp_in (i + 2) L) (h3 : vp_in (i + 3) L) (kk : ∀ (a' : At) (σX' σM' : zG) (H' : Heap) (locs' : List Loc), RX σX' a' → WX σM' a' → va_P D vwCl (zW cI adX zshX 44 σX') H' → va_P D vwCl (zW cI adM zshM 15 σM') H' → va_S (fun q : Nat => s.heap.size ≤ q) s.heap H' locs' → W p l e room_1 s m args below meth c H' locs' 59 1154 Q (F0 m 1244 ls [])) : W p l e room_1 s m args below meth c H locs 59 1154 Q (F0 m 1195 ls []) := by
  obtain ⟨hfv, iX, iM, hd, hx, hb, hml, hown, hts, hK, h0X, h0M, aX, aM, hsc, hbl⟩ := C
  have hbA : ¬ (fun q : Nat => s.heap.size ≤ q) b := Nat.not_le.mpr hbl
  refine lv_aload_n hx hb d_law_1195 rfl (lv_at hl 1 rfl) ?_
  refine zl_call (ad := adX) (sh := zshX) (N := 44) (Q' := fun r σ' => r = some (.int (c_image a).1) ∧ RX σ' (c_image a).2) hfv zshX_ok iX hx hb hml hown hts hK h0X aX hS hPX (mi := 142) rfl [] (X_image hX (fun σ' h => ⟨rfl, h⟩)) (Nat.le_of_ble_eq_true rfl) rfl (by decide) (by decide) rfl (zg5 (List.mem_of_getElem? (i := 63) rfl) rfl) ⟨(Nat.le_of_ble_eq_true rfl), (Nat.le_of_ble_eq_true rfl)⟩ hl.1 (Nat.le_of_ble_eq_true rfl) d_law_1196 rfl (fun r σX' H1 locs1 hq hPX1 hk hS1 => ?_) (Nat.le_refl _) (Nat.le_refl _)
  obtain ⟨rfl, hX1⟩ := hq
  have hPM1 := zl_keep hPM hk hd
  refine lv_aload_n hx hb d_law_1199 rfl (lv_at hl 2 rfl) ?_
  refine zl_call (ad := adM) (sh := zshM) (N := 15) (Q' := fun r σ' => r = some (.int (c_image a).1) ∧ WX σ' (c_image a).2) hfv zshM_ok iM hx hb hml hown hts hK h0M aM hS1 hPM1 (mi := 186) rfl [] (M_image hM (fun σ' h => ⟨rfl, h⟩)) (Nat.le_of_ble_eq_true rfl) rfl (by decide) (by decide) rfl (zg6 (List.mem_of_getElem? (i := 20) rfl) rfl) ⟨(Nat.le_of_ble_eq_true rfl), (Nat.le_of_ble_eq_true rfl)⟩ hl.1 (Nat.le_of_ble_eq_true rfl) d_law_1200 rfl (fun r σM' H2 locs2 hq hPM2 hk2 hS2 => ?_) (Nat.le_refl _) (Nat.le_refl _)
  obtain ⟨rfl, hM1⟩ := hq
  have hPX2 := zl_keep hPX1 hk2 (fun i j g1 g2 e => hd j i g2 g1 e.symm)
  refine lv_icmp_eq (tgt := 1244) hx hb d_law_1203 (by decide) (fun _ => ?_) (fun h => absurd rfl h)
  exact kk _ σX' σM' H2 locs2 hX1 hM1 hPX2 hPM2 hS2
set_option maxRecDepth 20000 in
set_option maxHeartbeats 4000000 in
theorem lc_on (C : zLC p l s m args c b L xs D cI adX adM fv) (hX : RX σX a) (hM : WX σM a) (hPX : va_P D vwCl (zW cI adX zshX 44 σX) H) (hPM : va_P D vwCl (zW cI adM zshM 15 σM) H) (hS : va_S (fun q : Nat => s.heap.size ≤ q) s.heap H locs) (hl : lv_has ls 4 [(0, .ref b), (1, .ref (adX 0)), (2, .ref (adM 0)), (3, .int i)]) (h1 : vp_in (i + 1) L) (h2 : vp_in (i + 2) L) (h3 : vp_in (i + 3) L) (kk : ∀ (a' : At) (σX' σM' : zG) (H' : Heap) (locs' : List Loc), RX σX' a' → WX σM' a' → va_P D vwCl (zW cI adX zshX 44 σX') H' → va_P D vwCl (zW cI adM zshM 15 σM') H' → va_S (fun q : Nat => s.heap.size ≤ q) s.heap H' locs' → W p l e room_1 s m args below meth c H' locs' 59 1154 Q (F0 m 1244 ls [])) : W p l e room_1 s m args below meth c H locs 59 1154 Q (F0 m 1208 ls []) := by
  obtain ⟨hfv, iX, iM, hd, hx, hb, hml, hown, hts, hK, h0X, h0M, aX, aM, hsc, hbl⟩ := C
  have hbA : ¬ (fun q : Nat => s.heap.size ≤ q) b := Nat.not_le.mpr hbl
  refine lv_aload_n hx hb d_law_1208 rfl (lv_at hl 1 rfl) ?_
  refine zl_call (ad := adX) (sh := zshX) (N := 44) (Q' := fun r σ' => r = some (.int (c_on a).1) ∧ RX σ' (c_on a).2) hfv zshX_ok iX hx hb hml hown hts hK h0X aX hS hPX (mi := 143) rfl [] (X_on hX (fun σ' h => ⟨rfl, h⟩)) (Nat.le_of_ble_eq_true rfl) rfl (by decide) (by decide) rfl (zg5 (List.mem_of_getElem? (i := 67) rfl) rfl) ⟨(Nat.le_of_ble_eq_true rfl), (Nat.le_of_ble_eq_true rfl)⟩ hl.1 (Nat.le_of_ble_eq_true rfl) d_law_1209 rfl (fun r σX' H1 locs1 hq hPX1 hk hS1 => ?_) (Nat.le_refl _) (Nat.le_refl _)
  obtain ⟨rfl, hX1⟩ := hq
  have hPM1 := zl_keep hPM hk hd
  refine lv_aload_n hx hb d_law_1212 rfl (lv_at hl 2 rfl) ?_
  refine zl_call (ad := adM) (sh := zshM) (N := 15) (Q' := fun r σ' => r = some (.int (c_on a).1) ∧ WX σ' (c_on a).2) hfv zshM_ok iM hx hb hml hown hts hK h0M aM hS1 hPM1 (mi := 187) rfl [] (M_on hM (fun σ' h => ⟨rfl, h⟩)) (Nat.le_of_ble_eq_true rfl) rfl (by decide) (by decide) rfl (zg6 (List.mem_of_getElem? (i := 24) rfl) rfl) ⟨(Nat.le_of_ble_eq_true rfl), (Nat.le_of_ble_eq_true rfl)⟩ hl.1 (Nat.le_of_ble_eq_true rfl) d_law_1213 rfl (fun r σM' H2 locs2 hq hPM2 hk2 hS2 => ?_) (Nat.le_refl _) (Nat.le_refl _)
  obtain ⟨rfl, hM1⟩ := hq
  have hPX2 := zl_keep hPX1 hk2 (fun i j g1 g2 e => hd j i g2 g1 e.symm)
  refine lv_icmp_eq (tgt := 1244) hx hb d_law_1216 (by decide) (fun _ => ?_) (fun h => absurd rfl h)
  exact kk _ σX' σM' H2 locs2 hX1 hM1 hPX2 hPM2 hS2
set_option maxRecDepth 20000 in
set_option maxHeartbeats 4000000 in
theorem lc_count (C : zLC p l s m args c b L xs D cI adX adM fv) (hX : RX σX a) (hM : WX σM a) (hPX : va_P D vwCl (zW cI adX zshX 44 σX) H) (hPM : va_P D vwCl (zW cI adM zshM 15 σM) H) (hS : va_S (fun q : Nat => s.heap.size ≤ q) s.heap H locs) (hl : lv_has ls 4 [(0, .ref b), (1, .ref (adX 0)), (2, .ref (adM 0)), (3, .int i)]) (h1 : vp_in (i + 1) L) (h2 : vp_in (i + 2) L) (h3 : vp_in (i + 3) L) (kk : ∀ (a' : At) (σX' σM' : zG) (H' : Heap) (locs' : List Loc), RX σX' a' → WX σM' a' → va_P D vwCl (zW cI adX zshX 44 σX') H' → va_P D vwCl (zW cI adM zshM 15 σM') H' → va_S (fun q : Nat => s.heap.size ≤ q) s.heap H' locs' → W p l e room_1 s m args below meth c H' locs' 59 1154 Q (F0 m 1244 ls [])) : W p l e room_1 s m args below meth c H locs 59 1154 Q (F0 m 1221 ls []) := by
  obtain ⟨hfv, iX, iM, hd, hx, hb, hml, hown, hts, hK, h0X, h0M, aX, aM, hsc, hbl⟩ := C
  have hbA : ¬ (fun q : Nat => s.heap.size ≤ q) b := Nat.not_le.mpr hbl
  refine lv_aload_n hx hb d_law_1221 rfl (lv_at hl 1 rfl) ?_
  refine lv_aload_n hx hb d_law_1222 rfl (lv_at hl 0 rfl) ?_
  refine lv_iload_n hx hb d_law_1223 rfl (lv_at hl 3 rfl) ?_
  refine lv_iconst (v := 1) hx hb d_law_1224 (by decide) ?_
  refine lv_iadd hx hb d_law_1225 ?_
  refine va_sld hx hb hsc hbl hbA hS h1 d_law_1226 ?_
  refine zl_call (ad := adX) (sh := zshX) (N := 44) (Q' := fun r σ' => r = some (.int (c_count a (xs (i + 1).toNatClampNeg)).1) ∧ RX σ' (c_count a (xs (i + 1).toNatClampNeg)).2) hfv zshX_ok iX hx hb hml hown hts hK h0X aX hS hPX (mi := 144) rfl [.int (xs (i + 1).toNatClampNeg)] (X_count hX (fun σ' h => ⟨rfl, h⟩)) (Nat.le_of_ble_eq_true rfl) rfl (by decide) (by decide) rfl (zg5 (List.mem_of_getElem? (i := 71) rfl) rfl) ⟨(Nat.le_of_ble_eq_true rfl), (Nat.le_of_ble_eq_true rfl)⟩ hl.1 (Nat.le_of_ble_eq_true rfl) d_law_1227 rfl (fun r σX' H1 locs1 hq hPX1 hk hS1 => ?_) (Nat.le_refl _) (Nat.le_refl _)
  obtain ⟨rfl, hX1⟩ := hq
  have hPM1 := zl_keep hPM hk hd
  refine lv_aload_n hx hb d_law_1230 rfl (lv_at hl 2 rfl) ?_
  refine lv_aload_n hx hb d_law_1231 rfl (lv_at hl 0 rfl) ?_
  refine lv_iload_n hx hb d_law_1232 rfl (lv_at hl 3 rfl) ?_
  refine lv_iconst (v := 1) hx hb d_law_1233 (by decide) ?_
  refine lv_iadd hx hb d_law_1234 ?_
  refine va_sld hx hb hsc hbl hbA hS1 h1 d_law_1235 ?_
  refine zl_call (ad := adM) (sh := zshM) (N := 15) (Q' := fun r σ' => r = some (.int (c_count a (xs (i + 1).toNatClampNeg)).1) ∧ WX σ' (c_count a (xs (i + 1).toNatClampNeg)).2) hfv zshM_ok iM hx hb hml hown hts hK h0M aM hS1 hPM1 (mi := 259) rfl [.int (xs (i + 1).toNatClampNeg)] (M_count hM (fun σ' h => ⟨rfl, h⟩)) (Nat.le_of_ble_eq_true rfl) rfl (by decide) (by decide) rfl (zg7 (List.mem_of_getElem? (i := 72) rfl) rfl) ⟨(Nat.le_of_ble_eq_true rfl), (Nat.le_of_ble_eq_true rfl)⟩ hl.1 (Nat.le_of_ble_eq_true rfl) d_law_1236 rfl (fun r σM' H2 locs2 hq hPM2 hk2 hS2 => ?_) (Nat.le_refl _) (Nat.le_refl _)
  obtain ⟨rfl, hM1⟩ := hq
  have hPX2 := zl_keep hPX1 hk2 (fun i j g1 g2 e => hd j i g2 g1 e.symm)
  refine lv_icmp_eq (tgt := 1244) hx hb d_law_1239 (by decide) (fun _ => ?_) (fun h => absurd rfl h)
  exact kk _ σX' σM' H2 locs2 hX1 hM1 hPX2 hPM2 hS2
end
