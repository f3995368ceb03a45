section
variable {p : Program} {l : Launch} {e : Env} {s : State} {m : MethodId} {args : Array Value} {below : List Frame} {meth : Method} {c : Code} {H : Heap} {locs : List Loc} {Q : State → Prop} {ls : Array Slot} {D : va_G} {cI : ClassId} {adX adM : Nat → Nat} {fv : Value} {b L : Nat} {xs : Nat → Int32} {a : At} {σX σM : zG} {i : Int32}
set_option maxRecDepth 20000 in
set_option maxHeartbeats 4000000 in
theorem lc_up (C : zLC p l s m args c b L xs D cI adX adM fv) (hX : RX σX a) (hM : WX σM a) (hPX : va_P D vwCl (zW cI adX zshX 44 σX) H) (hPM : va_P D vwCl (zW cI adM zshM 15 σM) H) (hS : va_S (fun q : Nat => s.heap.size ≤ q) s.heap H locs) (hl : lv_has ls 4 [(0, .ref b), (1, .ref (adX 0)), (2, .ref (adM 0)), (3, .int i)]) (h1 : vp_in (i + 1) L) (h2 : vp_in (i + 2) L) (h3 : vp_in (i + 3) L) (kk : ∀ (a' : At) (σX' σM' : zG) (H' : Heap) (locs' : List Loc), RX σX' a' → WX σM' a' → va_P D vwCl (zW cI adX zshX 44 σX') H' → va_P D vwCl (zW cI adM zshM 15 σM') H' → va_S (fun q : Nat => s.heap.size ≤ q) s.heap H' locs' → W p l e room_1 s m args below meth c H' locs' 59 1154 Q (F0 m 1244 ls [])) : W p l e room_1 s m args below meth c H locs 59 1154 Q (F0 m 684 ls []) := by
  obtain ⟨hfv, iX, iM, hd, hx, hb, hml, hown, hts, hK, h0X, h0M, aX, aM, hsc, hbl⟩ := C
  have hbA : ¬ (fun q : Nat => s.heap.size ≤ q) b := Nat.not_le.mpr hbl
  refine lv_aload_n hx hb d_law_684 rfl (lv_at hl 1 rfl) ?_
  refine lv_aload_n hx hb d_law_685 rfl (lv_at hl 0 rfl) ?_
  refine lv_iload_n hx hb d_law_686 rfl (lv_at hl 3 rfl) ?_
  refine lv_iconst (v := 1) hx hb d_law_687 (by decide) ?_
  refine lv_iadd hx hb d_law_688 ?_
  refine va_sld hx hb hsc hbl hbA hS h1 d_law_689 ?_
  refine zl_call (ad := adX) (sh := zshX) (N := 44) (Q' := fun r σ' => r = some (.int (c_up a (xs (i + 1).toNatClampNeg)).1) ∧ RX σ' (c_up a (xs (i + 1).toNatClampNeg)).2) hfv zshX_ok iX hx hb hml hown hts hK h0X aX hS hPX (mi := 119) rfl [.int (xs (i + 1).toNatClampNeg)] (X_up hX (fun σ' h => ⟨rfl, h⟩)) (Nat.le_of_ble_eq_true rfl) rfl (by decide) (by decide) rfl (zg3 (List.mem_of_getElem? (i := 208) rfl) rfl) ⟨(Nat.le_of_ble_eq_true rfl), (Nat.le_of_ble_eq_true rfl)⟩ hl.1 (Nat.le_of_ble_eq_true rfl) d_law_690 rfl (fun r σX' H1 locs1 hq hPX1 hk hS1 => ?_) (Nat.le_refl _) (Nat.le_refl _)
  obtain ⟨rfl, hX1⟩ := hq
  have hPM1 := zl_keep hPM hk hd
  refine lv_aload_n hx hb d_law_693 rfl (lv_at hl 2 rfl) ?_
  refine lv_aload_n hx hb d_law_694 rfl (lv_at hl 0 rfl) ?_
  refine lv_iload_n hx hb d_law_695 rfl (lv_at hl 3 rfl) ?_
  refine lv_iconst (v := 1) hx hb d_law_696 (by decide) ?_
  refine lv_iadd hx hb d_law_697 ?_
  refine va_sld hx hb hsc hbl hbA hS1 h1 d_law_698 ?_
  refine zl_call (ad := adM) (sh := zshM) (N := 15) (Q' := fun r σ' => r = some (.int (c_up a (xs (i + 1).toNatClampNeg)).1) ∧ WX σ' (c_up a (xs (i + 1).toNatClampNeg)).2) hfv zshM_ok iM hx hb hml hown hts hK h0M aM hS1 hPM1 (mi := 219) rfl [.int (xs (i + 1).toNatClampNeg)] (M_up hM (fun σ' h => ⟨rfl, h⟩)) (Nat.le_of_ble_eq_true rfl) rfl (by decide) (by decide) rfl (zg6 (List.mem_of_getElem? (i := 148) rfl) rfl) ⟨(Nat.le_of_ble_eq_true rfl), (Nat.le_of_ble_eq_true rfl)⟩ hl.1 (Nat.le_of_ble_eq_true rfl) d_law_699 rfl (fun r σM' H2 locs2 hq hPM2 hk2 hS2 => ?_) (Nat.le_refl _) (Nat.le_refl _)
  obtain ⟨rfl, hM1⟩ := hq
  have hPX2 := zl_keep hPX1 hk2 (fun i j g1 g2 e => hd j i g2 g1 e.symm)
  refine lv_icmp_eq (tgt := 1244) hx hb d_law_702 (by decide) (fun _ => ?_) (fun h => absurd rfl h)
  exact kk _ σX' σM' H2 locs2 hX1 hM1 hPX2 hPM2 hS2
set_option maxRecDepth 20000 in
set_option maxHeartbeats 4000000 in
theorem lc_next (C : zLC p l s m args c b L xs D cI adX adM fv) (hX : RX σX a) (hM : WX σM a) (hPX : va_P D vwCl (zW cI adX zshX 44 σX) H) (hPM : va_P D vwCl (zW cI adM zshM 15 σM) H) (hS : va_S (fun q : Nat => s.heap.size ≤ q) s.heap H locs) (hl : lv_has ls 4 [(0, .ref b), (1, .ref (adX 0)), (2, .ref (adM 0)), (3, .int i)]) (h1 : vp_in (i + 1) L) (h2 : vp_in (i + 2) L) (h3 : vp_in (i + 3) L) (kk : ∀ (a' : At) (σX' σM' : zG) (H' : Heap) (locs' : List Loc), RX σX' a' → WX σM' a' → va_P D vwCl (zW cI adX zshX 44 σX') H' → va_P D vwCl (zW cI adM zshM 15 σM') H' → va_S (fun q : Nat => s.heap.size ≤ q) s.heap H' locs' → W p l e room_1 s m args below meth c H' locs' 59 1154 Q (F0 m 1244 ls [])) : W p l e room_1 s m args below meth c H locs 59 1154 Q (F0 m 707 ls []) := by
  obtain ⟨hfv, iX, iM, hd, hx, hb, hml, hown, hts, hK, h0X, h0M, aX, aM, hsc, hbl⟩ := C
  have hbA : ¬ (fun q : Nat => s.heap.size ≤ q) b := Nat.not_le.mpr hbl
  refine lv_aload_n hx hb d_law_707 rfl (lv_at hl 1 rfl) ?_
  refine lv_aload_n hx hb d_law_708 rfl (lv_at hl 0 rfl) ?_
  refine lv_iload_n hx hb d_law_709 rfl (lv_at hl 3 rfl) ?_
  refine lv_iconst (v := 1) hx hb d_law_710 (by decide) ?_
  refine lv_iadd hx hb d_law_711 ?_
  refine va_sld hx hb hsc hbl hbA hS h1 d_law_712 ?_
  refine zl_call (ad := adX) (sh := zshX) (N := 44) (Q' := fun r σ' => r = some (.int (c_next a (xs (i + 1).toNatClampNeg)).1) ∧ RX σ' (c_next a (xs (i + 1).toNatClampNeg)).2) hfv zshX_ok iX hx hb hml hown hts hK h0X aX hS hPX (mi := 120) rfl [.int (xs (i + 1).toNatClampNeg)] (X_next hX (fun σ' h => ⟨rfl, h⟩)) (Nat.le_of_ble_eq_true rfl) rfl (by decide) (by decide) rfl (zg3 (List.mem_of_getElem? (i := 223) rfl) rfl) ⟨(Nat.le_of_ble_eq_true rfl), (Nat.le_of_ble_eq_true rfl)⟩ hl.1 (Nat.le_of_ble_eq_true rfl) d_law_713 rfl (fun r σX' H1 locs1 hq hPX1 hk hS1 => ?_) (Nat.le_refl _) (Nat.le_refl _)
  obtain ⟨rfl, hX1⟩ := hq
  have hPM1 := zl_keep hPM hk hd
  refine lv_aload_n hx hb d_law_716 rfl (lv_at hl 2 rfl) ?_
  refine lv_aload_n hx hb d_law_717 rfl (lv_at hl 0 rfl) ?_
  refine lv_iload_n hx hb d_law_718 rfl (lv_at hl 3 rfl) ?_
  refine lv_iconst (v := 1) hx hb d_law_719 (by decide) ?_
  refine lv_iadd hx hb d_law_720 ?_
  refine va_sld hx hb hsc hbl hbA hS1 h1 d_law_721 ?_
  refine zl_call (ad := adM) (sh := zshM) (N := 15) (Q' := fun r σ' => r = some (.int (c_next a (xs (i + 1).toNatClampNeg)).1) ∧ WX σ' (c_next a (xs (i + 1).toNatClampNeg)).2) hfv zshM_ok iM hx hb hml hown hts hK h0M aM hS1 hPM1 (mi := 220) rfl [.int (xs (i + 1).toNatClampNeg)] (M_next hM (fun σ' h => ⟨rfl, h⟩)) (Nat.le_of_ble_eq_true rfl) rfl (by decide) (by decide) rfl (zg6 (List.mem_of_getElem? (i := 152) rfl) rfl) ⟨(Nat.le_of_ble_eq_true rfl), (Nat.le_of_ble_eq_true rfl)⟩ hl.1 (Nat.le_of_ble_eq_true rfl) d_law_722 rfl (fun r σM' H2 locs2 hq hPM2 hk2 hS2 => ?_) (Nat.le_refl _) (Nat.le_refl _)
  obtain ⟨rfl, hM1⟩ := hq
  have hPX2 := zl_keep hPX1 hk2 (fun i j g1 g2 e => hd j i g2 g1 e.symm)
  refine lv_icmp_eq (tgt := 1244) hx hb d_law_725 (by decide) (fun _ => ?_) (fun h => absurd rfl h)
  exact kk _ σX' σM' H2 locs2 hX1 hM1 hPX2 hPM2 hS2
set_option maxRecDepth 20000 in
set_option maxHeartbeats 4000000 in
theorem lc_mend (C : zLC p l s m args c b L xs D cI adX adM fv) (hX : RX σX a) (hM : WX σM a) (hPX : va_P D vwCl (zW cI adX zshX 44 σX) H) (hPM : va_P D vwCl (zW cI adM zshM 15 σM) H) (hS : va_S (fun q : Nat => s.heap.size ≤ q) s.heap H locs) (hl : lv_has ls 4 [(0, .ref b), (1, .ref (adX 0)), (2, .ref (adM 0)), (3, .int i)]) (h1 : vp_in (i + 1) L) (h2 : vp_in (i + 2) L) (h3 : vp_in (i + 3) L) (kk : ∀ (a' : At) (σX' σM' : zG) (H' : Heap) (locs' : List Loc), RX σX' a' → WX σM' a' → va_P D vwCl (zW cI adX zshX 44 σX') H' → va_P D vwCl (zW cI adM zshM 15 σM') H' → va_S (fun q : Nat => s.heap.size ≤ q) s.heap H' locs' → W p l e room_1 s m args below meth c H' locs' 59 1154 Q (F0 m 1244 ls [])) : W p l e room_1 s m args below meth c H locs 59 1154 Q (F0 m 730 ls []) := by
  obtain ⟨hfv, iX, iM, hd, hx, hb, hml, hown, hts, hK, h0X, h0M, aX, aM, hsc, hbl⟩ := C
  have hbA : ¬ (fun q : Nat => s.heap.size ≤ q) b := Nat.not_le.mpr hbl
  refine lv_aload_n hx hb d_law_730 rfl (lv_at hl 1 rfl) ?_
  refine zl_call (ad := adX) (sh := zshX) (N := 44) (Q' := fun r σ' => r = some (.int (c_mend a).1) ∧ RX σ' (c_mend a).2) hfv zshX_ok iX hx hb hml hown hts hK h0X aX hS hPX (mi := 121) rfl [] (X_mend hX (fun σ' h => ⟨rfl, h⟩)) (Nat.le_of_ble_eq_true rfl) rfl (by decide) (by decide) rfl (zg3 (List.mem_of_getElem? (i := 236) rfl) rfl) ⟨(Nat.le_of_ble_eq_true rfl), (Nat.le_of_ble_eq_true rfl)⟩ hl.1 (Nat.le_of_ble_eq_true rfl) d_law_731 rfl (fun r σX' H1 locs1 hq hPX1 hk hS1 => ?_) (Nat.le_refl _) (Nat.le_refl _)
  obtain ⟨rfl, hX1⟩ := hq
  have hPM1 := zl_keep hPM hk hd
  refine lv_aload_n hx hb d_law_734 rfl (lv_at hl 2 rfl) ?_
  refine zl_call (ad := adM) (sh := zshM) (N := 15) (Q' := fun r σ' => r = some (.int (c_mend a).1) ∧ WX σ' (c_mend a).2) hfv zshM_ok iM hx hb hml hown hts hK h0M aM hS1 hPM1 (mi := 222) rfl [] (M_mend hM (fun σ' h => ⟨rfl, h⟩)) (Nat.le_of_ble_eq_true rfl) rfl (by decide) (by decide) rfl (zg6 (List.mem_of_getElem? (i := 156) rfl) rfl) ⟨(Nat.le_of_ble_eq_true rfl), (Nat.le_of_ble_eq_true rfl)⟩ hl.1 (Nat.le_of_ble_eq_true rfl) d_law_735 rfl (fun r σM' H2 locs2 hq hPM2 hk2 hS2 => ?_) (Nat.le_refl _) (Nat.le_refl _)
  obtain ⟨rfl, hM1⟩ := hq
  have hPX2 := zl_keep hPX1 hk2 (fun i j g1 g2 e => hd j i g2 g1 e.symm)
  refine lv_icmp_eq (tgt := 1244) hx hb d_law_738 (by decide) (fun _ => ?_) (fun h => absurd rfl h)
  exact kk _ σX' σM' H2 locs2 hX1 hM1 hPX2 hPM2 hS2
set_option maxRecDepth 20000 in
set_option maxHeartbeats 4000000 in
theorem lc_fewest (C : zLC p l s m args c b L xs D cI adX adM fv) (hX : RX σX a) (hM : WX σM a) (hPX : va_P D vwCl (zW cI adX zshX 44 σX) H) (hPM : va_P D vwCl (zW cI adM zshM 15 σM) H) (hS : va_S (fun q : Nat => s.heap.size ≤ q) s.heap H locs) (hl : lv_has ls 4 [(0, .ref b), (1, .ref (adX 0)), (2, .ref (adM 0)), (3, .int i)]) (h1 : vp_in (i + 1) L) (h2 : vp_in (i + 2) L) (h3 : vp_in (i + 3) L) (kk : ∀ (a' : At) (σX' σM' : zG) (H' : Heap) (locs' : List Loc), RX σX' a' → WX σM' a' → va_P D vwCl (zW cI adX zshX 44 σX') H' → va_P D vwCl (zW cI adM zshM 15 σM') H' → va_S (fun q : Nat => s.heap.size ≤ q) s.heap H' locs' → W p l e room_1 s m args below meth c H' locs' 59 1154 Q (F0 m 1244 ls [])) : W p l e room_1 s m args below meth c H locs 59 1154 Q (F0 m 743 ls []) := by
  obtain ⟨hfv, iX, iM, hd, hx, hb, hml, hown, hts, hK, h0X, h0M, aX, aM, hsc, hbl⟩ := C
  have hbA : ¬ (fun q : Nat => s.heap.size ≤ q) b := Nat.not_le.mpr hbl
  refine lv_aload_n hx hb d_law_743 rfl (lv_at hl 1 rfl) ?_
  refine zl_call (ad := adX) (sh := zshX) (N := 44) (Q' := fun r σ' => r = some (.int (c_fewest a).1) ∧ RX σ' (c_fewest a).2) hfv zshX_ok iX hx hb hml hown hts hK h0X aX hS hPX (mi := 122) rfl [] (X_fewest hX (fun σ' h => ⟨rfl, h⟩)) (Nat.le_of_ble_eq_true rfl) rfl (by decide) (by decide) rfl (zg4 (List.mem_of_getElem? (i := 8) rfl) rfl) ⟨(Nat.le_of_ble_eq_true rfl), (Nat.le_of_ble_eq_true rfl)⟩ hl.1 (Nat.le_of_ble_eq_true rfl) d_law_744 rfl (fun r σX' H1 locs1 hq hPX1 hk hS1 => ?_) (Nat.le_refl _) (Nat.le_refl _)
  obtain ⟨rfl, hX1⟩ := hq
  have hPM1 := zl_keep hPM hk hd
  refine lv_aload_n hx hb d_law_747 rfl (lv_at hl 2 rfl) ?_
  refine zl_call (ad := adM) (sh := zshM) (N := 15) (Q' := fun r σ' => r = some (.int (c_fewest a).1) ∧ WX σ' (c_fewest a).2) hfv zshM_ok iM hx hb hml hown hts hK h0M aM hS1 hPM1 (mi := 224) rfl [] (M_fewest hM (fun σ' h => ⟨rfl, h⟩)) (Nat.le_of_ble_eq_true rfl) rfl (by decide) (by decide) rfl (zg6 (List.mem_of_getElem? (i := 164) rfl) rfl) ⟨(Nat.le_of_ble_eq_true rfl), (Nat.le_of_ble_eq_true rfl)⟩ hl.1 (Nat.le_of_ble_eq_true rfl) d_law_748 rfl (fun r σM' H2 locs2 hq hPM2 hk2 hS2 => ?_) (Nat.le_refl _) (Nat.le_refl _)
  obtain ⟨rfl, hM1⟩ := hq
  have hPX2 := zl_keep hPX1 hk2 (fun i j g1 g2 e => hd j i g2 g1 e.symm)
  refine lv_icmp_eq (tgt := 1244) hx hb d_law_751 (by decide) (fun _ => ?_) (fun h => absurd rfl h)
  exact kk _ σX' σM' H2 locs2 hX1 hM1 hPX2 hPM2 hS2
set_option maxRecDepth 20000 in
set_option maxHeartbeats 4000000 in
theorem lc_take (C : zLC p l s m args c b L xs D cI adX adM fv) (hX : RX σX a) (hM : WX σM a) (hPX : va_P D vwCl (zW cI adX zshX 44 σX) H) (hPM : va_P D vwCl (zW cI adM zshM 15 σM) H) (hS : va_S (fun q : Nat => s.heap.size ≤ q) s.heap H locs) (hl : lv_has ls 4 [(0, .ref b), (1, .ref (adX 0)), (2, .ref (adM 0)), (3, .int i)]) (h1 : vp_in (i + 1) L) (h2 : vp_in (i + 2) L) (h3 : vp_in (i + 3) L) (kk : ∀ (a' : At) (σX' σM' : zG) (H' : Heap) (locs' : List Loc), RX σX' a' → WX σM' a' → va_P D vwCl (zW cI adX zshX 44 σX') H' → va_P D vwCl (zW cI adM zshM 15 σM') H' → va_S (fun q : Nat => s.heap.size ≤ q) s.heap H' locs' → W p l e room_1 s m args below meth c H' locs' 59 1154 Q (F0 m 1244 ls [])) : W p l e room_1 s m args below meth c H locs 59 1154 Q (F0 m 756 ls []) := by
  obtain ⟨hfv, iX, iM, hd, hx, hb, hml, hown, hts, hK, h0X, h0M, aX, aM, hsc, hbl⟩ := C
  have hbA : ¬ (fun q : Nat => s.heap.size ≤ q) b := Nat.not_le.mpr hbl
  refine lv_aload_n hx hb d_law_756 rfl (lv_at hl 1 rfl) ?_
  refine zl_call (ad := adX) (sh := zshX) (N := 44) (Q' := fun r σ' => r = some (.int (c_take a).1) ∧ RX σ' (c_take a).2) hfv zshX_ok iX hx hb hml hown hts hK h0X aX hS hPX (mi := 123) rfl [] (X_take hX (fun σ' h => ⟨rfl, h⟩)) (Nat.le_of_ble_eq_true rfl) rfl (by decide) (by decide) rfl (zg4 (List.mem_of_getElem? (i := 37) rfl) rfl) ⟨(Nat.le_of_ble_eq_true rfl), (Nat.le_of_ble_eq_true rfl)⟩ hl.1 (Nat.le_of_ble_eq_true rfl) d_law_757 rfl (fun r σX' H1 locs1 hq hPX1 hk hS1 => ?_) (Nat.le_refl _) (Nat.le_refl _)
  obtain ⟨rfl, hX1⟩ := hq
  have hPM1 := zl_keep hPM hk hd
  refine lv_aload_n hx hb d_law_760 rfl (lv_at hl 2 rfl) ?_
  refine zl_call (ad := adM) (sh := zshM) (N := 15) (Q' := fun r σ' => r = some (.int (c_take a).1) ∧ WX σ' (c_take a).2) hfv zshM_ok iM hx hb hml hown hts hK h0M aM hS1 hPM1 (mi := 225) rfl [] (M_take hM (fun σ' h => ⟨rfl, h⟩)) (Nat.le_of_ble_eq_true rfl) rfl (by decide) (by decide) rfl (zg6 (List.mem_of_getElem? (i := 178) rfl) rfl) ⟨(Nat.le_of_ble_eq_true rfl), (Nat.le_of_ble_eq_true rfl)⟩ hl.1 (Nat.le_of_ble_eq_true rfl) d_law_761 rfl (fun r σM' H2 locs2 hq hPM2 hk2 hS2 => ?_) (Nat.le_refl _) (Nat.le_refl _)
  obtain ⟨rfl, hM1⟩ := hq
  have hPX2 := zl_keep hPX1 hk2 (fun i j g1 g2 e => hd j i g2 g1 e.symm)
  refine lv_icmp_eq (tgt := 1244) hx hb d_law_764 (by decide) (fun _ => ?_) (fun h => absurd rfl h)
  exact kk _ σX' σM' H2 locs2 hX1 hM1 hPX2 hPM2 hS2
set_option maxRecDepth 20000 in
set_option maxHeartbeats 4000000 in
theorem lc_turnBack (C : zLC p l s m args c b L xs D cI adX adM fv) (hX : RX σX a) (hM : WX σM a) (hPX : va_P D vwCl (zW cI adX zshX 44 σX) H) (hPM : va_P D vwCl (zW cI adM zshM 15 σM) H) (hS : va_S (fun q : Nat => s.heap.size ≤ q) s.heap H locs) (hl : lv_has ls 4 [(0, .ref b), (1, .ref (adX 0)), (2, .ref (adM 0)), (3, .int i)]) (h1 : vp_in (i + 1) L) (h2 : vp_in (i + 2) L) (h3 : vp_in (i + 3) L) (kk : ∀ (a' : At) (σX' σM' : zG) (H' : Heap) (locs' : List Loc), RX σX' a' → WX σM' a' → va_P D vwCl (zW cI adX zshX 44 σX') H' → va_P D vwCl (zW cI adM zshM 15 σM') H' → va_S (fun q : Nat => s.heap.size ≤ q) s.heap H' locs' → W p l e room_1 s m args below meth c H' locs' 59 1154 Q (F0 m 1244 ls [])) : W p l e room_1 s m args below meth c H locs 59 1154 Q (F0 m 769 ls []) := by
  obtain ⟨hfv, iX, iM, hd, hx, hb, hml, hown, hts, hK, h0X, h0M, aX, aM, hsc, hbl⟩ := C
  have hbA : ¬ (fun q : Nat => s.heap.size ≤ q) b := Nat.not_le.mpr hbl
  refine lv_aload_n hx hb d_law_769 rfl (lv_at hl 1 rfl) ?_
  refine zl_call (ad := adX) (sh := zshX) (N := 44) (Q' := fun r σ' => r = some (.int (c_turnBack a).1) ∧ RX σ' (c_turnBack a).2) hfv zshX_ok iX hx hb hml hown hts hK h0X aX hS hPX (mi := 124) rfl [] (X_turnBack hX (fun σ' h => ⟨rfl, h⟩)) (Nat.le_of_ble_eq_true rfl) rfl (by decide) (by decide) rfl (zg4 (List.mem_of_getElem? (i := 46) rfl) rfl) ⟨(Nat.le_of_ble_eq_true rfl), (Nat.le_of_ble_eq_true rfl)⟩ hl.1 (Nat.le_of_ble_eq_true rfl) d_law_770 rfl (fun r σX' H1 locs1 hq hPX1 hk hS1 => ?_) (Nat.le_refl _) (Nat.le_refl _)
  obtain ⟨rfl, hX1⟩ := hq
  have hPM1 := zl_keep hPM hk hd
  refine lv_aload_n hx hb d_law_773 rfl (lv_at hl 2 rfl) ?_
  refine zl_call (ad := adM) (sh := zshM) (N := 15) (Q' := fun r σ' => r = some (.int (c_turnBack a).1) ∧ WX σ' (c_turnBack a).2) hfv zshM_ok iM hx hb hml hown hts hK h0M aM hS1 hPM1 (mi := 226) rfl [] (M_turnBack hM (fun σ' h => ⟨rfl, h⟩)) (Nat.le_of_ble_eq_true rfl) rfl (by decide) (by decide) rfl (zg6 (List.mem_of_getElem? (i := 182) rfl) rfl) ⟨(Nat.le_of_ble_eq_true rfl), (Nat.le_of_ble_eq_true rfl)⟩ hl.1 (Nat.le_of_ble_eq_true rfl) d_law_774 rfl (fun r σM' H2 locs2 hq hPM2 hk2 hS2 => ?_) (Nat.le_refl _) (Nat.le_refl _)
  obtain ⟨rfl, hM1⟩ := hq
  have hPX2 := zl_keep hPX1 hk2 (fun i j g1 g2 e => hd j i g2 g1 e.symm)
  refine lv_icmp_eq (tgt := 1244) hx hb d_law_777 (by decide) (fun _ => ?_) (fun h => absurd rfl h)
  exact kk _ σX' σM' H2 locs2 hX1 hM1 hPX2 hPM2 hS2
set_option maxRecDepth 20000 in
set_option maxHeartbeats 4000000 in
theorem lc_runs (C : zLC p l s m args c b L xs D cI adX adM fv) (hX : RX σX a) (hM : WX σM a) (hPX : va_P D vwCl (zW cI adX zshX 44 σX) H) (hPM : va_P D vwCl (zW cI adM zshM 15 σM) H) (hS : va_S (fun q : Nat => s.heap.size ≤ q) s.heap H locs) (hl : lv_has ls 4 [(0, .ref b), (1, .ref (adX 0)), (2, .ref (adM 0)), (3, .int i)]) (h1 : vp_in (i + 1) L) (h2 : vp_in (i + 2) L) (h3 : vp_in (i + 3) L) (kk : ∀ (a' : At) (σX' σM' : zG) (H' : Heap) (locs' : List Loc), RX σX' a' → WX σM' a' → va_P D vwCl (zW cI adX zshX 44 σX') H' → va_P D vwCl (zW cI adM zshM 15 σM') H' → va_S (fun q : Nat => s.heap.size ≤ q) s.heap H' locs' → W p l e room_1 s m args below meth c H' locs' 59 1154 Q (F0 m 1244 ls [])) : W p l e room_1 s m args below meth c H locs 59 1154 Q (F0 m 782 ls []) := by
  obtain ⟨hfv, iX, iM, hd, hx, hb, hml, hown, hts, hK, h0X, h0M, aX, aM, hsc, hbl⟩ := C
  have hbA : ¬ (fun q : Nat => s.heap.size ≤ q) b := Nat.not_le.mpr hbl
  refine lv_aload_n hx hb d_law_782 rfl (lv_at hl 1 rfl) ?_
  refine lv_aload_n hx hb d_law_783 rfl (lv_at hl 0 rfl) ?_
  refine lv_iload_n hx hb d_law_784 rfl (lv_at hl 3 rfl) ?_
  refine lv_iconst (v := 1) hx hb d_law_785 (by decide) ?_
  refine lv_iadd hx hb d_law_786 ?_
  refine va_sld hx hb hsc hbl hbA hS h1 d_law_787 ?_
  refine zl_call (ad := adX) (sh := zshX) (N := 44) (Q' := fun r σ' => r = some (.int (c_runs a (xs (i + 1).toNatClampNeg)).1) ∧ RX σ' (c_runs a (xs (i + 1).toNatClampNeg)).2) hfv zshX_ok iX hx hb hml hown hts hK h0X aX hS hPX (mi := 125) rfl [.int (xs (i + 1).toNatClampNeg)] (X_runs hX (fun σ' h => ⟨rfl, h⟩)) (Nat.le_of_ble_eq_true rfl) rfl (by decide) (by decide) rfl (zg4 (List.mem_of_getElem? (i := 62) rfl) rfl) ⟨(Nat.le_of_ble_eq_true rfl), (Nat.le_of_ble_eq_true rfl)⟩ hl.1 (Nat.le_of_ble_eq_true rfl) d_law_788 rfl (fun r σX' H1 locs1 hq hPX1 hk hS1 => ?_) (Nat.le_refl _) (Nat.le_refl _)
  obtain ⟨rfl, hX1⟩ := hq
  have hPM1 := zl_keep hPM hk hd
  refine lv_aload_n hx hb d_law_791 rfl (lv_at hl 2 rfl) ?_
  refine lv_aload_n hx hb d_law_792 rfl (lv_at hl 0 rfl) ?_
  refine lv_iload_n hx hb d_law_793 rfl (lv_at hl 3 rfl) ?_
  refine lv_iconst (v := 1) hx hb d_law_794 (by decide) ?_
  refine lv_iadd hx hb d_law_795 ?_
  refine va_sld hx hb hsc hbl hbA hS1 h1 d_law_796 ?_
  refine zl_call (ad := adM) (sh := zshM) (N := 15) (Q' := fun r σ' => r = some (.int (c_runs a (xs (i + 1).toNatClampNeg)).1) ∧ WX σ' (c_runs a (xs (i + 1).toNatClampNeg)).2) hfv zshM_ok iM hx hb hml hown hts hK h0M aM hS1 hPM1 (mi := 228) rfl [.int (xs (i + 1).toNatClampNeg)] (M_runs hM (fun σ' h => ⟨rfl, h⟩)) (Nat.le_of_ble_eq_true rfl) rfl (by decide) (by decide) rfl (zg6 (List.mem_of_getElem? (i := 186) rfl) rfl) ⟨(Nat.le_of_ble_eq_true rfl), (Nat.le_of_ble_eq_true rfl)⟩ hl.1 (Nat.le_of_ble_eq_true rfl) d_law_797 rfl (fun r σM' H2 locs2 hq hPM2 hk2 hS2 => ?_) (Nat.le_refl _) (Nat.le_refl _)
  obtain ⟨rfl, hM1⟩ := hq
  have hPX2 := zl_keep hPX1 hk2 (fun i j g1 g2 e => hd j i g2 g1 e.symm)
  refine lv_icmp_eq (tgt := 1244) hx hb d_law_800 (by decide) (fun _ => ?_) (fun h => absurd rfl h)
  exact kk _ σX' σM' H2 locs2 hX1 hM1 hPX2 hPM2 hS2
set_option maxRecDepth 20000 in
set_option maxHeartbeats 4000000 in
theorem lc_kinds (C : zLC p l s m args c b L xs D cI adX adM fv) (hX : RX σX a) (hM : WX σM a) (hPX : va_P D vwCl (zW cI adX zshX 44 σX) H) (hPM : va_P D vwCl (zW cI adM zshM 15 σM) H) (hS : va_S (fun q : Nat => s.heap.size ≤ q) s.heap H locs) (hl : lv_has ls 4 [(0, .ref b), (1, .ref (adX 0)), (2, .ref (adM 0)), (3, .int i)]) (h1 : vp_in (i + 1) L) (h2 : vp_in (i + 2) L) (h3 : vp_in (i + 3) L) (kk : ∀ (a' : At) (σX' σM' : zG) (H' : Heap) (locs' : List Loc), RX σX' a' → WX σM' a' → va_P D vwCl (zW cI adX zshX 44 σX') H' → va_P D vwCl (zW cI adM zshM 15 σM') H' → va_S (fun q : Nat => s.heap.size ≤ q) s.heap H' locs' → W p l e room_1 s m args below meth c H' locs' 59 1154 Q (F0 m 1244 ls [])) : W p l e room_1 s m args below meth c H locs 59 1154 Q (F0 m 805 ls []) := by
  obtain ⟨hfv, iX, iM, hd, hx, hb, hml, hown, hts, hK, h0X, h0M, aX, aM, hsc, hbl⟩ := C
  have hbA : ¬ (fun q : Nat => s.heap.size ≤ q) b := Nat.not_le.mpr hbl
  refine lv_aload_n hx hb d_law_805 rfl (lv_at hl 1 rfl) ?_
  refine lv_aload_n hx hb d_law_806 rfl (lv_at hl 0 rfl) ?_
  refine lv_iload_n hx hb d_law_807 rfl (lv_at hl 3 rfl) ?_
  refine lv_iconst (v := 1) hx hb d_law_808 (by decide) ?_
  refine lv_iadd hx hb d_law_809 ?_
  refine va_sld hx hb hsc hbl hbA hS h1 d_law_810 ?_
  refine zl_call (ad := adX) (sh := zshX) (N := 44) (Q' := fun r σ' => r = some (.int (c_kinds a (xs (i + 1).toNatClampNeg)).1) ∧ RX σ' (c_kinds a (xs (i + 1).toNatClampNeg)).2) hfv zshX_ok iX hx hb hml hown hts hK h0X aX hS hPX (mi := 126) rfl [.int (xs (i + 1).toNatClampNeg)] (X_kinds hX (fun σ' h => ⟨rfl, h⟩)) (Nat.le_of_ble_eq_true rfl) rfl (by decide) (by decide) rfl (zg4 (List.mem_of_getElem? (i := 86) rfl) rfl) ⟨(Nat.le_of_ble_eq_true rfl), (Nat.le_of_ble_eq_true rfl)⟩ hl.1 (Nat.le_of_ble_eq_true rfl) d_law_811 rfl (fun r σX' H1 locs1 hq hPX1 hk hS1 => ?_) (Nat.le_refl _) (Nat.le_refl _)
  obtain ⟨rfl, hX1⟩ := hq
  have hPM1 := zl_keep hPM hk hd
  refine lv_aload_n hx hb d_law_814 rfl (lv_at hl 2 rfl) ?_
  refine lv_aload_n hx hb d_law_815 rfl (lv_at hl 0 rfl) ?_
  refine lv_iload_n hx hb d_law_816 rfl (lv_at hl 3 rfl) ?_
  refine lv_iconst (v := 1) hx hb d_law_817 (by decide) ?_
  refine lv_iadd hx hb d_law_818 ?_
  refine va_sld hx hb hsc hbl hbA hS1 h1 d_law_819 ?_
  refine zl_call (ad := adM) (sh := zshM) (N := 15) (Q' := fun r σ' => r = some (.int (c_kinds a (xs (i + 1).toNatClampNeg)).1) ∧ WX σ' (c_kinds a (xs (i + 1).toNatClampNeg)).2) hfv zshM_ok iM hx hb hml hown hts hK h0M aM hS1 hPM1 (mi := 229) rfl [.int (xs (i + 1).toNatClampNeg)] (M_kinds hM (fun σ' h => ⟨rfl, h⟩)) (Nat.le_of_ble_eq_true rfl) rfl (by decide) (by decide) rfl (zg6 (List.mem_of_getElem? (i := 194) rfl) rfl) ⟨(Nat.le_of_ble_eq_true rfl), (Nat.le_of_ble_eq_true rfl)⟩ hl.1 (Nat.le_of_ble_eq_true rfl) d_law_820 rfl (fun r σM' H2 locs2 hq hPM2 hk2 hS2 => ?_) (Nat.le_refl _) (Nat.le_refl _)
  obtain ⟨rfl, hM1⟩ := hq
  have hPX2 := zl_keep hPX1 hk2 (fun i j g1 g2 e => hd j i g2 g1 e.symm)
  refine lv_icmp_eq (tgt := 1244) hx hb d_law_823 (by decide) (fun _ => ?_) (fun h => absurd rfl h)
  exact kk _ σX' σM' H2 locs2 hX1 hM1 hPX2 hPM2 hS2
set_option maxRecDepth 20000 in
set_option maxHeartbeats 4000000 in
theorem lc_keystone (C : zLC p l s m args c b L xs D cI adX adM fv) (hX : RX σX a) (hM : WX σM a) (hPX : va_P D vwCl (zW cI adX zshX 44 σX) H) (hPM : va_P D vwCl (zW cI adM zshM 15 σM) H) (hS : va_S (fun q : Nat => s.heap.size ≤ q) s.heap H locs) (hl : lv_has ls 4 [(0, .ref b), (1, .ref (adX 0)), (2, .ref (adM 0)), (3, .int i)]) (h1 : vp_in (i + 1) L) (h2 : vp_in (i + 2) L) (h3 : vp_in (i + 3) L) (kk : ∀ (a' : At) (σX' σM' : zG) (H' : Heap) (locs' : List Loc), RX σX' a' → WX σM' a' → va_P D vwCl (zW cI adX zshX 44 σX') H' → va_P D vwCl (zW cI adM zshM 15 σM') H' → va_S (fun q : Nat => s.heap.size ≤ q) s.heap H' locs' → W p l e room_1 s m args below meth c H' locs' 59 1154 Q (F0 m 1244 ls [])) : W p l e room_1 s m args below meth c H locs 59 1154 Q (F0 m 828 ls []) := by
  obtain ⟨hfv, iX, iM, hd, hx, hb, hml, hown, hts, hK, h0X, h0M, aX, aM, hsc, hbl⟩ := C
  have hbA : ¬ (fun q : Nat => s.heap.size ≤ q) b := Nat.not_le.mpr hbl
  refine lv_aload_n hx hb d_law_828 rfl (lv_at hl 1 rfl) ?_
  refine zl_call (ad := adX) (sh := zshX) (N := 44) (Q' := fun r σ' => r = some (.int (c_keystone a).1) ∧ RX σ' (c_keystone a).2) hfv zshX_ok iX hx hb hml hown hts hK h0X aX hS hPX (mi := 127) rfl [] (X_keystone hX (fun σ' h => ⟨rfl, h⟩)) (Nat.le_of_ble_eq_true rfl) rfl (by decide) (by decide) rfl (zg4 (List.mem_of_getElem? (i := 95) rfl) rfl) ⟨(Nat.le_of_ble_eq_true rfl), (Nat.le_of_ble_eq_true rfl)⟩ hl.1 (Nat.le_of_ble_eq_true rfl) d_law_829 rfl (fun r σX' H1 locs1 hq hPX1 hk hS1 => ?_) (Nat.le_refl _) (Nat.le_refl _)
  obtain ⟨rfl, hX1⟩ := hq
  have hPM1 := zl_keep hPM hk hd
  refine lv_aload_n hx hb d_law_832 rfl (lv_at hl 2 rfl) ?_
  refine zl_call (ad := adM) (sh := zshM) (N := 15) (Q' := fun r σ' => r = some (.int (c_keystone a).1) ∧ WX σ' (c_keystone a).2) hfv zshM_ok iM hx hb hml hown hts hK h0M aM hS1 hPM1 (mi := 230) rfl [] (M_keystoneC hM (fun σ' h => ⟨rfl, h⟩)) (Nat.le_of_ble_eq_true rfl) rfl (by decide) (by decide) rfl (zg6 (List.mem_of_getElem? (i := 198) rfl) rfl) ⟨(Nat.le_of_ble_eq_true rfl), (Nat.le_of_ble_eq_true rfl)⟩ hl.1 (Nat.le_of_ble_eq_true rfl) d_law_833 rfl (fun r σM' H2 locs2 hq hPM2 hk2 hS2 => ?_) (Nat.le_refl _) (Nat.le_refl _)
  obtain ⟨rfl, hM1⟩ := hq
  have hPX2 := zl_keep hPX1 hk2 (fun i j g1 g2 e => hd j i g2 g1 e.symm)
  refine lv_icmp_eq (tgt := 1244) hx hb d_law_836 (by decide) (fun _ => ?_) (fun h => absurd rfl h)
  exact kk _ σX' σM' H2 locs2 hX1 hM1 hPX2 hPM2 hS2
set_option maxRecDepth 20000 in
set_option maxHeartbeats 4000000 in
theorem lc_mortar (C : zLC p l s m args c b L xs D cI adX adM fv) (hX : RX σX a) (hM : WX σM a) (hPX : va_P D vwCl (zW cI adX zshX 44 σX) H) (hPM : va_P D vwCl (zW cI adM zshM 15 σM) H) (hS : va_S (fun q : Nat => s.heap.size ≤ q) s.heap H locs) (hl : lv_has ls 4 [(0, .ref b), (1, .ref (adX 0)), (2, .ref (adM 0)), (3, .int i)]) (h1 : vp_in (i + 1) L) (h2 : vp_in (i + 2) L) (h3 : vp_in (i + 3) L) (kk : ∀ (a' : At) (σX' σM' : zG) (H' : Heap) (locs' : List Loc), RX σX' a' → WX σM' a' → va_P D vwCl (zW cI adX zshX 44 σX') H' → va_P D vwCl (zW cI adM zshM 15 σM') H' → va_S (fun q : Nat => s.heap.size ≤ q) s.heap H' locs' → W p l e room_1 s m args below meth c H' locs' 59 1154 Q (F0 m 1244 ls [])) : W p l e room_1 s m args below meth c H locs 59 1154 Q (F0 m 841 ls []) := by
  obtain ⟨hfv, iX, iM, hd, hx, hb, hml, hown, hts, hK, h0X, h0M, aX, aM, hsc, hbl⟩ := C
  have hbA : ¬ (fun q : Nat => s.heap.size ≤ q) b := Nat.not_le.mpr hbl
  refine lv_aload_n hx hb d_law_841 rfl (lv_at hl 1 rfl) ?_
  refine zl_call (ad := adX) (sh := zshX) (N := 44) (Q' := fun r σ' => r = some (.int (c_mortar a).1) ∧ RX σ' (c_mortar a).2) hfv zshX_ok iX hx hb hml hown hts hK h0X aX hS hPX (mi := 128) rfl [] (X_mortar hX (fun σ' h => ⟨rfl, h⟩)) (Nat.le_of_ble_eq_true rfl) rfl (by decide) (by decide) rfl (zg4 (List.mem_of_getElem? (i := 103) rfl) rfl) ⟨(Nat.le_of_ble_eq_true rfl), (Nat.le_of_ble_eq_true rfl)⟩ hl.1 (Nat.le_of_ble_eq_true rfl) d_law_842 rfl (fun r σX' H1 locs1 hq hPX1 hk hS1 => ?_) (Nat.le_refl _) (Nat.le_refl _)
  obtain ⟨rfl, hX1⟩ := hq
  have hPM1 := zl_keep hPM hk hd
  refine lv_aload_n hx hb d_law_845 rfl (lv_at hl 2 rfl) ?_
  refine zl_call (ad := adM) (sh := zshM) (N := 15) (Q' := fun r σ' => r = some (.int (c_mortar a).1) ∧ WX σ' (c_mortar a).2) hfv zshM_ok iM hx hb hml hown hts hK h0M aM hS1 hPM1 (mi := 231) rfl [] (M_mortarC hM (fun σ' h => ⟨rfl, h⟩)) (Nat.le_of_ble_eq_true rfl) rfl (by decide) (by decide) rfl (zg6 (List.mem_of_getElem? (i := 202) rfl) rfl) ⟨(Nat.le_of_ble_eq_true rfl), (Nat.le_of_ble_eq_true rfl)⟩ hl.1 (Nat.le_of_ble_eq_true rfl) d_law_846 rfl (fun r σM' H2 locs2 hq hPM2 hk2 hS2 => ?_) (Nat.le_refl _) (Nat.le_refl _)
  obtain ⟨rfl, hM1⟩ := hq
  have hPX2 := zl_keep hPX1 hk2 (fun i j g1 g2 e => hd j i g2 g1 e.symm)
  refine lv_icmp_eq (tgt := 1244) hx hb d_law_849 (by decide) (fun _ => ?_) (fun h => absurd rfl h)
  exact kk _ σX' σM' H2 locs2 hX1 hM1 hPX2 hPM2 hS2
set_option maxRecDepth 20000 in
set_option maxHeartbeats 4000000 in
theorem lc_yields (C : zLC p l s m args c b L xs D cI adX adM fv) (hX : RX σX a) (hM : WX σM a) (hPX : va_P D vwCl (zW cI adX zshX 44 σX) H) (hPM : va_P D vwCl (zW cI adM zshM 15 σM) H) (hS : va_S (fun q : Nat => s.heap.size ≤ q) s.heap H locs) (hl : lv_has ls 4 [(0, .ref b), (1, .ref (adX 0)), (2, .ref (adM 0)), (3, .int i)]) (h1 : vp_in (i + 1) L) (h2 : vp_in (i + 2) L) (h3 : vp_in (i + 3) L) (kk : ∀ (a' : At) (σX' σM' : zG) (H' : Heap) (locs' : List Loc), RX σX' a' → WX σM' a' → va_P D vwCl (zW cI adX zshX 44 σX') H' → va_P D vwCl (zW cI adM zshM 15 σM') H' → va_S (fun q : Nat => s.heap.size ≤ q) s.heap H' locs' → W p l e room_1 s m args below meth c H' locs' 59 1154 Q (F0 m 1244 ls [])) : W p l e room_1 s m args below meth c H locs 59 1154 Q (F0 m 854 ls []) := by
  obtain ⟨hfv, iX, iM, hd, hx, hb, hml, hown, hts, hK, h0X, h0M, aX, aM, hsc, hbl⟩ := C
  have hbA : ¬ (fun q : Nat => s.heap.size ≤ q) b := Nat.not_le.mpr hbl
  refine lv_aload_n hx hb d_law_854 rfl (lv_at hl 1 rfl) ?_
  refine lv_aload_n hx hb d_law_855 rfl (lv_at hl 0 rfl) ?_
  refine lv_iload_n hx hb d_law_856 rfl (lv_at hl 3 rfl) ?_
  refine lv_iconst (v := 1) hx hb d_law_857 (by decide) ?_
  refine lv_iadd hx hb d_law_858 ?_
  refine va_sld hx hb hsc hbl hbA hS h1 d_law_859 ?_
  refine zl_call (ad := adX) (sh := zshX) (N := 44) (Q' := fun r σ' => r = some (.int (c_yields a (xs (i + 1).toNatClampNeg)).1) ∧ RX σ' (c_yields a (xs (i + 1).toNatClampNeg)).2) hfv zshX_ok iX hx hb hml hown hts hK h0X aX hS hPX (mi := 129) rfl [.int (xs (i + 1).toNatClampNeg)] (X_yields hX (fun σ' h => ⟨rfl, h⟩)) (Nat.le_of_ble_eq_true rfl) rfl (by decide) (by decide) rfl (zg4 (List.mem_of_getElem? (i := 111) rfl) rfl) ⟨(Nat.le_of_ble_eq_true rfl), (Nat.le_of_ble_eq_true rfl)⟩ hl.1 (Nat.le_of_ble_eq_true rfl) d_law_860 rfl (fun r σX' H1 locs1 hq hPX1 hk hS1 => ?_) (Nat.le_refl _) (Nat.le_refl _)
  obtain ⟨rfl, hX1⟩ := hq
  have hPM1 := zl_keep hPM hk hd
  refine lv_aload_n hx hb d_law_863 rfl (lv_at hl 2 rfl) ?_
  refine lv_aload_n hx hb d_law_864 rfl (lv_at hl 0 rfl) ?_
  refine lv_iload_n hx hb d_law_865 rfl (lv_at hl 3 rfl) ?_
  refine lv_iconst (v := 1) hx hb d_law_866 (by decide) ?_
  refine lv_iadd hx hb d_law_867 ?_
  refine va_sld hx hb hsc hbl hbA hS1 h1 d_law_868 ?_
  refine zl_call (ad := adM) (sh := zshM) (N := 15) (Q' := fun r σ' => r = some (.int (c_yields a (xs (i + 1).toNatClampNeg)).1) ∧ WX σ' (c_yields a (xs (i + 1).toNatClampNeg)).2) hfv zshM_ok iM hx hb hml hown hts hK h0M aM hS1 hPM1 (mi := 234) rfl [.int (xs (i + 1).toNatClampNeg)] (M_yields hM (fun σ' h => ⟨rfl, h⟩)) (Nat.le_of_ble_eq_true rfl) rfl (by decide) (by decide) rfl (zg6 (List.mem_of_getElem? (i := 206) rfl) rfl) ⟨(Nat.le_of_ble_eq_true rfl), (Nat.le_of_ble_eq_true rfl)⟩ hl.1 (Nat.le_of_ble_eq_true rfl) d_law_869 rfl (fun r σM' H2 locs2 hq hPM2 hk2 hS2 => ?_) (Nat.le_refl _) (Nat.le_refl _)
  obtain ⟨rfl, hM1⟩ := hq
  have hPX2 := zl_keep hPX1 hk2 (fun i j g1 g2 e => hd j i g2 g1 e.symm)
  refine lv_icmp_eq (tgt := 1244) hx hb d_law_872 (by decide) (fun _ => ?_) (fun h => absurd rfl h)
  exact kk _ σX' σM' H2 locs2 hX1 hM1 hPX2 hPM2 hS2
set_option maxRecDepth 20000 in
set_option maxHeartbeats 4000000 in
theorem lc_best (C : zLC p l s m args c b L xs D cI adX adM fv) (hX : RX σX a) (hM : WX σM a) (hPX : va_P D vwCl (zW cI adX zshX 44 σX) H) (hPM : va_P D vwCl (zW cI adM zshM 15 σM) H) (hS : va_S (fun q : Nat => s.heap.size ≤ q) s.heap H locs) (hl : lv_has ls 4 [(0, .ref b), (1, .ref (adX 0)), (2, .ref (adM 0)), (3, .int i)]) (h1 : vp_in (i + 1) L) (h2 : vp_in (i + 2) L) (h3 : vp_in (i + 3) L) (kk : ∀ (a' : At) (σX' σM' : zG) (H' : Heap) (locs' : List Loc), RX σX' a' → WX σM' a' → va_P D vwCl (zW cI adX zshX 44 σX') H' → va_P D vwCl (zW cI adM zshM 15 σM') H' → va_S (fun q : Nat => s.heap.size ≤ q) s.heap H' locs' → W p l e room_1 s m args below meth c H' locs' 59 1154 Q (F0 m 1244 ls [])) : W p l e room_1 s m args below meth c H locs 59 1154 Q (F0 m 877 ls []) := by
  obtain ⟨hfv, iX, iM, hd, hx, hb, hml, hown, hts, hK, h0X, h0M, aX, aM, hsc, hbl⟩ := C
  have hbA : ¬ (fun q : Nat => s.heap.size ≤ q) b := Nat.not_le.mpr hbl
  refine lv_aload_n hx hb d_law_877 rfl (lv_at hl 1 rfl) ?_
  refine lv_aload_n hx hb d_law_878 rfl (lv_at hl 0 rfl) ?_
  refine lv_iload_n hx hb d_law_879 rfl (lv_at hl 3 rfl) ?_
  refine lv_iconst (v := 1) hx hb d_law_880 (by decide) ?_
  refine lv_iadd hx hb d_law_881 ?_
  refine va_sld hx hb hsc hbl hbA hS h1 d_law_882 ?_
  refine lv_aload_n hx hb d_law_883 rfl (lv_at hl 0 rfl) ?_
  refine lv_iload_n hx hb d_law_884 rfl (lv_at hl 3 rfl) ?_
  refine lv_iconst (v := 2) hx hb d_law_885 (by decide) ?_
  refine lv_iadd hx hb d_law_886 ?_
  refine va_sld hx hb hsc hbl hbA hS h2 d_law_887 ?_
  refine lv_aload_n hx hb d_law_888 rfl (lv_at hl 0 rfl) ?_
  refine lv_iload_n hx hb d_law_889 rfl (lv_at hl 3 rfl) ?_
  refine lv_iconst (v := 3) hx hb d_law_890 (by decide) ?_
  refine lv_iadd hx hb d_law_891 ?_
  refine va_sld hx hb hsc hbl hbA hS h3 d_law_892 ?_
  refine zl_call (ad := adX) (sh := zshX) (N := 44) (Q' := fun r σ' => r = some (.int (c_best a (xs (i + 1).toNatClampNeg) (xs (i + 2).toNatClampNeg) (xs (i + 3).toNatClampNeg)).1) ∧ RX σ' (c_best a (xs (i + 1).toNatClampNeg) (xs (i + 2).toNatClampNeg) (xs (i + 3).toNatClampNeg)).2) hfv zshX_ok iX hx hb hml hown hts hK h0X aX hS hPX (mi := 130) rfl [.int (xs (i + 1).toNatClampNeg), .int (xs (i + 2).toNatClampNeg), .int (xs (i + 3).toNatClampNeg)] (X_best hX (fun σ' h => ⟨rfl, h⟩)) (Nat.le_of_ble_eq_true rfl) rfl (by decide) (by decide) rfl (zg4 (List.mem_of_getElem? (i := 125) rfl) rfl) ⟨(Nat.le_of_ble_eq_true rfl), (Nat.le_of_ble_eq_true rfl)⟩ hl.1 (Nat.le_of_ble_eq_true rfl) d_law_893 rfl (fun r σX' H1 locs1 hq hPX1 hk hS1 => ?_) (Nat.le_refl _) (Nat.le_refl _)
  obtain ⟨rfl, hX1⟩ := hq
  have hPM1 := zl_keep hPM hk hd
  refine lv_aload_n hx hb d_law_896 rfl (lv_at hl 2 rfl) ?_
  refine lv_aload_n hx hb d_law_897 rfl (lv_at hl 0 rfl) ?_
  refine lv_iload_n hx hb d_law_898 rfl (lv_at hl 3 rfl) ?_
  refine lv_iconst (v := 1) hx hb d_law_899 (by decide) ?_
  refine lv_iadd hx hb d_law_900 ?_
  refine va_sld hx hb hsc hbl hbA hS1 h1 d_law_901 ?_
  refine lv_aload_n hx hb d_law_902 rfl (lv_at hl 0 rfl) ?_
  refine lv_iload_n hx hb d_law_903 rfl (lv_at hl 3 rfl) ?_
  refine lv_iconst (v := 2) hx hb d_law_904 (by decide) ?_
  refine lv_iadd hx hb d_law_905 ?_
  refine va_sld hx hb hsc hbl hbA hS1 h2 d_law_906 ?_
  refine lv_aload_n hx hb d_law_907 rfl (lv_at hl 0 rfl) ?_
  refine lv_iload_n hx hb d_law_908 rfl (lv_at hl 3 rfl) ?_
  refine lv_iconst (v := 3) hx hb d_law_909 (by decide) ?_
  refine lv_iadd hx hb d_law_910 ?_
  refine va_sld hx hb hsc hbl hbA hS1 h3 d_law_911 ?_
  refine zl_call (ad := adM) (sh := zshM) (N := 15) (Q' := fun r σ' => r = some (.int (c_best a (xs (i + 1).toNatClampNeg) (xs (i + 2).toNatClampNeg) (xs (i + 3).toNatClampNeg)).1) ∧ WX σ' (c_best a (xs (i + 1).toNatClampNeg) (xs (i + 2).toNatClampNeg) (xs (i + 3).toNatClampNeg)).2) hfv zshM_ok iM hx hb hml hown hts hK h0M aM hS1 hPM1 (mi := 236) rfl [.int (xs (i + 1).toNatClampNeg), .int (xs (i + 2).toNatClampNeg), .int (xs (i + 3).toNatClampNeg)] (M_best hM (fun σ' h => ⟨rfl, h⟩)) (Nat.le_of_ble_eq_true rfl) rfl (by decide) (by decide) rfl (zg6 (List.mem_of_getElem? (i := 218) rfl) rfl) ⟨(Nat.le_of_ble_eq_true rfl), (Nat.le_of_ble_eq_true rfl)⟩ hl.1 (Nat.le_of_ble_eq_true rfl) d_law_912 rfl (fun r σM' H2 locs2 hq hPM2 hk2 hS2 => ?_) (Nat.le_refl _) (Nat.le_refl _)
  obtain ⟨rfl, hM1⟩ := hq
  have hPX2 := zl_keep hPX1 hk2 (fun i j g1 g2 e => hd j i g2 g1 e.symm)
  refine lv_icmp_eq (tgt := 1244) hx hb d_law_915 (by decide) (fun _ => ?_) (fun h => absurd rfl h)
  exact kk _ σX' σM' H2 locs2 hX1 hM1 hPX2 hPM2 hS2
set_option maxRecDepth 20000 in
set_option maxHeartbeats 4000000 in
theorem lc_peace (C : zLC p l s m args c b L xs D cI adX adM fv) (hX : RX σX a) (hM : WX σM a) (hPX : va_P D vwCl (zW cI adX zshX 44 σX) H) (hPM : va_P D vwCl (zW cI adM zshM 15 σM) H) (hS : va_S (fun q : Nat => s.heap.size ≤ q) s.heap H locs) (hl : lv_has ls 4 [(0, .ref b), (1, .ref (adX 0)), (2, .ref (adM 0)), (3, .int i)]) (h1 : vp_in (i + 1) L) (h2 : vp_in (i + 2) L) (h3 : vp_in (i + 3) L) (kk : ∀ (a' : At) (σX' σM' : zG) (H' : Heap) (locs' : List Loc), RX σX' a' → WX σM' a' → va_P D vwCl (zW cI adX zshX 44 σX') H' → va_P D vwCl (zW cI adM zshM 15 σM') H' → va_S (fun q : Nat => s.heap.size ≤ q) s.heap H' locs' → W p l e room_1 s m args below meth c H' locs' 59 1154 Q (F0 m 1244 ls [])) : W p l e room_1 s m args below meth c H locs 59 1154 Q (F0 m 920 ls []) := by
  obtain ⟨hfv, iX, iM, hd, hx, hb, hml, hown, hts, hK, h0X, h0M, aX, aM, hsc, hbl⟩ := C
  have hbA : ¬ (fun q : Nat => s.heap.size ≤ q) b := Nat.not_le.mpr hbl
  refine lv_aload_n hx hb d_law_920 rfl (lv_at hl 1 rfl) ?_
  refine zl_call (ad := adX) (sh := zshX) (N := 44) (Q' := fun r σ' => r = some (.int (c_peace a).1) ∧ RX σ' (c_peace a).2) hfv zshX_ok iX hx hb hml hown hts hK h0X aX hS hPX (mi := 131) rfl [] (X_peace hX (fun σ' h => ⟨rfl, h⟩)) (Nat.le_of_ble_eq_true rfl) rfl (by decide) (by decide) rfl (zg4 (List.mem_of_getElem? (i := 139) rfl) rfl) ⟨(Nat.le_of_ble_eq_true rfl), (Nat.le_of_ble_eq_true rfl)⟩ hl.1 (Nat.le_of_ble_eq_true rfl) d_law_921 rfl (fun r σX' H1 locs1 hq hPX1 hk hS1 => ?_) (Nat.le_refl _) (Nat.le_refl _)
  obtain ⟨rfl, hX1⟩ := hq
  have hPM1 := zl_keep hPM hk hd
  refine lv_aload_n hx hb d_law_924 rfl (lv_at hl 2 rfl) ?_
  refine zl_call (ad := adM) (sh := zshM) (N := 15) (Q' := fun r σ' => r = some (.int (c_peace a).1) ∧ WX σ' (c_peace a).2) hfv zshM_ok iM hx hb hml hown hts hK h0M aM hS1 hPM1 (mi := 237) rfl [] (M_peace hM (fun σ' h => ⟨rfl, h⟩)) (Nat.le_of_ble_eq_true rfl) rfl (by decide) (by decide) rfl (zg6 (List.mem_of_getElem? (i := 226) rfl) rfl) ⟨(Nat.le_of_ble_eq_true rfl), (Nat.le_of_ble_eq_true rfl)⟩ hl.1 (Nat.le_of_ble_eq_true rfl) d_law_925 rfl (fun r σM' H2 locs2 hq hPM2 hk2 hS2 => ?_) (Nat.le_refl _) (Nat.le_refl _)
  obtain ⟨rfl, hM1⟩ := hq
  have hPX2 := zl_keep hPX1 hk2 (fun i j g1 g2 e => hd j i g2 g1 e.symm)
  refine lv_icmp_eq (tgt := 1244) hx hb d_law_928 (by decide) (fun _ => ?_) (fun h => absurd rfl h)
  exact kk _ σX' σM' H2 locs2 hX1 hM1 hPX2 hPM2 hS2
end
