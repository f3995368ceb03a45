/-- what holds all through the law -/
def zLC (p : Program) (l : Launch) (s : State) (m : MethodId) (args : Array Value) (c : Code) (b L : Nat) (xs : Nat → Int32) (D : va_G) (cI : ClassId) (adX adM : Nat → Nat) (fv : Value) : Prop :=
  fv.category = 1 ∧ (∀ a b, a < 44 → b < 44 → adX a = adX b → a = b) ∧ (∀ a b, a < 15 → b < 15 → adM a = adM b → a = b) ∧ (∀ i j, i < 44 → j < 15 → adX i ≠ adM j) ∧ p.tables.exec = Jvm.exec ∧ c.code = code ∧ c.maxLocals = 4 ∧ s.vm.findClass R_law = some m.cls ∧ (∀ w ∈ lw_tbl, w.before args s = true) ∧ va_K D vwCl [(cI, .int)] s ∧ zK0 adX fv (fun q : Nat => s.heap.size ≤ q) s s.heap ∧ zK0 adM fv (fun q : Nat => s.heap.size ≤ q) s s.heap ∧ (∀ q, zAd adX 44 q → s.heap.size ≤ q) ∧ (∀ q, zAd adM 15 q → s.heap.size ≤ q) ∧ va_X b L xs s s.heap ∧ b < s.heap.size
section
variable {p : Program} {l : Launch} {e : Env} {s : State} {m : MethodId} {args : Array Value} {below : List Frame} {meth : Method} {c : Code} {H : Heap} {locs : List Loc} {Q : State → Prop} {ls : Array Slot} {D : va_G} {cI : ClassId} {adX adM : Nat → Nat} {fv : Value} {b L : Nat} {xs : Nat → Int32} {a : At} {σX σM : zG} {i : Int32}
set_option maxRecDepth 20000 in
set_option maxHeartbeats 4000000 in
theorem lc_letter (C : zLC p l s m args c b L xs D cI adX adM fv) (hX : RX σX a) (hM : WX σM a) (hPX : va_P D vwCl (zW cI adX zshX 44 σX) H) (hPM : va_P D vwCl (zW cI adM zshM 15 σM) H) (hS : va_S (fun q : Nat => s.heap.size ≤ q) s.heap H locs) (hl : lv_has ls 4 [(0, .ref b), (1, .ref (adX 0)), (2, .ref (adM 0)), (3, .int i)]) (h1 : vp_in (i + 1) L) (h2 : vp_in (i + 2) L) (h3 : vp_in (i + 3) L) (kk : ∀ (a' : At) (σX' σM' : zG) (H' : Heap) (locs' : List Loc), RX σX' a' → WX σM' a' → va_P D vwCl (zW cI adX zshX 44 σX') H' → va_P D vwCl (zW cI adM zshM 15 σM') H' → va_S (fun q : Nat => s.heap.size ≤ q) s.heap H' locs' → W p l e room_1 s m args below meth c H' locs' 59 1154 Q (F0 m 1244 ls [])) : W p l e room_1 s m args below meth c H locs 59 1154 Q (F0 m 216 ls []) := by
  obtain ⟨hfv, iX, iM, hd, hx, hb, hml, hown, hts, hK, h0X, h0M, aX, aM, hsc, hbl⟩ := C
  have hbA : ¬ (fun q : Nat => s.heap.size ≤ q) b := Nat.not_le.mpr hbl
  refine lv_aload_n hx hb d_law_216 rfl (lv_at hl 1 rfl) ?_
  refine lv_aload_n hx hb d_law_217 rfl (lv_at hl 0 rfl) ?_
  refine lv_iload_n hx hb d_law_218 rfl (lv_at hl 3 rfl) ?_
  refine lv_iconst (v := 1) hx hb d_law_219 (by decide) ?_
  refine lv_iadd hx hb d_law_220 ?_
  refine va_sld hx hb hsc hbl hbA hS h1 d_law_221 ?_
  refine zl_call (ad := adX) (sh := zshX) (N := 44) (Q' := fun r σ' => r = some (.int (c_letter a (xs (i + 1).toNatClampNeg)).1) ∧ RX σ' (c_letter a (xs (i + 1).toNatClampNeg)).2) hfv zshX_ok iX hx hb hml hown hts hK h0X aX hS hPX (mi := 103) rfl [.int (xs (i + 1).toNatClampNeg)] (X_letter hX (fun σ' h => ⟨rfl, h⟩)) (Nat.le_of_ble_eq_true rfl) rfl (by decide) (by decide) rfl (zg1 (List.mem_of_getElem? (i := 210) rfl) rfl) ⟨(Nat.le_of_ble_eq_true rfl), (Nat.le_of_ble_eq_true rfl)⟩ hl.1 (Nat.le_of_ble_eq_true rfl) d_law_222 rfl (fun r σX' H1 locs1 hq hPX1 hk hS1 => ?_) (Nat.le_refl _) (Nat.le_refl _)
  obtain ⟨rfl, hX1⟩ := hq
  have hPM1 := zl_keep hPM hk hd
  refine lv_aload_n hx hb d_law_225 rfl (lv_at hl 2 rfl) ?_
  refine lv_aload_n hx hb d_law_226 rfl (lv_at hl 0 rfl) ?_
  refine lv_iload_n hx hb d_law_227 rfl (lv_at hl 3 rfl) ?_
  refine lv_iconst (v := 1) hx hb d_law_228 (by decide) ?_
  refine lv_iadd hx hb d_law_229 ?_
  refine va_sld hx hb hsc hbl hbA hS1 h1 d_law_230 ?_
  refine zl_call (ad := adM) (sh := zshM) (N := 15) (Q' := fun r σ' => r = some (.int (c_letter a (xs (i + 1).toNatClampNeg)).1) ∧ WX σ' (c_letter a (xs (i + 1).toNatClampNeg)).2) hfv zshM_ok iM hx hb hml hown hts hK h0M aM hS1 hPM1 (mi := 170) rfl [.int (xs (i + 1).toNatClampNeg)] (M_letter hM (fun σ' h => ⟨rfl, h⟩)) (Nat.le_of_ble_eq_true rfl) rfl (by decide) (by decide) rfl (zg5 (List.mem_of_getElem? (i := 168) rfl) rfl) ⟨(Nat.le_of_ble_eq_true rfl), (Nat.le_of_ble_eq_true rfl)⟩ hl.1 (Nat.le_of_ble_eq_true rfl) d_law_231 rfl (fun r σM' H2 locs2 hq hPM2 hk2 hS2 => ?_) (Nat.le_refl _) (Nat.le_refl _)
  obtain ⟨rfl, hM1⟩ := hq
  have hPX2 := zl_keep hPX1 hk2 (fun i j g1 g2 e => hd j i g2 g1 e.symm)
  refine lv_icmp_eq (tgt := 1244) hx hb d_law_234 (by decide) (fun _ => ?_) (fun h => absurd rfl h)
  exact kk _ σX' σM' H2 locs2 hX1 hM1 hPX2 hPM2 hS2
set_option maxRecDepth 20000 in
set_option maxHeartbeats 4000000 in
theorem lc_bridge (C : zLC p l s m args c b L xs D cI adX adM fv) (hX : RX σX a) (hM : WX σM a) (hPX : va_P D vwCl (zW cI adX zshX 44 σX) H) (hPM : va_P D vwCl (zW cI adM zshM 15 σM) H) (hS : va_S (fun q : Nat => s.heap.size ≤ q) s.heap H locs) (hl : lv_has ls 4 [(0, .ref b), (1, .ref (adX 0)), (2, .ref (adM 0)), (3, .int i)]) (h1 : vp_in (i + 1) L) (h2 : vp_in (i + 2) L) (h3 : vp_in (i + 3) L) (kk : ∀ (a' : At) (σX' σM' : zG) (H' : Heap) (locs' : List Loc), RX σX' a' → WX σM' a' → va_P D vwCl (zW cI adX zshX 44 σX') H' → va_P D vwCl (zW cI adM zshM 15 σM') H' → va_S (fun q : Nat => s.heap.size ≤ q) s.heap H' locs' → W p l e room_1 s m args below meth c H' locs' 59 1154 Q (F0 m 1244 ls [])) : W p l e room_1 s m args below meth c H locs 59 1154 Q (F0 m 239 ls []) := by
  obtain ⟨hfv, iX, iM, hd, hx, hb, hml, hown, hts, hK, h0X, h0M, aX, aM, hsc, hbl⟩ := C
  have hbA : ¬ (fun q : Nat => s.heap.size ≤ q) b := Nat.not_le.mpr hbl
  refine lv_aload_n hx hb d_law_239 rfl (lv_at hl 1 rfl) ?_
  refine zl_call (ad := adX) (sh := zshX) (N := 44) (Q' := fun r σ' => r = some (.int (c_bridge a).1) ∧ RX σ' (c_bridge a).2) hfv zshX_ok iX hx hb hml hown hts hK h0X aX hS hPX (mi := 104) rfl [] (X_bridge hX (fun σ' h => ⟨rfl, h⟩)) (Nat.le_of_ble_eq_true rfl) rfl (by decide) (by decide) rfl (zg1 (List.mem_of_getElem? (i := 236) rfl) rfl) ⟨(Nat.le_of_ble_eq_true rfl), (Nat.le_of_ble_eq_true rfl)⟩ hl.1 (Nat.le_of_ble_eq_true rfl) d_law_240 rfl (fun r σX' H1 locs1 hq hPX1 hk hS1 => ?_) (Nat.le_refl _) (Nat.le_refl _)
  obtain ⟨rfl, hX1⟩ := hq
  have hPM1 := zl_keep hPM hk hd
  refine lv_aload_n hx hb d_law_243 rfl (lv_at hl 2 rfl) ?_
  refine zl_call (ad := adM) (sh := zshM) (N := 15) (Q' := fun r σ' => r = some (.int (c_bridge a).1) ∧ WX σ' (c_bridge a).2) hfv zshM_ok iM hx hb hml hown hts hK h0M aM hS1 hPM1 (mi := 180) rfl [] (M_bridge hM (fun σ' h => ⟨rfl, h⟩)) (Nat.le_of_ble_eq_true rfl) rfl (by decide) (by decide) rfl (zg5 (List.mem_of_getElem? (i := 179) rfl) rfl) ⟨(Nat.le_of_ble_eq_true rfl), (Nat.le_of_ble_eq_true rfl)⟩ hl.1 (Nat.le_of_ble_eq_true rfl) d_law_244 rfl (fun r σM' H2 locs2 hq hPM2 hk2 hS2 => ?_) (Nat.le_refl _) (Nat.le_refl _)
  obtain ⟨rfl, hM1⟩ := hq
  have hPX2 := zl_keep hPX1 hk2 (fun i j g1 g2 e => hd j i g2 g1 e.symm)
  refine lv_icmp_eq (tgt := 1244) hx hb d_law_247 (by decide) (fun _ => ?_) (fun h => absurd rfl h)
  exact kk _ σX' σM' H2 locs2 hX1 hM1 hPX2 hPM2 hS2
set_option maxRecDepth 20000 in
set_option maxHeartbeats 4000000 in
theorem lc_stone (C : zLC p l s m args c b L xs D cI adX adM fv) (hX : RX σX a) (hM : WX σM a) (hPX : va_P D vwCl (zW cI adX zshX 44 σX) H) (hPM : va_P D vwCl (zW cI adM zshM 15 σM) H) (hS : va_S (fun q : Nat => s.heap.size ≤ q) s.heap H locs) (hl : lv_has ls 4 [(0, .ref b), (1, .ref (adX 0)), (2, .ref (adM 0)), (3, .int i)]) (h1 : vp_in (i + 1) L) (h2 : vp_in (i + 2) L) (h3 : vp_in (i + 3) L) (kk : ∀ (a' : At) (σX' σM' : zG) (H' : Heap) (locs' : List Loc), RX σX' a' → WX σM' a' → va_P D vwCl (zW cI adX zshX 44 σX') H' → va_P D vwCl (zW cI adM zshM 15 σM') H' → va_S (fun q : Nat => s.heap.size ≤ q) s.heap H' locs' → W p l e room_1 s m args below meth c H' locs' 59 1154 Q (F0 m 1244 ls [])) : W p l e room_1 s m args below meth c H locs 59 1154 Q (F0 m 252 ls []) := by
  obtain ⟨hfv, iX, iM, hd, hx, hb, hml, hown, hts, hK, h0X, h0M, aX, aM, hsc, hbl⟩ := C
  have hbA : ¬ (fun q : Nat => s.heap.size ≤ q) b := Nat.not_le.mpr hbl
  refine lv_aload_n hx hb d_law_252 rfl (lv_at hl 1 rfl) ?_
  refine lv_aload_n hx hb d_law_253 rfl (lv_at hl 0 rfl) ?_
  refine lv_iload_n hx hb d_law_254 rfl (lv_at hl 3 rfl) ?_
  refine lv_iconst (v := 1) hx hb d_law_255 (by decide) ?_
  refine lv_iadd hx hb d_law_256 ?_
  refine va_sld hx hb hsc hbl hbA hS h1 d_law_257 ?_
  refine lv_aload_n hx hb d_law_258 rfl (lv_at hl 0 rfl) ?_
  refine lv_iload_n hx hb d_law_259 rfl (lv_at hl 3 rfl) ?_
  refine lv_iconst (v := 2) hx hb d_law_260 (by decide) ?_
  refine lv_iadd hx hb d_law_261 ?_
  refine va_sld hx hb hsc hbl hbA hS h2 d_law_262 ?_
  refine zl_call (ad := adX) (sh := zshX) (N := 44) (Q' := fun r σ' => r = some (.int (c_stone a (xs (i + 1).toNatClampNeg) (xs (i + 2).toNatClampNeg)).1) ∧ RX σ' (c_stone a (xs (i + 1).toNatClampNeg) (xs (i + 2).toNatClampNeg)).2) hfv zshX_ok iX hx hb hml hown hts hK h0X aX hS hPX (mi := 105) rfl [.int (xs (i + 1).toNatClampNeg), .int (xs (i + 2).toNatClampNeg)] (X_stone hX (fun σ' h => ⟨rfl, h⟩)) (Nat.le_of_ble_eq_true rfl) rfl (by decide) (by decide) rfl (zg3 (List.mem_of_getElem? (i := 23) rfl) rfl) ⟨(Nat.le_of_ble_eq_true rfl), (Nat.le_of_ble_eq_true rfl)⟩ hl.1 (Nat.le_of_ble_eq_true rfl) d_law_263 rfl (fun r σX' H1 locs1 hq hPX1 hk hS1 => ?_) (Nat.le_refl _) (Nat.le_refl _)
  obtain ⟨rfl, hX1⟩ := hq
  have hPM1 := zl_keep hPM hk hd
  refine lv_aload_n hx hb d_law_266 rfl (lv_at hl 2 rfl) ?_
  refine lv_aload_n hx hb d_law_267 rfl (lv_at hl 0 rfl) ?_
  refine lv_iload_n hx hb d_law_268 rfl (lv_at hl 3 rfl) ?_
  refine lv_iconst (v := 1) hx hb d_law_269 (by decide) ?_
  refine lv_iadd hx hb d_law_270 ?_
  refine va_sld hx hb hsc hbl hbA hS1 h1 d_law_271 ?_
  refine lv_aload_n hx hb d_law_272 rfl (lv_at hl 0 rfl) ?_
  refine lv_iload_n hx hb d_law_273 rfl (lv_at hl 3 rfl) ?_
  refine lv_iconst (v := 2) hx hb d_law_274 (by decide) ?_
  refine lv_iadd hx hb d_law_275 ?_
  refine va_sld hx hb hsc hbl hbA hS1 h2 d_law_276 ?_
  refine zl_call (ad := adM) (sh := zshM) (N := 15) (Q' := fun r σ' => r = some (.int (c_stone a (xs (i + 1).toNatClampNeg) (xs (i + 2).toNatClampNeg)).1) ∧ WX σ' (c_stone a (xs (i + 1).toNatClampNeg) (xs (i + 2).toNatClampNeg)).2) hfv zshM_ok iM hx hb hml hown hts hK h0M aM hS1 hPM1 (mi := 205) rfl [.int (xs (i + 1).toNatClampNeg), .int (xs (i + 2).toNatClampNeg)] (M_stone hM (fun σ' h => ⟨rfl, h⟩)) (Nat.le_of_ble_eq_true rfl) rfl (by decide) (by decide) rfl (zg6 (List.mem_of_getElem? (i := 28) rfl) rfl) ⟨(Nat.le_of_ble_eq_true rfl), (Nat.le_of_ble_eq_true rfl)⟩ hl.1 (Nat.le_of_ble_eq_true rfl) d_law_277 rfl (fun r σM' H2 locs2 hq hPM2 hk2 hS2 => ?_) (Nat.le_refl _) (Nat.le_refl _)
  obtain ⟨rfl, hM1⟩ := hq
  have hPX2 := zl_keep hPX1 hk2 (fun i j g1 g2 e => hd j i g2 g1 e.symm)
  refine lv_icmp_eq (tgt := 1244) hx hb d_law_280 (by decide) (fun _ => ?_) (fun h => absurd rfl h)
  exact kk _ σX' σM' H2 locs2 hX1 hM1 hPX2 hPM2 hS2
end
