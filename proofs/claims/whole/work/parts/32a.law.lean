theorem and63 (x : Int32) : ∃ k, k < 64 ∧ x &&& 63 = nI k := by
  have e : (x &&& 63).toBitVec = x.toBitVec &&& 63#32 := rfl
  have h : ((x &&& 63).toBitVec).toNat < 64 := by
    rw [e, BitVec.toNat_and]
    exact Nat.lt_of_le_of_lt Nat.and_le_right (by decide)
  refine ⟨((x &&& 63).toBitVec).toNat, h, ?_⟩
  apply Int32.toBitVec.inj
  show (x &&& 63).toBitVec = BitVec.ofNat 32 _
  rw [BitVec.ofNat_toNat, BitVec.setWidth_eq]
section
variable {p : Program} {l : Launch} {e : Env} {s : State} {m : MethodId} {below : List Frame} {meth : Method} {c : Code} {D : va_G} {cI : ClassId} {adX adM : Nat → Nat} {fv : Value} {b L : Nat} {xs : Nat → Int32}
set_option maxRecDepth 20000 in
set_option maxHeartbeats 4000000 in
/-- the switch -/
theorem law_switch (C : zLC p l s m #[Value.ref b] c b L xs D cI adX adM fv) {a : At} {σX σM : zG} {H : Heap} {locs : List Loc} {ls : Array Slot} {i : Int32} {Q : State → Prop} (hX : RX σX a) (hM : WX σM a) (hPX : va_P D vwCl (zW cI adX zshX 44 σX) H) (hPM : va_P D vwCl (zW cI adM zshM 15 σM) H) (hS : va_S (fun q : Nat => s.heap.size ≤ q) s.heap H locs) (hl : lv_has ls 4 [(0, .ref b), (1, .ref (adX 0)), (2, .ref (adM 0)), (3, .int i)]) (h1 : vp_in (i + 1) L) (h2 : vp_in (i + 2) L) (h3 : vp_in (i + 3) L) (tail : ∀ (a' : At) (σX' σM' : zG) (H' : Heap) (locs' : List Loc), RX σX' a' → WX σM' a' → va_P D vwCl (zW cI adX zshX 44 σX') H' → va_P D vwCl (zW cI adM zshM 15 σM') H' → va_S (fun q : Nat => s.heap.size ≤ q) s.heap H' locs' → W p l e room_1 s m #[Value.ref b] below meth c H' locs' 59 1154 Q (F0 m 1244 ls [])) : ∀ k : Nat, k < 64 → W p l e room_1 s m #[Value.ref b] below meth c H locs 59 1154 Q (F0 m 32 ls [.int (nI k)]) := by
  obtain ⟨hfv, iX, iM, hd, hx, hb, hml, hown, hts, hK, h0X, h0M, aX, aM, hsc, hbl⟩ := id C
  intro k hk
  match k, hk with
  | 0, _ =>
    exact lv_tableIn (off := 184) hx hb d_law_32 (by decide) (by decide) rfl rfl (lc_letter C hX hM hPX hPM hS hl h1 h2 h3 tail)
  | 1, _ =>
    exact lv_tableIn (off := 207) hx hb d_law_32 (by decide) (by decide) rfl rfl (lc_bridge C hX hM hPX hPM hS hl h1 h2 h3 tail)
  | 2, _ =>
    exact lv_tableIn (off := 220) hx hb d_law_32 (by decide) (by decide) rfl rfl (lc_stone C hX hM hPX hPM hS hl h1 h2 h3 tail)
  | 3, _ =>
    exact lv_tableIn (off := 253) hx hb d_law_32 (by decide) (by decide) rfl rfl (lc_joint C hX hM hPX hPM hS hl h1 h2 h3 tail)
  | 4, _ =>
    exact lv_tableIn (off := 286) hx hb d_law_32 (by decide) (by decide) rfl rfl (lc_mason C hX hM hPX hPM hS hl h1 h2 h3 tail)
  | 5, _ =>
    exact lv_tableIn (off := 319) hx hb d_law_32 (by decide) (by decide) rfl rfl (lc_lays C hX hM hPX hPM hS hl h1 h2 h3 tail)
  | 6, _ =>
    exact lv_tableIn (off := 362) hx hb d_law_32 (by decide) (by decide) rfl rfl (lc_corrects C hX hM hPX hPM hS hl h1 h2 h3 tail)
  | 7, _ =>
    exact lv_tableIn (off := 405) hx hb d_law_32 (by decide) (by decide) rfl rfl (lc_takes C hX hM hPX hPM hS hl h1 h2 h3 tail)
  | 8, _ =>
    exact lv_tableIn (off := 428) hx hb d_law_32 (by decide) (by decide) rfl rfl (lc_styles C hX hM hPX hPM hS hl h1 h2 h3 tail)
  | 9, _ =>
    exact lv_tableIn (off := 461) hx hb d_law_32 (by decide) (by decide) rfl rfl (lc_hands C hX hM hPX hPM hS hl h1 h2 h3 tail)
  | 10, _ =>
    exact lv_tableIn (off := 494) hx hb d_law_32 (by decide) (by decide) rfl rfl (lc_spites C hX hM hPX hPM hS hl h1 h2 h3 tail)
  | 11, _ =>
    exact lv_tableIn (off := 527) hx hb d_law_32 (by decide) (by decide) rfl rfl (lc_days C hX hM hPX hPM hS hl h1 h2 h3 tail)
  | 12, _ =>
    exact lv_tableIn (off := 550) hx hb d_law_32 (by decide) (by decide) rfl rfl (lc_stands C hX hM hPX hPM hS hl h1 h2 h3 tail)
  | 13, _ =>
    exact lv_tableIn (off := 573) hx hb d_law_32 (by decide) (by decide) rfl rfl (lc_spare C hX hM hPX hPM hS hl h1 h2 h3 tail)
  | 14, _ =>
    exact lv_tableIn (off := 596) hx hb d_law_32 (by decide) (by decide) rfl rfl (lc_lean C hX hM hPX hPM hS hl h1 h2 h3 tail)
  | 15, _ =>
    exact lv_tableIn (off := 619) hx hb d_law_32 (by decide) (by decide) rfl rfl (lc_then C hX hM hPX hPM hS hl h1 h2 h3 tail)
  | 16, _ =>
    exact lv_tableIn (off := 652) hx hb d_law_32 (by decide) (by decide) rfl rfl (lc_up C hX hM hPX hPM hS hl h1 h2 h3 tail)
  | 17, _ =>
    exact lv_tableIn (off := 675) hx hb d_law_32 (by decide) (by decide) rfl rfl (lc_next C hX hM hPX hPM hS hl h1 h2 h3 tail)
  | 18, _ =>
    exact lv_tableIn (off := 698) hx hb d_law_32 (by decide) (by decide) rfl rfl (lc_mend C hX hM hPX hPM hS hl h1 h2 h3 tail)
  | 19, _ =>
    exact lv_tableIn (off := 711) hx hb d_law_32 (by decide) (by decide) rfl rfl (lc_fewest C hX hM hPX hPM hS hl h1 h2 h3 tail)
  | 20, _ =>
    exact lv_tableIn (off := 724) hx hb d_law_32 (by decide) (by decide) rfl rfl (lc_take C hX hM hPX hPM hS hl h1 h2 h3 tail)
  | 21, _ =>
    exact lv_tableIn (off := 737) hx hb d_law_32 (by decide) (by decide) rfl rfl (lc_turnBack C hX hM hPX hPM hS hl h1 h2 h3 tail)
  | 22, _ =>
    exact lv_tableIn (off := 750) hx hb d_law_32 (by decide) (by decide) rfl rfl (lc_runs C hX hM hPX hPM hS hl h1 h2 h3 tail)
  | 23, _ =>
    exact lv_tableIn (off := 773) hx hb d_law_32 (by decide) (by decide) rfl rfl (lc_kinds C hX hM hPX hPM hS hl h1 h2 h3 tail)
  | 24, _ =>
    exact lv_tableIn (off := 796) hx hb d_law_32 (by decide) (by decide) rfl rfl (lc_keystone C hX hM hPX hPM hS hl h1 h2 h3 tail)
  | 25, _ =>
    exact lv_tableIn (off := 809) hx hb d_law_32 (by decide) (by decide) rfl rfl (lc_mortar C hX hM hPX hPM hS hl h1 h2 h3 tail)
  | 26, _ =>
    exact lv_tableIn (off := 822) hx hb d_law_32 (by decide) (by decide) rfl rfl (lc_yields C hX hM hPX hPM hS hl h1 h2 h3 tail)
  | 27, _ =>
    exact lv_tableIn (off := 845) hx hb d_law_32 (by decide) (by decide) rfl rfl (lc_best C hX hM hPX hPM hS hl h1 h2 h3 tail)
  | 28, _ =>
    exact lv_tableIn (off := 888) hx hb d_law_32 (by decide) (by decide) rfl rfl (lc_peace C hX hM hPX hPM hS hl h1 h2 h3 tail)
  | 29, _ =>
    exact lv_tableIn (off := 901) hx hb d_law_32 (by decide) (by decide) rfl rfl (lc_swap C hX hM hPX hPM hS hl h1 h2 h3 tail)
  | 30, _ =>
    exact lv_tableIn (off := 924) hx hb d_law_32 (by decide) (by decide) rfl rfl (lc_two C hX hM hPX hPM hS hl h1 h2 h3 tail)
  | 31, _ =>
    exact lv_tableIn (off := 947) hx hb d_law_32 (by decide) (by decide) rfl rfl (lc_fever C hX hM hPX hPM hS hl h1 h2 h3 tail)
  | 32, _ =>
    exact lv_tableIn (off := 991) hx hb d_law_32 (by decide) (by decide) rfl rfl (lc_mean C hX hM hPX hPM hS hl h1 h2 h3 tail)
  | 33, _ =>
    exact lv_tableIn (off := 1015) hx hb d_law_32 (by decide) (by decide) rfl rfl (lc_whoLaid C hX hM hPX hPM hS hl h1 h2 h3 tail)
  | 34, _ =>
    exact lv_tableIn (off := 1038) hx hb d_law_32 (by decide) (by decide) rfl rfl (lc_whatIs C hX hM hPX hPM hS hl h1 h2 h3 tail)
  | 35, _ =>
    exact lv_tableIn (off := 1071) hx hb d_law_32 (by decide) (by decide) rfl rfl (lc_row C hX hM hPX hPM hS hl h1 h2 h3 tail)
  | 36, _ =>
    exact lv_tableIn (off := 1094) hx hb d_law_32 (by decide) (by decide) rfl rfl (lc_judge C hX hM hPX hPM hS hl h1 h2 h3 tail)
  | 37, _ =>
    exact lv_tableIn (off := 1107) hx hb d_law_32 (by decide) (by decide) rfl rfl (lc_clear C hX hM hPX hPM hS hl h1 h2 h3 tail)
  | 38, _ =>
    exact lv_tableIn (off := 1120) hx hb d_law_32 (by decide) (by decide) rfl rfl (lc_lots C hX hM hPX hPM hS hl h1 h2 h3 tail)
  | 39, _ =>
    exact lv_tableIn (off := 1163) hx hb d_law_32 (by decide) (by decide) rfl rfl (lc_image C hX hM hPX hPM hS hl h1 h2 h3 tail)
  | 40, _ =>
    exact lv_tableIn (off := 1176) hx hb d_law_32 (by decide) (by decide) rfl rfl (lc_on C hX hM hPX hPM hS hl h1 h2 h3 tail)
  | 41, _ =>
    exact lv_tableIn (off := 1189) hx hb d_law_32 (by decide) (by decide) rfl rfl (lc_count C hX hM hPX hPM hS hl h1 h2 h3 tail)
  | k + 42, hk =>
    exact lv_tableOut (tgt := 1244) hx hb d_law_32 (Or.inr (by rw [nI_toInt (by omega)]; omega)) (by decide) (tail a σX σM H locs hX hM hPX hPM hS)
set_option maxRecDepth 20000 in
set_option maxHeartbeats 4000000 in
/-- THE LOOP: j calls are through -/
theorem law_loop (C : zLC p l s m #[Value.ref b] c b L xs D cI adX adM fv) (hL : L ≤ 2048) (hr : meth.sig.returnType = ret) (hlocks : meth.locks = false) : ∀ (n j : Nat), L ≤ 4 * (j + n) → 4 * j ≤ 2048 → ∀ (a : At) (σX σM : zG) (H : Heap) (locs : List Loc) (ls : Array Slot), RX σX a → WX σM a → va_P D vwCl (zW cI adX zshX 44 σX) H → va_P D vwCl (zW cI adM zshM 15 σM) H → va_S (fun q : Nat => s.heap.size ≤ q) s.heap H locs → lv_has ls 4 [(0, .ref b), (1, .ref (adX 0)), (2, .ref (adM 0)), (3, .int (nI (4 * j)))] → W p l e room_1 s m #[Value.ref b] below meth c H locs 59 1154 (lw_Z below #[Value.ref b] s) (F0 m 18 ls []) := by
  obtain ⟨hfv, iX, iM, hd, hx, hb, hml, hown, hts, hK, h0X, h0M, aX, aM, hsc, hbl⟩ := id C
  have hbA : ¬ (fun q : Nat => s.heap.size ≤ q) b := Nat.not_le.mpr hbl
  -- the loop's head: out, or on with one call more
  have head : ∀ (j : Nat) (H : Heap) (locs : List Loc) (ls : Array Slot), 4 * j ≤ 2048 → va_S (fun q : Nat => s.heap.size ≤ q) s.heap H locs → lv_has ls 4 [(0, .ref b), (1, .ref (adX 0)), (2, .ref (adM 0)), (3, .int (nI (4 * j)))] → (4 * j + 4 ≤ L → W p l e room_1 s m #[Value.ref b] below meth c H locs 59 1154 (lw_Z below #[Value.ref b] s) (F0 m 26 ls [])) → W p l e room_1 s m #[Value.ref b] below meth c H locs 59 1154 (lw_Z below #[Value.ref b] s) (F0 m 18 ls []) := by
    intro j H locs ls hj hS hl kk
    refine lv_iload_n hx hb d_law_18 rfl (lv_at hl 3 rfl) ?_
    refine lv_aload_n hx hb d_law_19 rfl (lv_at hl 0 rfl) ?_
    refine va_slen hx hb hsc hbl hbA hS d_law_20 ?_
    refine lv_iconst (v := 4) hx hb d_law_21 (by decide) ?_
    refine lv_isub hx hb d_law_22 ?_
    refine lv_icmp_gt (tgt := 1250) hx hb d_law_23 (by decide) (fun _ => ?_) (fun c9 => ?_)
    · refine lv_iconst (v := 1) hx hb d_law_1250 (by decide) ?_
      refine va_forget (fun q h => hS.2.2 q h) ?_
      exact lw_ret hx hb hr hlocks d_law_1251
    · refine kk ?_
      by_cases h4 : 4 ≤ L
      · have e4 : (Int32.ofNat L - 4 : Int32) = nI (L - 4) := pk_sub (b := 4) h4
        rw [e4, zlt (by omega) (by omega)] at c9
        omega
      · exfalso
        apply c9
        have key : ∀ L, L < 4 → nI L - 4 < 0 := by decide
        refine Int32.lt_of_lt_of_le (key L (by omega)) ?_
        exact Int32.not_lt.mp (nI_pos (by omega))
  -- one call
  have body : ∀ (j : Nat), 4 * j + 4 ≤ L → (∀ (a : At) (σX σM : zG) (H : Heap) (locs : List Loc) (ls : Array Slot), RX σX a → WX σM a → va_P D vwCl (zW cI adX zshX 44 σX) H → va_P D vwCl (zW cI adM zshM 15 σM) H → va_S (fun q : Nat => s.heap.size ≤ q) s.heap H locs → lv_has ls 4 [(0, .ref b), (1, .ref (adX 0)), (2, .ref (adM 0)), (3, .int (nI (4 * (j + 1))))] → W p l e room_1 s m #[Value.ref b] below meth c H locs 59 1154 (lw_Z below #[Value.ref b] s) (F0 m 18 ls [])) → ∀ (a : At) (σX σM : zG) (H : Heap) (locs : List Loc) (ls : Array Slot), RX σX a → WX σM a → va_P D vwCl (zW cI adX zshX 44 σX) H → va_P D vwCl (zW cI adM zshM 15 σM) H → va_S (fun q : Nat => s.heap.size ≤ q) s.heap H locs → lv_has ls 4 [(0, .ref b), (1, .ref (adX 0)), (2, .ref (adM 0)), (3, .int (nI (4 * j)))] → W p l e room_1 s m #[Value.ref b] below meth c H locs 59 1154 (lw_Z below #[Value.ref b] s) (F0 m 26 ls []) := by
    intro j hj ih a σX σM H locs ls hX hM hPX hPM hS hl
    have n1 : nI (4 * j) + 1 = nI (4 * j + 1) := nI_add _ 1
    have n2 : nI (4 * j) + 2 = nI (4 * j + 2) := nI_add _ 2
    have n3 : nI (4 * j) + 3 = nI (4 * j + 3) := nI_add _ 3
    have n4 : nI (4 * j) + 4 = nI (4 * (j + 1)) := nI_add _ 4
    have h0 : vp_in (nI (4 * j)) L := vp_in_nI (by omega) (by omega)
    have h1 : vp_in (nI (4 * j) + 1) L := by rw [n1]; exact vp_in_nI (by omega) (by omega)
    have h2 : vp_in (nI (4 * j) + 2) L := by rw [n2]; exact vp_in_nI (by omega) (by omega)
    have h3 : vp_in (nI (4 * j) + 3) L := by rw [n3]; exact vp_in_nI (by omega) (by omega)
    refine lv_aload_n hx hb d_law_26 rfl (lv_at hl 0 rfl) ?_
    refine lv_iload_n hx hb d_law_27 rfl (lv_at hl 3 rfl) ?_
    refine va_sld hx hb hsc hbl hbA hS h0 d_law_28 ?_
    refine lv_bipush (v := 63) hx hb d_law_29 (by decide) ?_
    refine lv_iand hx hb d_law_31 ?_
    obtain ⟨k, hk, ek⟩ := and63 (xs (nI (4 * j)).toNatClampNeg)
    rw [ek]
    refine law_switch C hX hM hPX hPM hS hl h1 h2 h3 (fun a' σX' σM' H' locs' hX' hM' hPX' hPM' hS' => ?_) k hk
    refine lv_iinc (v := nI (4 * (j + 1))) (lv' := [(3, .int (nI (4 * (j + 1)))), (0, .ref b), (1, .ref (adX 0)), (2, .ref (adM 0))]) hx hb d_law_1244 hl (k := 3) rfl n4 (by decide) rfl (fun ls hl => ?_)
    refine lv_goto (tgt := 18) hx hb d_law_1247 (by decide) ?_
    exact ih a' σX' σM' H' locs' ls hX' hM' hPX' hPM' hS' (lv_sub hl [1, 2, 3, 0] rfl)
  intro n
  induction n with
  | zero =>
    intro j h1 h2 a σX σM H locs ls hX hM hPX hPM hS hl
    exact head j H locs ls h2 hS hl (fun h => by omega)
  | succ n ih =>
    intro j h1 h2 a σX σM H locs ls hX hM hPX hPM hS hl
    exact head j H locs ls h2 hS hl (fun h => body j h (ih (j + 1) (by omega) (by omega)) a σX σM H locs ls hX hM hPX hPM hS hl)
end
