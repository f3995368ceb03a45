/-- where the texts stand among the constants of their class -/
def zsix : List Nat := [48, 50, 52, 54, 56, 58, 33]
def zstx : List String := ["kdd;", "dkd;", "dkdd;", "d;", "dd;", "", "pewhkr"]
def zNest : Jvm.Cond → Bool
  | .fieldLinkNest .. => true
  | .methodLinkNest .. => true
  | _ => false
/-- the links between nest mates -/
def zNL : List Jvm.Cond := lw_tbl.filter zNest
theorem zn1 {w : Jvm.Cond} (h : w ∈ tables_1_1) (hg : zNest w = true) : w ∈ zNL := List.mem_filter.mpr ⟨List.mem_append_right _ (List.mem_append_left _ h), hg⟩
theorem zn2 {w : Jvm.Cond} (h : w ∈ tables_1_2) (hg : zNest w = true) : w ∈ zNL := List.mem_filter.mpr ⟨List.mem_append_right _ (List.mem_append_right _ (List.mem_append_left _ h)), hg⟩
theorem zn3 {w : Jvm.Cond} (h : w ∈ tables_1_3) (hg : zNest w = true) : w ∈ zNL := List.mem_filter.mpr ⟨List.mem_append_right _ (List.mem_append_right _ (List.mem_append_right _ (List.mem_append_left _ h))), hg⟩
theorem zn4 {w : Jvm.Cond} (h : w ∈ tables_1_4) (hg : zNest w = true) : w ∈ zNL := List.mem_filter.mpr ⟨List.mem_append_right _ (List.mem_append_right _ (List.mem_append_right _ (List.mem_append_right _ (List.mem_append_left _ h)))), hg⟩
theorem zn5 {w : Jvm.Cond} (h : w ∈ tables_1_5) (hg : zNest w = true) : w ∈ zNL := List.mem_filter.mpr ⟨List.mem_append_right _ (List.mem_append_right _ (List.mem_append_right _ (List.mem_append_right _ (List.mem_append_right _ (List.mem_append_left _ h))))), hg⟩
theorem zn6 {w : Jvm.Cond} (h : w ∈ tables_1_6) (hg : zNest w = true) : w ∈ zNL := List.mem_filter.mpr ⟨List.mem_append_right _ (List.mem_append_right _ (List.mem_append_right _ (List.mem_append_right _ (List.mem_append_right _ (List.mem_append_right _ (List.mem_append_left _ h)))))), hg⟩
theorem zn7 {w : Jvm.Cond} (h : w ∈ tables_1_7) (hg : zNest w = true) : w ∈ zNL := List.mem_filter.mpr ⟨List.mem_append_right _ (List.mem_append_right _ (List.mem_append_right _ (List.mem_append_right _ (List.mem_append_right _ (List.mem_append_right _ (List.mem_append_right _ (h))))))), hg⟩
def zLkFact (own idx : Nat) : Nat × Nat × Nat → Prop
  | (0, ci, q) => ∃ (C : String) (T : u_T) (N : Nat), vwCl[ci]? = some (C, T, N) ∧ q < N ∧ Jvm.Cond.fieldLink (zOwn own) idx C (T q).2.1 (T q).2.2.1 ∈ zWL ∧ (T q).1 = C ∧ (zfr ci q 0 = none → (T q).2.2.2 = false ∧ parseFieldDescriptor (T q).2.2.1 = some (zfty ci q))
  | (1, ci, q) => ∃ (C : String) (T : u_T) (N : Nat), vwCl[ci]? = some (C, T, N) ∧ q < N ∧ Jvm.Cond.fieldLinkNest (zOwn own) idx C (T q).2.1 (T q).2.2.1 "BridgeByTwo" ∈ zNL ∧ (T q).1 = C ∧ (zfr ci q 0 = none → (T q).2.2.2 = false ∧ parseFieldDescriptor (T q).2.2.1 = some (zfty ci q))
  | (2, c, _) => ∃ mi : zMI, zMs[c]? = some mi ∧ Jvm.Cond.methodLink (zOwn own) idx mi.2.1 ∈ zWL
  | (3, c, _) => ∃ mi : zMI, zMs[c]? = some mi ∧ Jvm.Cond.methodLinkNest (zOwn own) idx mi.2.1 "BridgeByTwo" ∈ zNL
  | (4, _, _) => Jvm.Cond.fieldLink (zOwn own) idx "java/lang/String" "value" "[B" ∈ zWL
  | (5, _, _) => Jvm.Cond.fieldLink (zOwn own) idx "java/lang/String" "coder" "B" ∈ zWL
  | (6, 0, _) => Jvm.Cond.fieldLink (zOwn own) idx "java/lang/String" "COMPACT_STRINGS" "Z" ∈ zWL
  | (6, 1, _) => Jvm.Cond.fieldLink (zOwn own) idx "jdk/internal/util/Preconditions" "SIOOBE_FORMATTER" "Ljava/util/function/BiFunction;" ∈ zWL
  | (8, 0, _) => Jvm.Cond.methodLink (zOwn own) idx Lib.Math.min.name ∈ zWL
  | (8, 1, _) => Jvm.Cond.methodLink (zOwn own) idx Lib.Math.max.name ∈ zWL
  | (8, 2, _) => Jvm.Cond.methodLink (zOwn own) idx Lib.Math.abs.name ∈ zWL
  | (7, k, _) => own = 3 ∧ k < 7 ∧ zsix.getD k 0 = idx
  | _ => True
theorem zlook {α : Type} : ∀ (l : List (Nat × α)) (k : Nat) (v : α), l.lookup k = some v → (k, v) ∈ l := by
  intro l
  induction l with
  | nil => intro k v h; cases h
  | cons a l ih =>
    intro k v h
    obtain ⟨k0, v0⟩ := a
    rw [List.lookup] at h
    by_cases e : k = k0
    · subst e
      rw [beq_self_eq_true] at h
      cases h
      exact List.mem_cons_self
    · rw [show (k == k0) = false from beq_false_of_ne e] at h
      exact List.mem_cons_of_mem _ (ih k v h)
set_option maxRecDepth 20000 in
theorem lf_0_12 : zLkFact 0 12 (0, 0, 0) := ⟨RX0, TX0, 5, rfl, by decide, zg1 (List.mem_of_getElem? (i := 80) rfl) rfl, rfl, fun h => absurd h (by decide)⟩
set_option maxRecDepth 20000 in
theorem lf_0_21 : zLkFact 0 21 (0, 0, 1) := ⟨RX0, TX0, 5, rfl, by decide, zg1 (List.mem_of_getElem? (i := 84) rfl) rfl, rfl, fun h => absurd h (by decide)⟩
set_option maxRecDepth 20000 in
theorem lf_0_25 : zLkFact 0 25 (0, 0, 2) := ⟨RX0, TX0, 5, rfl, by decide, zg1 (List.mem_of_getElem? (i := 86) rfl) rfl, rfl, fun h => absurd h (by decide)⟩
set_option maxRecDepth 20000 in
theorem lf_0_28 : zLkFact 0 28 (2, 63, 0) := ⟨mi_Stones_become, rfl, zg2 (List.mem_of_getElem? (i := 157) rfl) rfl⟩
set_option maxRecDepth 20000 in
theorem lf_0_32 : zLkFact 0 32 (2, 44, 0) := ⟨mi_Mason_become, rfl, zg2 (List.mem_of_getElem? (i := 161) rfl) rfl⟩
set_option maxRecDepth 20000 in
theorem lf_0_35 : zLkFact 0 35 (0, 0, 3) := ⟨RX0, TX0, 5, rfl, by decide, zg1 (List.mem_of_getElem? (i := 88) rfl) rfl, rfl, fun _ => ⟨by first | rfl | (exfalso; revert ‹zfr _ _ _ = none›; decide), by first | decide +kernel | (exfalso; revert ‹zfr _ _ _ = none›; decide)⟩⟩
set_option maxRecDepth 20000 in
theorem lf_0_39 : zLkFact 0 39 (0, 0, 4) := ⟨RX0, TX0, 5, rfl, by decide, zg1 (List.mem_of_getElem? (i := 91) rfl) rfl, rfl, fun _ => ⟨by first | rfl | (exfalso; revert ‹zfr _ _ _ = none›; decide), by first | decide +kernel | (exfalso; revert ‹zfr _ _ _ = none›; decide)⟩⟩
set_option maxRecDepth 20000 in
theorem lf_0_42 : zLkFact 0 42 (2, 4, 0) := ⟨mi_Bridge_passDay, rfl, zg2 (List.mem_of_getElem? (i := 234) rfl) rfl⟩
set_option maxRecDepth 20000 in
theorem lf_0_46 : zLkFact 0 46 (2, 5, 0) := ⟨mi_Bridge_work, rfl, zg2 (List.mem_of_getElem? (i := 238) rfl) rfl⟩
set_option maxRecDepth 20000 in
theorem lf_0_50 : zLkFact 0 50 (2, 1, 0) := ⟨mi_Bridge_masonOf, rfl, zg3 (List.mem_of_getElem? (i := 2) rfl) rfl⟩
set_option maxRecDepth 20000 in
theorem lf_0_54 : zLkFact 0 54 (1, 4, 2) := ⟨RX4, TX4, 3, rfl, by decide, zn1 (List.mem_of_getElem? (i := 71) rfl) rfl, rfl, fun _ => ⟨by first | rfl | (exfalso; revert ‹zfr _ _ _ = none›; decide), by first | decide +kernel | (exfalso; revert ‹zfr _ _ _ = none›; decide)⟩⟩
set_option maxRecDepth 20000 in
theorem lf_0_57 : zLkFact 0 57 (1, 4, 0) := ⟨RX4, TX4, 3, rfl, by decide, zn1 (List.mem_of_getElem? (i := 60) rfl) rfl, rfl, fun _ => ⟨by first | rfl | (exfalso; revert ‹zfr _ _ _ = none›; decide), by first | decide +kernel | (exfalso; revert ‹zfr _ _ _ = none›; decide)⟩⟩
set_option maxRecDepth 20000 in
theorem lf_0_60 : zLkFact 0 60 (2, 68, 0) := ⟨mi_Stones_isLastOfOther, rfl, zg3 (List.mem_of_getElem? (i := 3) rfl) rfl⟩
set_option maxRecDepth 20000 in
theorem lf_0_64 : zLkFact 0 64 (1, 4, 1) := ⟨RX4, TX4, 3, rfl, by decide, zn1 (List.mem_of_getElem? (i := 65) rfl) rfl, rfl, fun _ => ⟨by first | rfl | (exfalso; revert ‹zfr _ _ _ = none›; decide), by first | decide +kernel | (exfalso; revert ‹zfr _ _ _ = none›; decide)⟩⟩
set_option maxRecDepth 20000 in
theorem lf_0_67 : zLkFact 0 67 (2, 69, 0) := ⟨mi_Stones_remakeLast, rfl, zg3 (List.mem_of_getElem? (i := 7) rfl) rfl⟩
set_option maxRecDepth 20000 in
theorem lf_0_71 : zLkFact 0 71 (8, 0, 0) := zg3 (List.mem_of_getElem? (i := 11) rfl) rfl
set_option maxRecDepth 20000 in
theorem lf_0_77 : zLkFact 0 77 (2, 71, 0) := ⟨mi_Stones_hasRoom, rfl, zg3 (List.mem_of_getElem? (i := 12) rfl) rfl⟩
set_option maxRecDepth 20000 in
theorem lf_0_81 : zLkFact 0 81 (2, 64, 0) := ⟨mi_Stones_add, rfl, zg3 (List.mem_of_getElem? (i := 13) rfl) rfl⟩
set_option maxRecDepth 20000 in
theorem zlk_0_ok : ∀ e ∈ zlk_0, zLkFact 0 e.1 e.2 := List.forall_mem_cons.mpr ⟨lf_0_12, List.forall_mem_cons.mpr ⟨lf_0_21, List.forall_mem_cons.mpr ⟨lf_0_25, List.forall_mem_cons.mpr ⟨lf_0_28, List.forall_mem_cons.mpr ⟨lf_0_32, List.forall_mem_cons.mpr ⟨lf_0_35, List.forall_mem_cons.mpr ⟨lf_0_39, List.forall_mem_cons.mpr ⟨lf_0_42, List.forall_mem_cons.mpr ⟨lf_0_46, List.forall_mem_cons.mpr ⟨lf_0_50, List.forall_mem_cons.mpr ⟨lf_0_54, List.forall_mem_cons.mpr ⟨lf_0_57, List.forall_mem_cons.mpr ⟨lf_0_60, List.forall_mem_cons.mpr ⟨lf_0_64, List.forall_mem_cons.mpr ⟨lf_0_67, List.forall_mem_cons.mpr ⟨lf_0_71, List.forall_mem_cons.mpr ⟨lf_0_77, List.forall_mem_cons.mpr ⟨lf_0_81, fun _ h => absurd h List.not_mem_nil⟩⟩⟩⟩⟩⟩⟩⟩⟩⟩⟩⟩⟩⟩⟩⟩⟩⟩
set_option maxRecDepth 20000 in
theorem lf_1_7 : zLkFact 1 7 (0, 1, 0) := ⟨RX1, TX1, 1, rfl, by decide, zg1 (List.mem_of_getElem? (i := 144) rfl) rfl, rfl, fun _ => ⟨by first | rfl | (exfalso; revert ‹zfr _ _ _ = none›; decide), by first | decide +kernel | (exfalso; revert ‹zfr _ _ _ = none›; decide)⟩⟩
set_option maxRecDepth 20000 in
theorem zlk_1_ok : ∀ e ∈ zlk_1, zLkFact 1 e.1 e.2 := List.forall_mem_cons.mpr ⟨lf_1_7, fun _ h => absurd h List.not_mem_nil⟩
set_option maxRecDepth 20000 in
theorem lf_2_12 : zLkFact 2 12 (0, 2, 1) := ⟨RX2, TX2, 4, rfl, by decide, zg1 (List.mem_of_getElem? (i := 149) rfl) rfl, rfl, fun h => absurd h (by decide)⟩
set_option maxRecDepth 20000 in
theorem lf_2_18 : zLkFact 2 18 (0, 2, 2) := ⟨RX2, TX2, 4, rfl, by decide, zg1 (List.mem_of_getElem? (i := 150) rfl) rfl, rfl, fun h => absurd h (by decide)⟩
set_option maxRecDepth 20000 in
theorem lf_2_25 : zLkFact 2 25 (0, 2, 3) := ⟨RX2, TX2, 4, rfl, by decide, zg1 (List.mem_of_getElem? (i := 151) rfl) rfl, rfl, fun h => absurd h (by decide)⟩
set_option maxRecDepth 20000 in
theorem lf_2_29 : zLkFact 2 29 (0, 2, 0) := ⟨RX2, TX2, 4, rfl, by decide, zg1 (List.mem_of_getElem? (i := 148) rfl) rfl, rfl, fun h => absurd h (by decide)⟩
set_option maxRecDepth 20000 in
theorem lf_2_32 : zLkFact 2 32 (2, 0, 0) := ⟨mi_Bridge_become, rfl, zg3 (List.mem_of_getElem? (i := 206) rfl) rfl⟩
set_option maxRecDepth 20000 in
theorem lf_2_36 : zLkFact 2 36 (2, 3, 0) := ⟨mi_Bridge_passDays, rfl, zg3 (List.mem_of_getElem? (i := 207) rfl) rfl⟩
set_option maxRecDepth 20000 in
theorem lf_2_40 : zLkFact 2 40 (1, 0, 0) := ⟨RX0, TX0, 5, rfl, by decide, zn1 (List.mem_of_getElem? (i := 82) rfl) rfl, rfl, fun h => absurd h (by decide)⟩
set_option maxRecDepth 20000 in
theorem lf_2_44 : zLkFact 2 44 (2, 71, 0) := ⟨mi_Stones_hasRoom, rfl, zg3 (List.mem_of_getElem? (i := 216) rfl) rfl⟩
set_option maxRecDepth 20000 in
theorem lf_2_50 : zLkFact 2 50 (2, 90, 0) := ⟨mi_Stones_stand, rfl, zg3 (List.mem_of_getElem? (i := 217) rfl) rfl⟩
set_option maxRecDepth 20000 in
theorem lf_2_53 : zLkFact 2 53 (2, 4, 0) := ⟨mi_Bridge_passDay, rfl, zg3 (List.mem_of_getElem? (i := 218) rfl) rfl⟩
set_option maxRecDepth 20000 in
theorem lf_2_57 : zLkFact 2 57 (2, 8, 0) := ⟨mi_Foresight_behind, rfl, zg4 (List.mem_of_getElem? (i := 119) rfl) rfl⟩
set_option maxRecDepth 20000 in
theorem lf_2_61 : zLkFact 2 61 (1, 0, 3) := ⟨RX0, TX0, 5, rfl, by decide, zn1 (List.mem_of_getElem? (i := 89) rfl) rfl, rfl, fun _ => ⟨by first | rfl | (exfalso; revert ‹zfr _ _ _ = none›; decide), by first | decide +kernel | (exfalso; revert ‹zfr _ _ _ = none›; decide)⟩⟩
set_option maxRecDepth 20000 in
theorem lf_2_65 : zLkFact 2 65 (2, 12, 0) := ⟨mi_Foresight_quarrelsIfYields, rfl, zg4 (List.mem_of_getElem? (i := 120) rfl) rfl⟩
set_option maxRecDepth 20000 in
theorem lf_2_69 : zLkFact 2 69 (2, 1, 0) := ⟨mi_Bridge_masonOf, rfl, zg4 (List.mem_of_getElem? (i := 124) rfl) rfl⟩
set_option maxRecDepth 20000 in
theorem lf_2_73 : zLkFact 2 73 (1, 4, 2) := ⟨RX4, TX4, 3, rfl, by decide, zn1 (List.mem_of_getElem? (i := 69) rfl) rfl, rfl, fun _ => ⟨by first | rfl | (exfalso; revert ‹zfr _ _ _ = none›; decide), by first | decide +kernel | (exfalso; revert ‹zfr _ _ _ = none›; decide)⟩⟩
set_option maxRecDepth 20000 in
theorem lf_2_78 : zLkFact 2 78 (2, 14, 0) := ⟨mi_Foresight_spareWithStyle, rfl, zg4 (List.mem_of_getElem? (i := 133) rfl) rfl⟩
set_option maxRecDepth 20000 in
theorem lf_2_82 : zLkFact 2 82 (1, 4, 0) := ⟨RX4, TX4, 3, rfl, by decide, zn1 (List.mem_of_getElem? (i := 61) rfl) rfl, rfl, fun _ => ⟨by first | rfl | (exfalso; revert ‹zfr _ _ _ = none›; decide), by first | decide +kernel | (exfalso; revert ‹zfr _ _ _ = none›; decide)⟩⟩
set_option maxRecDepth 20000 in
theorem lf_2_85 : zLkFact 2 85 (2, 91, 0) := ⟨mi_Stones_leastSpare, rfl, zg4 (List.mem_of_getElem? (i := 137) rfl) rfl⟩
set_option maxRecDepth 20000 in
theorem lf_2_89 : zLkFact 2 89 (2, 70, 0) := ⟨mi_Stones_number, rfl, zg4 (List.mem_of_getElem? (i := 155) rfl) rfl⟩
set_option maxRecDepth 20000 in
theorem lf_2_92 : zLkFact 2 92 (1, 0, 1) := ⟨RX0, TX0, 5, rfl, by decide, zn1 (List.mem_of_getElem? (i := 85) rfl) rfl, rfl, fun h => absurd h (by decide)⟩
set_option maxRecDepth 20000 in
theorem lf_2_96 : zLkFact 2 96 (1, 0, 2) := ⟨RX0, TX0, 5, rfl, by decide, zn1 (List.mem_of_getElem? (i := 87) rfl) rfl, rfl, fun h => absurd h (by decide)⟩
set_option maxRecDepth 20000 in
theorem lf_2_99 : zLkFact 2 99 (2, 18, 0) := ⟨mi_Foresight_gain, rfl, zg4 (List.mem_of_getElem? (i := 164) rfl) rfl⟩
set_option maxRecDepth 20000 in
theorem lf_2_103 : zLkFact 2 103 (2, 98, 0) := ⟨mi_Stones_shareOf, rfl, zg4 (List.mem_of_getElem? (i := 168) rfl) rfl⟩
set_option maxRecDepth 20000 in
theorem lf_2_107 : zLkFact 2 107 (3, 156, 0) := ⟨mi_X_hasBit, rfl, zn4 (List.mem_of_getElem? (i := 185) rfl) rfl⟩
set_option maxRecDepth 20000 in
theorem lf_2_111 : zLkFact 2 111 (2, 260, 0) := ⟨mi_Integer_bitCount, rfl, zg4 (List.mem_of_getElem? (i := 188) rfl) rfl⟩
set_option maxRecDepth 20000 in
theorem lf_2_116 : zLkFact 2 116 (3, 157, 0) := ⟨mi_X_power, rfl, zn4 (List.mem_of_getElem? (i := 189) rfl) rfl⟩
set_option maxRecDepth 20000 in
theorem lf_2_120 : zLkFact 2 120 (2, 6, 0) := ⟨mi_Draws_beginWith, rfl, zg5 (List.mem_of_getElem? (i := 38) rfl) rfl⟩
set_option maxRecDepth 20000 in
theorem lf_2_123 : zLkFact 2 123 (2, 22, 0) := ⟨mi_Foresight_seeOneByLot, rfl, zg5 (List.mem_of_getElem? (i := 42) rfl) rfl⟩
set_option maxRecDepth 20000 in
theorem lf_2_126 : zLkFact 2 126 (3, 155, 0) := ⟨mi_X_oneIf, rfl, zn5 (List.mem_of_getElem? (i := 58) rfl) rfl⟩
set_option maxRecDepth 20000 in
theorem lf_2_130 : zLkFact 2 130 (2, 67, 0) := ⟨mi_Stones_takeAway, rfl, zg5 (List.mem_of_getElem? (i := 46) rfl) rfl⟩
set_option maxRecDepth 20000 in
theorem lf_2_133 : zLkFact 2 133 (2, 23, 0) := ⟨mi_Foresight_drawMason, rfl, zg5 (List.mem_of_getElem? (i := 47) rfl) rfl⟩
set_option maxRecDepth 20000 in
theorem lf_2_137 : zLkFact 2 137 (2, 7, 0) := ⟨mi_Draws_below, rfl, zg5 (List.mem_of_getElem? (i := 51) rfl) rfl⟩
set_option maxRecDepth 20000 in
theorem lf_2_140 : zLkFact 2 140 (1, 4, 1) := ⟨RX4, TX4, 3, rfl, by decide, zn1 (List.mem_of_getElem? (i := 66) rfl) rfl, rfl, fun _ => ⟨by first | rfl | (exfalso; revert ‹zfr _ _ _ = none›; decide), by first | decide +kernel | (exfalso; revert ‹zfr _ _ _ = none›; decide)⟩⟩
set_option maxRecDepth 20000 in
theorem zlk_2_ok : ∀ e ∈ zlk_2, zLkFact 2 e.1 e.2 := List.forall_mem_cons.mpr ⟨lf_2_12, List.forall_mem_cons.mpr ⟨lf_2_18, List.forall_mem_cons.mpr ⟨lf_2_25, List.forall_mem_cons.mpr ⟨lf_2_29, List.forall_mem_cons.mpr ⟨lf_2_32, List.forall_mem_cons.mpr ⟨lf_2_36, List.forall_mem_cons.mpr ⟨lf_2_40, List.forall_mem_cons.mpr ⟨lf_2_44, List.forall_mem_cons.mpr ⟨lf_2_50, List.forall_mem_cons.mpr ⟨lf_2_53, List.forall_mem_cons.mpr ⟨lf_2_57, List.forall_mem_cons.mpr ⟨lf_2_61, List.forall_mem_cons.mpr ⟨lf_2_65, List.forall_mem_cons.mpr ⟨lf_2_69, List.forall_mem_cons.mpr ⟨lf_2_73, List.forall_mem_cons.mpr ⟨lf_2_78, List.forall_mem_cons.mpr ⟨lf_2_82, List.forall_mem_cons.mpr ⟨lf_2_85, List.forall_mem_cons.mpr ⟨lf_2_89, List.forall_mem_cons.mpr ⟨lf_2_92, List.forall_mem_cons.mpr ⟨lf_2_96, List.forall_mem_cons.mpr ⟨lf_2_99, List.forall_mem_cons.mpr ⟨lf_2_103, List.forall_mem_cons.mpr ⟨lf_2_107, List.forall_mem_cons.mpr ⟨lf_2_111, List.forall_mem_cons.mpr ⟨lf_2_116, List.forall_mem_cons.mpr ⟨lf_2_120, List.forall_mem_cons.mpr ⟨lf_2_123, List.forall_mem_cons.mpr ⟨lf_2_126, List.forall_mem_cons.mpr ⟨lf_2_130, List.forall_mem_cons.mpr ⟨lf_2_133, List.forall_mem_cons.mpr ⟨lf_2_137, List.forall_mem_cons.mpr ⟨lf_2_140, fun _ h => absurd h List.not_mem_nil⟩⟩⟩⟩⟩⟩⟩⟩⟩⟩⟩⟩⟩⟩⟩⟩⟩⟩⟩⟩⟩⟩⟩⟩⟩⟩⟩⟩⟩⟩⟩⟩⟩
set_option maxRecDepth 20000 in
theorem lf_3_9 : zLkFact 3 9 (0, 3, 0) := ⟨RX3, TX3, 2, rfl, by decide, zg1 (List.mem_of_getElem? (i := 110) rfl) rfl, rfl, fun h => absurd h (by decide)⟩
set_option maxRecDepth 20000 in
theorem lf_3_15 : zLkFact 3 15 (0, 3, 1) := ⟨RX3, TX3, 2, rfl, by decide, zg1 (List.mem_of_getElem? (i := 111) rfl) rfl, rfl, fun _ => ⟨by first | rfl | (exfalso; revert ‹zfr _ _ _ = none›; decide), by first | decide +kernel | (exfalso; revert ‹zfr _ _ _ = none›; decide)⟩⟩
set_option maxRecDepth 20000 in
theorem lf_3_19 : zLkFact 3 19 (2, 36, 0) := ⟨mi_Letters_strayOf, rfl, zg2 (List.mem_of_getElem? (i := 4) rfl) rfl⟩
set_option maxRecDepth 20000 in
theorem lf_3_23 : zLkFact 3 23 (2, 34, 0) := ⟨mi_Letters_lengthBehind, rfl, zg2 (List.mem_of_getElem? (i := 149) rfl) rfl⟩
set_option maxRecDepth 20000 in
theorem lf_3_26 : zLkFact 3 26 (2, 38, 0) := ⟨mi_Letters_perform, rfl, zg2 (List.mem_of_getElem? (i := 169) rfl) rfl⟩
set_option maxRecDepth 20000 in
theorem lf_3_30 : zLkFact 3 30 (2, 31, 0) := ⟨mi_Letters_letterAt, rfl, zg2 (List.mem_of_getElem? (i := 8) rfl) rfl⟩
set_option maxRecDepth 20000 in
theorem lf_3_33 : zLkFact 3 33 (7, 6, 0) := ⟨rfl, by decide, rfl⟩
set_option maxRecDepth 20000 in
theorem lf_3_35 : zLkFact 3 35 (2, 264, 0) := ⟨mi_String_indexOf_1I, rfl, zg2 (List.mem_of_getElem? (i := 82) rfl) rfl⟩
set_option maxRecDepth 20000 in
theorem lf_3_40 : zLkFact 3 40 (2, 35, 0) := ⟨mi_Letters_formBehind, rfl, zg2 (List.mem_of_getElem? (i := 12) rfl) rfl⟩
set_option maxRecDepth 20000 in
theorem lf_3_44 : zLkFact 3 44 (2, 261, 0) := ⟨mi_String_length, rfl, zg2 (List.mem_of_getElem? (i := 25) rfl) rfl⟩
set_option maxRecDepth 20000 in
theorem lf_3_48 : zLkFact 3 48 (7, 0, 0) := ⟨rfl, by decide, rfl⟩
set_option maxRecDepth 20000 in
theorem lf_3_50 : zLkFact 3 50 (7, 1, 0) := ⟨rfl, by decide, rfl⟩
set_option maxRecDepth 20000 in
theorem lf_3_52 : zLkFact 3 52 (7, 2, 0) := ⟨rfl, by decide, rfl⟩
set_option maxRecDepth 20000 in
theorem lf_3_54 : zLkFact 3 54 (7, 3, 0) := ⟨rfl, by decide, rfl⟩
set_option maxRecDepth 20000 in
theorem lf_3_56 : zLkFact 3 56 (7, 4, 0) := ⟨rfl, by decide, rfl⟩
set_option maxRecDepth 20000 in
theorem lf_3_58 : zLkFact 3 58 (7, 5, 0) := ⟨rfl, by decide, rfl⟩
set_option maxRecDepth 20000 in
theorem lf_3_60 : zLkFact 3 60 (2, 262, 0) := ⟨mi_String_isEmpty, rfl, zg2 (List.mem_of_getElem? (i := 21) rfl) rfl⟩
set_option maxRecDepth 20000 in
theorem lf_3_64 : zLkFact 3 64 (2, 263, 0) := ⟨mi_String_charAt, rfl, zg2 (List.mem_of_getElem? (i := 35) rfl) rfl⟩
set_option maxRecDepth 20000 in
theorem lf_3_68 : zLkFact 3 68 (2, 37, 0) := ⟨mi_Letters_isOfForm, rfl, zg2 (List.mem_of_getElem? (i := 73) rfl) rfl⟩
set_option maxRecDepth 20000 in
theorem lf_3_72 : zLkFact 3 72 (2, 33, 0) := ⟨mi_Letters_kindAt, rfl, zg2 (List.mem_of_getElem? (i := 77) rfl) rfl⟩
set_option maxRecDepth 20000 in
theorem lf_3_75 : zLkFact 3 75 (3, 152, 0) := ⟨mi_X_isKind, rfl, zn2 (List.mem_of_getElem? (i := 141) rfl) rfl⟩
set_option maxRecDepth 20000 in
theorem lf_3_79 : zLkFact 3 79 (2, 32, 0) := ⟨mi_Letters_digitAt, rfl, zg2 (List.mem_of_getElem? (i := 144) rfl) rfl⟩
set_option maxRecDepth 20000 in
theorem lf_3_82 : zLkFact 3 82 (3, 150, 0) := ⟨mi_X_between, rfl, zn2 (List.mem_of_getElem? (i := 148) rfl) rfl⟩
set_option maxRecDepth 20000 in
theorem lf_3_86 : zLkFact 3 86 (1, 0, 0) := ⟨RX0, TX0, 5, rfl, by decide, zn1 (List.mem_of_getElem? (i := 83) rfl) rfl, rfl, fun h => absurd h (by decide)⟩
set_option maxRecDepth 20000 in
theorem lf_3_92 : zLkFact 3 92 (2, 39, 0) := ⟨mi_Letters_layStone, rfl, zg2 (List.mem_of_getElem? (i := 173) rfl) rfl⟩
set_option maxRecDepth 20000 in
theorem lf_3_96 : zLkFact 3 96 (2, 40, 0) := ⟨mi_Letters_correctStone, rfl, zg2 (List.mem_of_getElem? (i := 188) rfl) rfl⟩
set_option maxRecDepth 20000 in
theorem lf_3_99 : zLkFact 3 99 (2, 41, 0) := ⟨mi_Letters_changeMason, rfl, zg2 (List.mem_of_getElem? (i := 201) rfl) rfl⟩
set_option maxRecDepth 20000 in
theorem lf_3_102 : zLkFact 3 102 (2, 42, 0) := ⟨mi_Letters_takeStones, rfl, zg2 (List.mem_of_getElem? (i := 209) rfl) rfl⟩
set_option maxRecDepth 20000 in
theorem lf_3_105 : zLkFact 3 105 (2, 43, 0) := ⟨mi_Letters_passDays, rfl, zg2 (List.mem_of_getElem? (i := 222) rfl) rfl⟩
set_option maxRecDepth 20000 in
theorem lf_3_108 : zLkFact 3 108 (3, 151, 0) := ⟨mi_X_isMason, rfl, zn2 (List.mem_of_getElem? (i := 177) rfl) rfl⟩
set_option maxRecDepth 20000 in
theorem lf_3_111 : zLkFact 3 111 (2, 71, 0) := ⟨mi_Stones_hasRoom, rfl, zg2 (List.mem_of_getElem? (i := 180) rfl) rfl⟩
set_option maxRecDepth 20000 in
theorem lf_3_116 : zLkFact 3 116 (2, 64, 0) := ⟨mi_Stones_add, rfl, zg2 (List.mem_of_getElem? (i := 184) rfl) rfl⟩
set_option maxRecDepth 20000 in
theorem lf_3_120 : zLkFact 3 120 (2, 72, 0) := ⟨mi_Stones_has, rfl, zg2 (List.mem_of_getElem? (i := 192) rfl) rfl⟩
set_option maxRecDepth 20000 in
theorem lf_3_123 : zLkFact 3 123 (2, 65, 0) := ⟨mi_Stones_remake, rfl, zg2 (List.mem_of_getElem? (i := 196) rfl) rfl⟩
set_option maxRecDepth 20000 in
theorem lf_3_126 : zLkFact 3 126 (2, 1, 0) := ⟨mi_Bridge_masonOf, rfl, zg2 (List.mem_of_getElem? (i := 205) rfl) rfl⟩
set_option maxRecDepth 20000 in
theorem lf_3_130 : zLkFact 3 130 (1, 4, 0) := ⟨RX4, TX4, 3, rfl, by decide, zn1 (List.mem_of_getElem? (i := 62) rfl) rfl, rfl, fun _ => ⟨by first | rfl | (exfalso; revert ‹zfr _ _ _ = none›; decide), by first | decide +kernel | (exfalso; revert ‹zfr _ _ _ = none›; decide)⟩⟩
set_option maxRecDepth 20000 in
theorem lf_3_135 : zLkFact 3 135 (1, 4, 1) := ⟨RX4, TX4, 3, rfl, by decide, zn1 (List.mem_of_getElem? (i := 67) rfl) rfl, rfl, fun _ => ⟨by first | rfl | (exfalso; revert ‹zfr _ _ _ = none›; decide), by first | decide +kernel | (exfalso; revert ‹zfr _ _ _ = none›; decide)⟩⟩
set_option maxRecDepth 20000 in
theorem lf_3_138 : zLkFact 3 138 (1, 4, 2) := ⟨RX4, TX4, 3, rfl, by decide, zn1 (List.mem_of_getElem? (i := 72) rfl) rfl, rfl, fun _ => ⟨by first | rfl | (exfalso; revert ‹zfr _ _ _ = none›; decide), by first | decide +kernel | (exfalso; revert ‹zfr _ _ _ = none›; decide)⟩⟩
set_option maxRecDepth 20000 in
theorem lf_3_141 : zLkFact 3 141 (2, 70, 0) := ⟨mi_Stones_number, rfl, zg2 (List.mem_of_getElem? (i := 213) rfl) rfl⟩
set_option maxRecDepth 20000 in
theorem lf_3_143 : zLkFact 3 143 (2, 67, 0) := ⟨mi_Stones_takeAway, rfl, zg2 (List.mem_of_getElem? (i := 217) rfl) rfl⟩
set_option maxRecDepth 20000 in
theorem lf_3_147 : zLkFact 3 147 (2, 2, 0) := ⟨mi_Bridge_hasTimeFor, rfl, zg2 (List.mem_of_getElem? (i := 226) rfl) rfl⟩
set_option maxRecDepth 20000 in
theorem lf_3_150 : zLkFact 3 150 (2, 3, 0) := ⟨mi_Bridge_passDays, rfl, zg2 (List.mem_of_getElem? (i := 230) rfl) rfl⟩
set_option maxRecDepth 20000 in
theorem zlk_3_ok : ∀ e ∈ zlk_3, zLkFact 3 e.1 e.2 := List.forall_mem_cons.mpr ⟨lf_3_9, List.forall_mem_cons.mpr ⟨lf_3_15, List.forall_mem_cons.mpr ⟨lf_3_19, List.forall_mem_cons.mpr ⟨lf_3_23, List.forall_mem_cons.mpr ⟨lf_3_26, List.forall_mem_cons.mpr ⟨lf_3_30, List.forall_mem_cons.mpr ⟨lf_3_33, List.forall_mem_cons.mpr ⟨lf_3_35, List.forall_mem_cons.mpr ⟨lf_3_40, List.forall_mem_cons.mpr ⟨lf_3_44, List.forall_mem_cons.mpr ⟨lf_3_48, List.forall_mem_cons.mpr ⟨lf_3_50, List.forall_mem_cons.mpr ⟨lf_3_52, List.forall_mem_cons.mpr ⟨lf_3_54, List.forall_mem_cons.mpr ⟨lf_3_56, List.forall_mem_cons.mpr ⟨lf_3_58, List.forall_mem_cons.mpr ⟨lf_3_60, List.forall_mem_cons.mpr ⟨lf_3_64, List.forall_mem_cons.mpr ⟨lf_3_68, List.forall_mem_cons.mpr ⟨lf_3_72, List.forall_mem_cons.mpr ⟨lf_3_75, List.forall_mem_cons.mpr ⟨lf_3_79, List.forall_mem_cons.mpr ⟨lf_3_82, List.forall_mem_cons.mpr ⟨lf_3_86, List.forall_mem_cons.mpr ⟨lf_3_92, List.forall_mem_cons.mpr ⟨lf_3_96, List.forall_mem_cons.mpr ⟨lf_3_99, List.forall_mem_cons.mpr ⟨lf_3_102, List.forall_mem_cons.mpr ⟨lf_3_105, List.forall_mem_cons.mpr ⟨lf_3_108, List.forall_mem_cons.mpr ⟨lf_3_111, List.forall_mem_cons.mpr ⟨lf_3_116, List.forall_mem_cons.mpr ⟨lf_3_120, List.forall_mem_cons.mpr ⟨lf_3_123, List.forall_mem_cons.mpr ⟨lf_3_126, List.forall_mem_cons.mpr ⟨lf_3_130, List.forall_mem_cons.mpr ⟨lf_3_135, List.forall_mem_cons.mpr ⟨lf_3_138, List.forall_mem_cons.mpr ⟨lf_3_141, List.forall_mem_cons.mpr ⟨lf_3_143, List.forall_mem_cons.mpr ⟨lf_3_147, List.forall_mem_cons.mpr ⟨lf_3_150, fun _ h => absurd h List.not_mem_nil⟩⟩⟩⟩⟩⟩⟩⟩⟩⟩⟩⟩⟩⟩⟩⟩⟩⟩⟩⟩⟩⟩⟩⟩⟩⟩⟩⟩⟩⟩⟩⟩⟩⟩⟩⟩⟩⟩⟩⟩⟩⟩
set_option maxRecDepth 20000 in
theorem lf_4_9 : zLkFact 4 9 (0, 4, 0) := ⟨RX4, TX4, 3, rfl, by decide, zg1 (List.mem_of_getElem? (i := 58) rfl) rfl, rfl, fun _ => ⟨by first | rfl | (exfalso; revert ‹zfr _ _ _ = none›; decide), by first | decide +kernel | (exfalso; revert ‹zfr _ _ _ = none›; decide)⟩⟩
set_option maxRecDepth 20000 in
theorem lf_4_15 : zLkFact 4 15 (0, 4, 1) := ⟨RX4, TX4, 3, rfl, by decide, zg1 (List.mem_of_getElem? (i := 63) rfl) rfl, rfl, fun _ => ⟨by first | rfl | (exfalso; revert ‹zfr _ _ _ = none›; decide), by first | decide +kernel | (exfalso; revert ‹zfr _ _ _ = none›; decide)⟩⟩
set_option maxRecDepth 20000 in
theorem lf_4_18 : zLkFact 4 18 (0, 4, 2) := ⟨RX4, TX4, 3, rfl, by decide, zg1 (List.mem_of_getElem? (i := 68) rfl) rfl, rfl, fun _ => ⟨by first | rfl | (exfalso; revert ‹zfr _ _ _ = none›; decide), by first | decide +kernel | (exfalso; revert ‹zfr _ _ _ = none›; decide)⟩⟩
set_option maxRecDepth 20000 in
theorem zlk_4_ok : ∀ e ∈ zlk_4, zLkFact 4 e.1 e.2 := List.forall_mem_cons.mpr ⟨lf_4_9, List.forall_mem_cons.mpr ⟨lf_4_15, List.forall_mem_cons.mpr ⟨lf_4_18, fun _ h => absurd h List.not_mem_nil⟩⟩⟩
set_option maxRecDepth 20000 in
theorem lf_5_12 : zLkFact 5 12 (0, 5, 1) := ⟨RX5, TX5, 4, rfl, by decide, zg1 (List.mem_of_getElem? (i := 170) rfl) rfl, rfl, fun h => absurd h (by decide)⟩
set_option maxRecDepth 20000 in
theorem lf_5_18 : zLkFact 5 18 (0, 5, 2) := ⟨RX5, TX5, 4, rfl, by decide, zg1 (List.mem_of_getElem? (i := 171) rfl) rfl, rfl, fun h => absurd h (by decide)⟩
set_option maxRecDepth 20000 in
theorem lf_5_22 : zLkFact 5 22 (0, 5, 3) := ⟨RX5, TX5, 4, rfl, by decide, zg1 (List.mem_of_getElem? (i := 172) rfl) rfl, rfl, fun h => absurd h (by decide)⟩
set_option maxRecDepth 20000 in
theorem lf_5_25 : zLkFact 5 25 (0, 5, 0) := ⟨RX5, TX5, 4, rfl, by decide, zg1 (List.mem_of_getElem? (i := 169) rfl) rfl, rfl, fun h => absurd h (by decide)⟩
set_option maxRecDepth 20000 in
theorem lf_5_28 : zLkFact 5 28 (2, 63, 0) := ⟨mi_Stones_become, rfl, zg3 (List.mem_of_getElem? (i := 231) rfl) rfl⟩
set_option maxRecDepth 20000 in
theorem lf_5_32 : zLkFact 5 32 (2, 64, 0) := ⟨mi_Stones_add, rfl, zg3 (List.mem_of_getElem? (i := 232) rfl) rfl⟩
set_option maxRecDepth 20000 in
theorem lf_5_36 : zLkFact 5 36 (2, 91, 0) := ⟨mi_Stones_leastSpare, rfl, zg3 (List.mem_of_getElem? (i := 233) rfl) rfl⟩
set_option maxRecDepth 20000 in
theorem lf_5_40 : zLkFact 5 40 (2, 79, 0) := ⟨mi_Stones_leanAtEnd, rfl, zg3 (List.mem_of_getElem? (i := 234) rfl) rfl⟩
set_option maxRecDepth 20000 in
theorem lf_5_43 : zLkFact 5 43 (8, 2, 0) := zg3 (List.mem_of_getElem? (i := 235) rfl) rfl
set_option maxRecDepth 20000 in
theorem lf_5_49 : zLkFact 5 49 (2, 90, 0) := ⟨mi_Stones_stand, rfl, zg4 (List.mem_of_getElem? (i := 4) rfl) rfl⟩
set_option maxRecDepth 20000 in
theorem lf_5_53 : zLkFact 5 53 (2, 70, 0) := ⟨mi_Stones_number, rfl, zg4 (List.mem_of_getElem? (i := 5) rfl) rfl⟩
set_option maxRecDepth 20000 in
theorem lf_5_56 : zLkFact 5 56 (2, 74, 0) := ⟨mi_Stones_figureOf, rfl, zg4 (List.mem_of_getElem? (i := 6) rfl) rfl⟩
set_option maxRecDepth 20000 in
theorem lf_5_59 : zLkFact 5 59 (2, 65, 0) := ⟨mi_Stones_remake, rfl, zg4 (List.mem_of_getElem? (i := 7) rfl) rfl⟩
set_option maxRecDepth 20000 in
theorem lf_5_62 : zLkFact 5 62 (2, 51, 0) := ⟨mi_Remedies_placeOfWay, rfl, zg4 (List.mem_of_getElem? (i := 16) rfl) rfl⟩
set_option maxRecDepth 20000 in
theorem lf_5_67 : zLkFact 5 67 (2, 48, 0) := ⟨mi_Remedies_choose, rfl, zg4 (List.mem_of_getElem? (i := 21) rfl) rfl⟩
set_option maxRecDepth 20000 in
theorem lf_5_71 : zLkFact 5 71 (8, 0, 0) := zg4 (List.mem_of_getElem? (i := 36) rfl) rfl
set_option maxRecDepth 20000 in
theorem lf_5_74 : zLkFact 5 74 (2, 49, 0) := ⟨mi_Remedies_makeOf, rfl, zg4 (List.mem_of_getElem? (i := 25) rfl) rfl⟩
set_option maxRecDepth 20000 in
theorem lf_5_78 : zLkFact 5 78 (2, 88, 0) := ⟨mi_Stones_spareOf, rfl, zg4 (List.mem_of_getElem? (i := 30) rfl) rfl⟩
set_option maxRecDepth 20000 in
theorem lf_5_81 : zLkFact 5 81 (2, 50, 0) := ⟨mi_Remedies_goOn, rfl, zg4 (List.mem_of_getElem? (i := 31) rfl) rfl⟩
set_option maxRecDepth 20000 in
theorem lf_5_84 : zLkFact 5 84 (2, 73, 0) := ⟨mi_Stones_kindOf, rfl, zg4 (List.mem_of_getElem? (i := 29) rfl) rfl⟩
set_option maxRecDepth 20000 in
theorem lf_5_87 : zLkFact 5 87 (2, 77, 0) := ⟨mi_Stones_leanOf, rfl, zg4 (List.mem_of_getElem? (i := 35) rfl) rfl⟩
set_option maxRecDepth 20000 in
theorem lf_5_90 : zLkFact 5 90 (3, 150, 0) := ⟨mi_X_between, rfl, zn4 (List.mem_of_getElem? (i := 19) rfl) rfl⟩
set_option maxRecDepth 20000 in
theorem lf_5_94 : zLkFact 5 94 (2, 67, 0) := ⟨mi_Stones_takeAway, rfl, zg4 (List.mem_of_getElem? (i := 45) rfl) rfl⟩
set_option maxRecDepth 20000 in
theorem lf_5_97 : zLkFact 5 97 (2, 75, 0) := ⟨mi_Stones_layerOf, rfl, zg4 (List.mem_of_getElem? (i := 54) rfl) rfl⟩
set_option maxRecDepth 20000 in
theorem lf_5_100 : zLkFact 5 100 (3, 154, 0) := ⟨mi_X_otherMason, rfl, zn4 (List.mem_of_getElem? (i := 55) rfl) rfl⟩
set_option maxRecDepth 20000 in
theorem lf_5_103 : zLkFact 5 103 (2, 66, 0) := ⟨mi_Stones_creditTo, rfl, zg4 (List.mem_of_getElem? (i := 58) rfl) rfl⟩
set_option maxRecDepth 20000 in
theorem lf_5_106 : zLkFact 5 106 (2, 61, 0) := ⟨mi_Row_tellsWhatHolds, rfl, zg4 (List.mem_of_getElem? (i := 217) rfl) rfl⟩
set_option maxRecDepth 20000 in
theorem lf_5_112 : zLkFact 5 112 (3, 155, 0) := ⟨mi_X_oneIf, rfl, zn4 (List.mem_of_getElem? (i := 223) rfl) rfl⟩
set_option maxRecDepth 20000 in
theorem zlk_5_ok : ∀ e ∈ zlk_5, zLkFact 5 e.1 e.2 := List.forall_mem_cons.mpr ⟨lf_5_12, List.forall_mem_cons.mpr ⟨lf_5_18, List.forall_mem_cons.mpr ⟨lf_5_22, List.forall_mem_cons.mpr ⟨lf_5_25, List.forall_mem_cons.mpr ⟨lf_5_28, List.forall_mem_cons.mpr ⟨lf_5_32, List.forall_mem_cons.mpr ⟨lf_5_36, List.forall_mem_cons.mpr ⟨lf_5_40, List.forall_mem_cons.mpr ⟨lf_5_43, List.forall_mem_cons.mpr ⟨lf_5_49, List.forall_mem_cons.mpr ⟨lf_5_53, List.forall_mem_cons.mpr ⟨lf_5_56, List.forall_mem_cons.mpr ⟨lf_5_59, List.forall_mem_cons.mpr ⟨lf_5_62, List.forall_mem_cons.mpr ⟨lf_5_67, List.forall_mem_cons.mpr ⟨lf_5_71, List.forall_mem_cons.mpr ⟨lf_5_74, List.forall_mem_cons.mpr ⟨lf_5_78, List.forall_mem_cons.mpr ⟨lf_5_81, List.forall_mem_cons.mpr ⟨lf_5_84, List.forall_mem_cons.mpr ⟨lf_5_87, List.forall_mem_cons.mpr ⟨lf_5_90, List.forall_mem_cons.mpr ⟨lf_5_94, List.forall_mem_cons.mpr ⟨lf_5_97, List.forall_mem_cons.mpr ⟨lf_5_100, List.forall_mem_cons.mpr ⟨lf_5_103, List.forall_mem_cons.mpr ⟨lf_5_106, List.forall_mem_cons.mpr ⟨lf_5_112, fun _ h => absurd h List.not_mem_nil⟩⟩⟩⟩⟩⟩⟩⟩⟩⟩⟩⟩⟩⟩⟩⟩⟩⟩⟩⟩⟩⟩⟩⟩⟩⟩⟩⟩
set_option maxRecDepth 20000 in
theorem lf_6_9 : zLkFact 6 9 (0, 6, 0) := ⟨RX6, TX6, 2, rfl, by decide, zg1 (List.mem_of_getElem? (i := 123) rfl) rfl, rfl, fun h => absurd h (by decide)⟩
set_option maxRecDepth 20000 in
theorem lf_6_15 : zLkFact 6 15 (0, 6, 1) := ⟨RX6, TX6, 2, rfl, by decide, zg1 (List.mem_of_getElem? (i := 124) rfl) rfl, rfl, fun _ => ⟨by first | rfl | (exfalso; revert ‹zfr _ _ _ = none›; decide), by first | decide +kernel | (exfalso; revert ‹zfr _ _ _ = none›; decide)⟩⟩
set_option maxRecDepth 20000 in
theorem lf_6_19 : zLkFact 6 19 (2, 83, 0) := ⟨mi_Stones_hasJoint, rfl, zg4 (List.mem_of_getElem? (i := 221) rfl) rfl⟩
set_option maxRecDepth 20000 in
theorem lf_6_25 : zLkFact 6 25 (2, 86, 0) := ⟨mi_Stones_heldBy, rfl, zg4 (List.mem_of_getElem? (i := 222) rfl) rfl⟩
set_option maxRecDepth 20000 in
theorem lf_6_29 : zLkFact 6 29 (2, 77, 0) := ⟨mi_Stones_leanOf, rfl, zg5 (List.mem_of_getElem? (i := 20) rfl) rfl⟩
set_option maxRecDepth 20000 in
theorem lf_6_32 : zLkFact 6 32 (2, 72, 0) := ⟨mi_Stones_has, rfl, zg5 (List.mem_of_getElem? (i := 21) rfl) rfl⟩
set_option maxRecDepth 20000 in
theorem zlk_6_ok : ∀ e ∈ zlk_6, zLkFact 6 e.1 e.2 := List.forall_mem_cons.mpr ⟨lf_6_9, List.forall_mem_cons.mpr ⟨lf_6_15, List.forall_mem_cons.mpr ⟨lf_6_19, List.forall_mem_cons.mpr ⟨lf_6_25, List.forall_mem_cons.mpr ⟨lf_6_29, List.forall_mem_cons.mpr ⟨lf_6_32, fun _ h => absurd h List.not_mem_nil⟩⟩⟩⟩⟩⟩
set_option maxRecDepth 20000 in
theorem lf_7_11 : zLkFact 7 11 (0, 7, 0) := ⟨RX7, TX7, 4, rfl, by decide, zg1 (List.mem_of_getElem? (i := 38) rfl) rfl, rfl, fun h => absurd h (by decide)⟩
set_option maxRecDepth 20000 in
theorem lf_7_15 : zLkFact 7 15 (0, 7, 1) := ⟨RX7, TX7, 4, rfl, by decide, zg1 (List.mem_of_getElem? (i := 39) rfl) rfl, rfl, fun h => absurd h (by decide)⟩
set_option maxRecDepth 20000 in
theorem lf_7_18 : zLkFact 7 18 (0, 7, 2) := ⟨RX7, TX7, 4, rfl, by decide, zg1 (List.mem_of_getElem? (i := 40) rfl) rfl, rfl, fun h => absurd h (by decide)⟩
set_option maxRecDepth 20000 in
theorem lf_7_21 : zLkFact 7 21 (0, 7, 3) := ⟨RX7, TX7, 4, rfl, by decide, zg1 (List.mem_of_getElem? (i := 41) rfl) rfl, rfl, fun _ => ⟨by first | rfl | (exfalso; revert ‹zfr _ _ _ = none›; decide), by first | decide +kernel | (exfalso; revert ‹zfr _ _ _ = none›; decide)⟩⟩
set_option maxRecDepth 20000 in
theorem lf_7_25 : zLkFact 7 25 (2, 72, 0) := ⟨mi_Stones_has, rfl, zg2 (List.mem_of_getElem? (i := 200) rfl) rfl⟩
set_option maxRecDepth 20000 in
theorem lf_7_29 : zLkFact 7 29 (8, 1, 0) := zg2 (List.mem_of_getElem? (i := 221) rfl) rfl
set_option maxRecDepth 20000 in
theorem lf_7_35 : zLkFact 7 35 (2, 77, 0) := ⟨mi_Stones_leanOf, rfl, zg3 (List.mem_of_getElem? (i := 57) rfl) rfl⟩
set_option maxRecDepth 20000 in
theorem lf_7_39 : zLkFact 7 39 (2, 78, 0) := ⟨mi_Stones_leanUpTo, rfl, zg3 (List.mem_of_getElem? (i := 193) rfl) rfl⟩
set_option maxRecDepth 20000 in
theorem lf_7_42 : zLkFact 7 42 (8, 2, 0) := zg3 (List.mem_of_getElem? (i := 166) rfl) rfl
set_option maxRecDepth 20000 in
theorem lf_7_45 : zLkFact 7 45 (2, 83, 0) := ⟨mi_Stones_hasJoint, rfl, zg3 (List.mem_of_getElem? (i := 70) rfl) rfl⟩
set_option maxRecDepth 20000 in
theorem lf_7_48 : zLkFact 7 48 (2, 76, 0) := ⟨mi_Stones_holdOf, rfl, zg3 (List.mem_of_getElem? (i := 71) rfl) rfl⟩
set_option maxRecDepth 20000 in
theorem lf_7_51 : zLkFact 7 51 (8, 0, 0) := zg3 (List.mem_of_getElem? (i := 72) rfl) rfl
set_option maxRecDepth 20000 in
theorem lf_7_54 : zLkFact 7 54 (2, 86, 0) := ⟨mi_Stones_heldBy, rfl, zg3 (List.mem_of_getElem? (i := 160) rfl) rfl⟩
set_option maxRecDepth 20000 in
theorem lf_7_57 : zLkFact 7 57 (2, 87, 0) := ⟨mi_Stones_loadOn, rfl, zg3 (List.mem_of_getElem? (i := 161) rfl) rfl⟩
set_option maxRecDepth 20000 in
theorem lf_7_60 : zLkFact 7 60 (2, 82, 0) := ⟨mi_Stones_joints, rfl, zg3 (List.mem_of_getElem? (i := 152) rfl) rfl⟩
set_option maxRecDepth 20000 in
theorem lf_7_64 : zLkFact 7 64 (2, 88, 0) := ⟨mi_Stones_spareOf, rfl, zg3 (List.mem_of_getElem? (i := 156) rfl) rfl⟩
set_option maxRecDepth 20000 in
theorem lf_7_67 : zLkFact 7 67 (2, 89, 0) := ⟨mi_Stones_firstBreak, rfl, zg3 (List.mem_of_getElem? (i := 148) rfl) rfl⟩
set_option maxRecDepth 20000 in
theorem lf_7_70 : zLkFact 7 70 (2, 81, 0) := ⟨mi_Stones_firstLeaning, rfl, zg3 (List.mem_of_getElem? (i := 162) rfl) rfl⟩
set_option maxRecDepth 20000 in
theorem lf_7_73 : zLkFact 7 73 (2, 91, 0) := ⟨mi_Stones_leastSpare, rfl, zg3 (List.mem_of_getElem? (i := 184) rfl) rfl⟩
set_option maxRecDepth 20000 in
theorem lf_7_76 : zLkFact 7 76 (3, 155, 0) := ⟨mi_X_oneIf, rfl, zn3 (List.mem_of_getElem? (i := 92) rfl) rfl⟩
set_option maxRecDepth 20000 in
theorem lf_7_80 : zLkFact 7 80 (2, 74, 0) := ⟨mi_Stones_figureOf, rfl, zg4 (List.mem_of_getElem? (i := 208) rfl) rfl⟩
set_option maxRecDepth 20000 in
theorem lf_7_83 : zLkFact 7 83 (2, 75, 0) := ⟨mi_Stones_layerOf, rfl, zg3 (List.mem_of_getElem? (i := 91) rfl) rfl⟩
set_option maxRecDepth 20000 in
theorem lf_7_86 : zLkFact 7 86 (2, 97, 0) := ⟨mi_Stones_bitsLaidBy, rfl, zg3 (List.mem_of_getElem? (i := 87) rfl) rfl⟩
set_option maxRecDepth 20000 in
theorem lf_7_89 : zLkFact 7 89 (2, 260, 0) := ⟨mi_Integer_bitCount, rfl, zg3 (List.mem_of_getElem? (i := 95) rfl) rfl⟩
set_option maxRecDepth 20000 in
theorem lf_7_94 : zLkFact 7 94 (2, 73, 0) := ⟨mi_Stones_kindOf, rfl, zg4 (List.mem_of_getElem? (i := 94) rfl) rfl⟩
set_option maxRecDepth 20000 in
theorem lf_7_97 : zLkFact 7 97 (2, 85, 0) := ⟨mi_Stones_isLaidByTwo, rfl, zg4 (List.mem_of_getElem? (i := 70) rfl) rfl⟩
set_option maxRecDepth 20000 in
theorem lf_7_100 : zLkFact 7 100 (2, 84, 0) := ⟨mi_Stones_isOfOneKind, rfl, zg4 (List.mem_of_getElem? (i := 82) rfl) rfl⟩
set_option maxRecDepth 20000 in
theorem zlk_7_ok : ∀ e ∈ zlk_7, zLkFact 7 e.1 e.2 := List.forall_mem_cons.mpr ⟨lf_7_11, List.forall_mem_cons.mpr ⟨lf_7_15, List.forall_mem_cons.mpr ⟨lf_7_18, List.forall_mem_cons.mpr ⟨lf_7_21, List.forall_mem_cons.mpr ⟨lf_7_25, List.forall_mem_cons.mpr ⟨lf_7_29, List.forall_mem_cons.mpr ⟨lf_7_35, List.forall_mem_cons.mpr ⟨lf_7_39, List.forall_mem_cons.mpr ⟨lf_7_42, List.forall_mem_cons.mpr ⟨lf_7_45, List.forall_mem_cons.mpr ⟨lf_7_48, List.forall_mem_cons.mpr ⟨lf_7_51, List.forall_mem_cons.mpr ⟨lf_7_54, List.forall_mem_cons.mpr ⟨lf_7_57, List.forall_mem_cons.mpr ⟨lf_7_60, List.forall_mem_cons.mpr ⟨lf_7_64, List.forall_mem_cons.mpr ⟨lf_7_67, List.forall_mem_cons.mpr ⟨lf_7_70, List.forall_mem_cons.mpr ⟨lf_7_73, List.forall_mem_cons.mpr ⟨lf_7_76, List.forall_mem_cons.mpr ⟨lf_7_80, List.forall_mem_cons.mpr ⟨lf_7_83, List.forall_mem_cons.mpr ⟨lf_7_86, List.forall_mem_cons.mpr ⟨lf_7_89, List.forall_mem_cons.mpr ⟨lf_7_94, List.forall_mem_cons.mpr ⟨lf_7_97, List.forall_mem_cons.mpr ⟨lf_7_100, fun _ h => absurd h List.not_mem_nil⟩⟩⟩⟩⟩⟩⟩⟩⟩⟩⟩⟩⟩⟩⟩⟩⟩⟩⟩⟩⟩⟩⟩⟩⟩⟩⟩
set_option maxRecDepth 20000 in
theorem lf_8_10 : zLkFact 8 10 (0, 8, 0) := ⟨RX8, TX8, 9, rfl, by decide, zg1 (List.mem_of_getElem? (i := 182) rfl) rfl, rfl, fun h => absurd h (by decide)⟩
set_option maxRecDepth 20000 in
theorem lf_8_16 : zLkFact 8 16 (0, 8, 1) := ⟨RX8, TX8, 9, rfl, by decide, zg1 (List.mem_of_getElem? (i := 183) rfl) rfl, rfl, fun h => absurd h (by decide)⟩
set_option maxRecDepth 20000 in
theorem lf_8_19 : zLkFact 8 19 (0, 8, 3) := ⟨RX8, TX8, 9, rfl, by decide, zg1 (List.mem_of_getElem? (i := 185) rfl) rfl, rfl, fun h => absurd h (by decide)⟩
set_option maxRecDepth 20000 in
theorem lf_8_25 : zLkFact 8 25 (0, 8, 4) := ⟨RX8, TX8, 9, rfl, by decide, zg1 (List.mem_of_getElem? (i := 186) rfl) rfl, rfl, fun h => absurd h (by decide)⟩
set_option maxRecDepth 20000 in
theorem lf_8_32 : zLkFact 8 32 (0, 8, 5) := ⟨RX8, TX8, 9, rfl, by decide, zg1 (List.mem_of_getElem? (i := 187) rfl) rfl, rfl, fun h => absurd h (by decide)⟩
set_option maxRecDepth 20000 in
theorem lf_8_41 : zLkFact 8 41 (0, 8, 6) := ⟨RX8, TX8, 9, rfl, by decide, zg1 (List.mem_of_getElem? (i := 188) rfl) rfl, rfl, fun h => absurd h (by decide)⟩
set_option maxRecDepth 20000 in
theorem lf_8_47 : zLkFact 8 47 (1, 0, 0) := ⟨RX0, TX0, 5, rfl, by decide, zn1 (List.mem_of_getElem? (i := 81) rfl) rfl, rfl, fun h => absurd h (by decide)⟩
set_option maxRecDepth 20000 in
theorem lf_8_54 : zLkFact 8 54 (0, 8, 7) := ⟨RX8, TX8, 9, rfl, by decide, zg1 (List.mem_of_getElem? (i := 189) rfl) rfl, rfl, fun h => absurd h (by decide)⟩
set_option maxRecDepth 20000 in
theorem lf_8_58 : zLkFact 8 58 (0, 8, 8) := ⟨RX8, TX8, 9, rfl, by decide, zg1 (List.mem_of_getElem? (i := 190) rfl) rfl, rfl, fun h => absurd h (by decide)⟩
set_option maxRecDepth 20000 in
theorem lf_8_62 : zLkFact 8 62 (2, 149, 0) := ⟨mi_X_outside, rfl, zg1 (List.mem_of_getElem? (i := 214) rfl) rfl⟩
set_option maxRecDepth 20000 in
theorem lf_8_66 : zLkFact 8 66 (2, 145, 0) := ⟨mi_X_refuse, rfl, zg1 (List.mem_of_getElem? (i := 217) rfl) rfl⟩
set_option maxRecDepth 20000 in
theorem lf_8_70 : zLkFact 8 70 (2, 25, 0) := ⟨mi_Letters_isFull, rfl, zg1 (List.mem_of_getElem? (i := 224) rfl) rfl⟩
set_option maxRecDepth 20000 in
theorem lf_8_74 : zLkFact 8 74 (2, 26, 0) := ⟨mi_Letters_add, rfl, zg1 (List.mem_of_getElem? (i := 228) rfl) rfl⟩
set_option maxRecDepth 20000 in
theorem lf_8_78 : zLkFact 8 78 (2, 24, 0) := ⟨mi_Letters_number, rfl, zg1 (List.mem_of_getElem? (i := 232) rfl) rfl⟩
set_option maxRecDepth 20000 in
theorem lf_8_82 : zLkFact 8 82 (2, 28, 0) := ⟨mi_Letters_firstStray, rfl, zg2 (List.mem_of_getElem? (i := 0) rfl) rfl⟩
set_option maxRecDepth 20000 in
theorem lf_8_85 : zLkFact 8 85 (2, 0, 0) := ⟨mi_Bridge_become, rfl, zg2 (List.mem_of_getElem? (i := 153) rfl) rfl⟩
set_option maxRecDepth 20000 in
theorem lf_8_88 : zLkFact 8 88 (2, 29, 0) := ⟨mi_Letters_firstWrong, rfl, zg2 (List.mem_of_getElem? (i := 165) rfl) rfl⟩
set_option maxRecDepth 20000 in
theorem lf_8_92 : zLkFact 8 92 (2, 30, 0) := ⟨mi_Letters_statements, rfl, zg3 (List.mem_of_getElem? (i := 14) rfl) rfl⟩
set_option maxRecDepth 20000 in
theorem lf_8_95 : zLkFact 8 95 (2, 27, 0) := ⟨mi_Letters_forget, rfl, zg3 (List.mem_of_getElem? (i := 18) rfl) rfl⟩
set_option maxRecDepth 20000 in
theorem lf_8_98 : zLkFact 8 98 (2, 72, 0) := ⟨mi_Stones_has, rfl, zg3 (List.mem_of_getElem? (i := 27) rfl) rfl⟩
set_option maxRecDepth 20000 in
theorem lf_8_104 : zLkFact 8 104 (2, 146, 0) := ⟨mi_X_refuseFar, rfl, zg3 (List.mem_of_getElem? (i := 28) rfl) rfl⟩
set_option maxRecDepth 20000 in
theorem lf_8_107 : zLkFact 8 107 (2, 73, 0) := ⟨mi_Stones_kindOf, rfl, zg3 (List.mem_of_getElem? (i := 33) rfl) rfl⟩
set_option maxRecDepth 20000 in
theorem lf_8_110 : zLkFact 8 110 (2, 74, 0) := ⟨mi_Stones_figureOf, rfl, zg3 (List.mem_of_getElem? (i := 37) rfl) rfl⟩
set_option maxRecDepth 20000 in
theorem lf_8_113 : zLkFact 8 113 (2, 75, 0) := ⟨mi_Stones_layerOf, rfl, zg3 (List.mem_of_getElem? (i := 41) rfl) rfl⟩
set_option maxRecDepth 20000 in
theorem lf_8_116 : zLkFact 8 116 (2, 76, 0) := ⟨mi_Stones_holdOf, rfl, zg3 (List.mem_of_getElem? (i := 45) rfl) rfl⟩
set_option maxRecDepth 20000 in
theorem lf_8_119 : zLkFact 8 119 (2, 77, 0) := ⟨mi_Stones_leanOf, rfl, zg3 (List.mem_of_getElem? (i := 49) rfl) rfl⟩
set_option maxRecDepth 20000 in
theorem lf_8_122 : zLkFact 8 122 (2, 78, 0) := ⟨mi_Stones_leanUpTo, rfl, zg3 (List.mem_of_getElem? (i := 53) rfl) rfl⟩
set_option maxRecDepth 20000 in
theorem lf_8_125 : zLkFact 8 125 (2, 83, 0) := ⟨mi_Stones_hasJoint, rfl, zg3 (List.mem_of_getElem? (i := 62) rfl) rfl⟩
set_option maxRecDepth 20000 in
theorem lf_8_128 : zLkFact 8 128 (2, 86, 0) := ⟨mi_Stones_heldBy, rfl, zg3 (List.mem_of_getElem? (i := 66) rfl) rfl⟩
set_option maxRecDepth 20000 in
theorem lf_8_131 : zLkFact 8 131 (2, 87, 0) := ⟨mi_Stones_loadOn, rfl, zg3 (List.mem_of_getElem? (i := 73) rfl) rfl⟩
set_option maxRecDepth 20000 in
theorem lf_8_134 : zLkFact 8 134 (2, 151, 0) := ⟨mi_X_isMason, rfl, zg3 (List.mem_of_getElem? (i := 81) rfl) rfl⟩
set_option maxRecDepth 20000 in
theorem lf_8_137 : zLkFact 8 137 (2, 1, 0) := ⟨mi_Bridge_masonOf, rfl, zg3 (List.mem_of_getElem? (i := 82) rfl) rfl⟩
set_option maxRecDepth 20000 in
theorem lf_8_141 : zLkFact 8 141 (1, 4, 0) := ⟨RX4, TX4, 3, rfl, by decide, zn1 (List.mem_of_getElem? (i := 59) rfl) rfl, rfl, fun _ => ⟨by first | rfl | (exfalso; revert ‹zfr _ _ _ = none›; decide), by first | decide +kernel | (exfalso; revert ‹zfr _ _ _ = none›; decide)⟩⟩
set_option maxRecDepth 20000 in
theorem lf_8_147 : zLkFact 8 147 (1, 4, 1) := ⟨RX4, TX4, 3, rfl, by decide, zn1 (List.mem_of_getElem? (i := 64) rfl) rfl, rfl, fun _ => ⟨by first | rfl | (exfalso; revert ‹zfr _ _ _ = none›; decide), by first | decide +kernel | (exfalso; revert ‹zfr _ _ _ = none›; decide)⟩⟩
set_option maxRecDepth 20000 in
theorem lf_8_150 : zLkFact 8 150 (1, 4, 2) := ⟨RX4, TX4, 3, rfl, by decide, zn1 (List.mem_of_getElem? (i := 70) rfl) rfl, rfl, fun _ => ⟨by first | rfl | (exfalso; revert ‹zfr _ _ _ = none›; decide), by first | decide +kernel | (exfalso; revert ‹zfr _ _ _ = none›; decide)⟩⟩
set_option maxRecDepth 20000 in
theorem lf_8_153 : zLkFact 8 153 (2, 98, 0) := ⟨mi_Stones_shareOf, rfl, zg3 (List.mem_of_getElem? (i := 83) rfl) rfl⟩
set_option maxRecDepth 20000 in
theorem lf_8_156 : zLkFact 8 156 (2, 152, 0) := ⟨mi_X_isKind, rfl, zg3 (List.mem_of_getElem? (i := 105) rfl) rfl⟩
set_option maxRecDepth 20000 in
theorem lf_8_159 : zLkFact 8 159 (2, 71, 0) := ⟨mi_Stones_hasRoom, rfl, zg3 (List.mem_of_getElem? (i := 106) rfl) rfl⟩
set_option maxRecDepth 20000 in
theorem lf_8_162 : zLkFact 8 162 (2, 64, 0) := ⟨mi_Stones_add, rfl, zg3 (List.mem_of_getElem? (i := 107) rfl) rfl⟩
set_option maxRecDepth 20000 in
theorem lf_8_165 : zLkFact 8 165 (2, 70, 0) := ⟨mi_Stones_number, rfl, zg3 (List.mem_of_getElem? (i := 108) rfl) rfl⟩
set_option maxRecDepth 20000 in
theorem lf_8_166 : zLkFact 8 166 (2, 65, 0) := ⟨mi_Stones_remake, rfl, zg3 (List.mem_of_getElem? (i := 113) rfl) rfl⟩
set_option maxRecDepth 20000 in
theorem lf_8_169 : zLkFact 8 169 (2, 67, 0) := ⟨mi_Stones_takeAway, rfl, zg3 (List.mem_of_getElem? (i := 118) rfl) rfl⟩
set_option maxRecDepth 20000 in
theorem lf_8_172 : zLkFact 8 172 (2, 148, 0) := ⟨mi_X_refusalOfTrait, rfl, zg3 (List.mem_of_getElem? (i := 127) rfl) rfl⟩
set_option maxRecDepth 20000 in
theorem lf_8_176 : zLkFact 8 176 (2, 2, 0) := ⟨mi_Bridge_hasTimeFor, rfl, zg3 (List.mem_of_getElem? (i := 138) rfl) rfl⟩
set_option maxRecDepth 20000 in
theorem lf_8_179 : zLkFact 8 179 (2, 3, 0) := ⟨mi_Bridge_passDays, rfl, zg3 (List.mem_of_getElem? (i := 139) rfl) rfl⟩
set_option maxRecDepth 20000 in
theorem lf_8_182 : zLkFact 8 182 (2, 90, 0) := ⟨mi_Stones_stand, rfl, zg3 (List.mem_of_getElem? (i := 144) rfl) rfl⟩
set_option maxRecDepth 20000 in
theorem lf_8_185 : zLkFact 8 185 (2, 155, 0) := ⟨mi_X_oneIf, rfl, zg3 (List.mem_of_getElem? (i := 169) rfl) rfl⟩
set_option maxRecDepth 20000 in
theorem lf_8_189 : zLkFact 8 189 (2, 89, 0) := ⟨mi_Stones_firstBreak, rfl, zg3 (List.mem_of_getElem? (i := 170) rfl) rfl⟩
set_option maxRecDepth 20000 in
theorem lf_8_192 : zLkFact 8 192 (2, 81, 0) := ⟨mi_Stones_firstLeaning, rfl, zg3 (List.mem_of_getElem? (i := 171) rfl) rfl⟩
set_option maxRecDepth 20000 in
theorem lf_8_195 : zLkFact 8 195 (2, 91, 0) := ⟨mi_Stones_leastSpare, rfl, zg3 (List.mem_of_getElem? (i := 176) rfl) rfl⟩
set_option maxRecDepth 20000 in
theorem lf_8_198 : zLkFact 8 198 (2, 92, 0) := ⟨mi_Stones_weakestJoint, rfl, zg3 (List.mem_of_getElem? (i := 180) rfl) rfl⟩
set_option maxRecDepth 20000 in
theorem lf_8_201 : zLkFact 8 201 (2, 79, 0) := ⟨mi_Stones_leanAtEnd, rfl, zg3 (List.mem_of_getElem? (i := 189) rfl) rfl⟩
set_option maxRecDepth 20000 in
theorem lf_8_204 : zLkFact 8 204 (2, 80, 0) := ⟨mi_Stones_farthestLean, rfl, zg3 (List.mem_of_getElem? (i := 194) rfl) rfl⟩
set_option maxRecDepth 20000 in
theorem lf_8_207 : zLkFact 8 207 (2, 8, 0) := ⟨mi_Foresight_behind, rfl, zg3 (List.mem_of_getElem? (i := 202) rfl) rfl⟩
set_option maxRecDepth 20000 in
theorem lf_8_211 : zLkFact 8 211 (1, 0, 3) := ⟨RX0, TX0, 5, rfl, by decide, zn1 (List.mem_of_getElem? (i := 90) rfl) rfl, rfl, fun _ => ⟨by first | rfl | (exfalso; revert ‹zfr _ _ _ = none›; decide), by first | decide +kernel | (exfalso; revert ‹zfr _ _ _ = none›; decide)⟩⟩
set_option maxRecDepth 20000 in
theorem lf_8_214 : zLkFact 8 214 (2, 9, 0) := ⟨mi_Foresight_dayWhenUp, rfl, zg3 (List.mem_of_getElem? (i := 212) rfl) rfl⟩
set_option maxRecDepth 20000 in
theorem lf_8_217 : zLkFact 8 217 (2, 10, 0) := ⟨mi_Foresight_dayOfFall, rfl, zg3 (List.mem_of_getElem? (i := 219) rfl) rfl⟩
set_option maxRecDepth 20000 in
theorem lf_8_220 : zLkFact 8 220 (2, 45, 0) := ⟨mi_Remedies_bestKindOfOneMore, rfl, zg3 (List.mem_of_getElem? (i := 227) rfl) rfl⟩
set_option maxRecDepth 20000 in
theorem lf_8_223 : zLkFact 8 223 (2, 46, 0) := ⟨mi_Remedies_firstMending, rfl, zg4 (List.mem_of_getElem? (i := 0) rfl) rfl⟩
set_option maxRecDepth 20000 in
theorem lf_8_226 : zLkFact 8 226 (2, 47, 0) := ⟨mi_Remedies_fewestToPlain, rfl, zg4 (List.mem_of_getElem? (i := 12) rfl) rfl⟩
set_option maxRecDepth 20000 in
theorem lf_8_229 : zLkFact 8 229 (2, 52, 0) := ⟨mi_Remedies_fewestToTake, rfl, zg4 (List.mem_of_getElem? (i := 41) rfl) rfl⟩
set_option maxRecDepth 20000 in
theorem lf_8_232 : zLkFact 8 232 (2, 53, 0) := ⟨mi_Remedies_bestToTurn, rfl, zg4 (List.mem_of_getElem? (i := 50) rfl) rfl⟩
set_option maxRecDepth 20000 in
theorem lf_8_235 : zLkFact 8 235 (2, 100, 0) := ⟨mi_Stones_runsOfOne, rfl, zg4 (List.mem_of_getElem? (i := 66) rfl) rfl⟩
set_option maxRecDepth 20000 in
theorem lf_8_238 : zLkFact 8 238 (2, 101, 0) := ⟨mi_Stones_longestRun, rfl, zg4 (List.mem_of_getElem? (i := 74) rfl) rfl⟩
set_option maxRecDepth 20000 in
theorem lf_8_241 : zLkFact 8 241 (2, 102, 0) := ⟨mi_Stones_agreedJoints, rfl, zg4 (List.mem_of_getElem? (i := 78) rfl) rfl⟩
set_option maxRecDepth 20000 in
theorem lf_8_244 : zLkFact 8 244 (2, 99, 0) := ⟨mi_Stones_kindBitsOf, rfl, zg4 (List.mem_of_getElem? (i := 90) rfl) rfl⟩
set_option maxRecDepth 20000 in
theorem lf_8_247 : zLkFact 8 247 (2, 95, 0) := ⟨mi_Stones_strongest, rfl, zg4 (List.mem_of_getElem? (i := 99) rfl) rfl⟩
set_option maxRecDepth 20000 in
theorem lf_8_250 : zLkFact 8 250 (2, 93, 0) := ⟨mi_Stones_lackOfAll, rfl, zg4 (List.mem_of_getElem? (i := 107) rfl) rfl⟩
set_option maxRecDepth 20000 in
theorem lf_8_253 : zLkFact 8 253 (2, 11, 0) := ⟨mi_Foresight_whoHadBetterYield, rfl, zg4 (List.mem_of_getElem? (i := 115) rfl) rfl⟩
set_option maxRecDepth 20000 in
theorem lf_8_256 : zLkFact 8 256 (2, 13, 0) := ⟨mi_Foresight_bestStyle, rfl, zg4 (List.mem_of_getElem? (i := 129) rfl) rfl⟩
set_option maxRecDepth 20000 in
theorem lf_8_259 : zLkFact 8 259 (2, 14, 0) := ⟨mi_Foresight_spareWithStyle, rfl, zg4 (List.mem_of_getElem? (i := 138) rfl) rfl⟩
set_option maxRecDepth 20000 in
theorem lf_8_262 : zLkFact 8 262 (2, 15, 0) := ⟨mi_Foresight_dayOfPeace, rfl, zg4 (List.mem_of_getElem? (i := 143) rfl) rfl⟩
set_option maxRecDepth 20000 in
theorem lf_8_265 : zLkFact 8 265 (2, 16, 0) := ⟨mi_Foresight_swappedLayMore, rfl, zg4 (List.mem_of_getElem? (i := 151) rfl) rfl⟩
set_option maxRecDepth 20000 in
theorem lf_8_268 : zLkFact 8 268 (2, 17, 0) := ⟨mi_Foresight_firstSettledPair, rfl, zg4 (List.mem_of_getElem? (i := 160) rfl) rfl⟩
set_option maxRecDepth 20000 in
theorem lf_8_271 : zLkFact 8 271 (2, 147, 0) := ⟨mi_X_refuseLong, rfl, zg4 (List.mem_of_getElem? (i := 173) rfl) rfl⟩
set_option maxRecDepth 20000 in
theorem lf_8_275 : zLkFact 8 275 (2, 153, 0) := ⟨mi_X_isPart, rfl, zg4 (List.mem_of_getElem? (i := 178) rfl) rfl⟩
set_option maxRecDepth 20000 in
theorem lf_8_278 : zLkFact 8 278 (2, 19, 0) := ⟨mi_Foresight_standingWays, rfl, zg4 (List.mem_of_getElem? (i := 181) rfl) rfl⟩
set_option maxRecDepth 20000 in
theorem lf_8_282 : zLkFact 8 282 (2, 157, 0) := ⟨mi_X_power, rfl, zg4 (List.mem_of_getElem? (i := 192) rfl) rfl⟩
set_option maxRecDepth 20000 in
theorem lf_8_285 : zLkFact 8 285 (2, 158, 0) := ⟨mi_X_inLeastTerms, rfl, zg4 (List.mem_of_getElem? (i := 193) rfl) rfl⟩
set_option maxRecDepth 20000 in
theorem lf_8_289 : zLkFact 8 289 (2, 96, 0) := ⟨mi_Stones_sumOfFigures, rfl, zg4 (List.mem_of_getElem? (i := 204) rfl) rfl⟩
set_option maxRecDepth 20000 in
theorem lf_8_292 : zLkFact 8 292 (2, 54, 0) := ⟨mi_Remedies_layersThatFit, rfl, zg4 (List.mem_of_getElem? (i := 213) rfl) rfl⟩
set_option maxRecDepth 20000 in
theorem lf_8_296 : zLkFact 8 296 (2, 55, 0) := ⟨mi_Remedies_kindsThatFit, rfl, zg4 (List.mem_of_getElem? (i := 228) rfl) rfl⟩
set_option maxRecDepth 20000 in
theorem lf_8_299 : zLkFact 8 299 (2, 56, 0) := ⟨mi_Remedies_figuresThatFit, rfl, zg4 (List.mem_of_getElem? (i := 232) rfl) rfl⟩
set_option maxRecDepth 20000 in
theorem lf_8_302 : zLkFact 8 302 (2, 58, 0) := ⟨mi_Row_isFull, rfl, zg5 (List.mem_of_getElem? (i := 0) rfl) rfl⟩
set_option maxRecDepth 20000 in
theorem lf_8_303 : zLkFact 8 303 (2, 59, 0) := ⟨mi_Row_add, rfl, zg5 (List.mem_of_getElem? (i := 4) rfl) rfl⟩
set_option maxRecDepth 20000 in
theorem lf_8_304 : zLkFact 8 304 (2, 57, 0) := ⟨mi_Row_number, rfl, zg5 (List.mem_of_getElem? (i := 8) rfl) rfl⟩
set_option maxRecDepth 20000 in
theorem lf_8_305 : zLkFact 8 305 (2, 62, 0) := ⟨mi_Row_firstFalseLean, rfl, zg5 (List.mem_of_getElem? (i := 16) rfl) rfl⟩
set_option maxRecDepth 20000 in
theorem lf_8_309 : zLkFact 8 309 (2, 60, 0) := ⟨mi_Row_forget, rfl, zg5 (List.mem_of_getElem? (i := 22) rfl) rfl⟩
set_option maxRecDepth 20000 in
theorem lf_8_310 : zLkFact 8 310 (2, 20, 0) := ⟨mi_Foresight_standingByLot, rfl, zg5 (List.mem_of_getElem? (i := 34) rfl) rfl⟩
set_option maxRecDepth 20000 in
theorem lf_8_313 : zLkFact 8 313 (2, 21, 0) := ⟨mi_Foresight_quarrelsByLot, rfl, zg5 (List.mem_of_getElem? (i := 59) rfl) rfl⟩
set_option maxRecDepth 20000 in
theorem lf_8_316 : zLkFact 8 316 (0, 8, 2) := ⟨RX8, TX8, 9, rfl, by decide, zg1 (List.mem_of_getElem? (i := 184) rfl) rfl, rfl, fun _ => ⟨by first | rfl | (exfalso; revert ‹zfr _ _ _ = none›; decide), by first | decide +kernel | (exfalso; revert ‹zfr _ _ _ = none›; decide)⟩⟩
set_option maxRecDepth 20000 in
theorem lf_8_320 : zLkFact 8 320 (1, 0, 4) := ⟨RX0, TX0, 5, rfl, by decide, zn1 (List.mem_of_getElem? (i := 92) rfl) rfl, rfl, fun _ => ⟨by first | rfl | (exfalso; revert ‹zfr _ _ _ = none›; decide), by first | decide +kernel | (exfalso; revert ‹zfr _ _ _ = none›; decide)⟩⟩
set_option maxRecDepth 20000 in
theorem lf_8_323 : zLkFact 8 323 (2, 97, 0) := ⟨mi_Stones_bitsLaidBy, rfl, zg5 (List.mem_of_getElem? (i := 75) rfl) rfl⟩
set_option maxRecDepth 20000 in
theorem lf_8_326 : zLkFact 8 326 (2, 94, 0) := ⟨mi_Stones_bitsOfLacking, rfl, zg5 (List.mem_of_getElem? (i := 76) rfl) rfl⟩
set_option maxRecDepth 20000 in
theorem lf_8_329 : zLkFact 8 329 (2, 150, 0) := ⟨mi_X_between, rfl, zg1 (List.mem_of_getElem? (i := 221) rfl) rfl⟩
set_option maxRecDepth 20000 in
theorem lf_8_336 : zLkFact 8 336 (2, 159, 0) := ⟨mi_X_greatestDivisor, rfl, zg4 (List.mem_of_getElem? (i := 196) rfl) rfl⟩
set_option maxRecDepth 20000 in
theorem zlk_8_ok : ∀ e ∈ zlk_8, zLkFact 8 e.1 e.2 := List.forall_mem_cons.mpr ⟨lf_8_10, List.forall_mem_cons.mpr ⟨lf_8_16, List.forall_mem_cons.mpr ⟨lf_8_19, List.forall_mem_cons.mpr ⟨lf_8_25, List.forall_mem_cons.mpr ⟨lf_8_32, List.forall_mem_cons.mpr ⟨lf_8_41, List.forall_mem_cons.mpr ⟨lf_8_47, List.forall_mem_cons.mpr ⟨lf_8_54, List.forall_mem_cons.mpr ⟨lf_8_58, List.forall_mem_cons.mpr ⟨lf_8_62, List.forall_mem_cons.mpr ⟨lf_8_66, List.forall_mem_cons.mpr ⟨lf_8_70, List.forall_mem_cons.mpr ⟨lf_8_74, List.forall_mem_cons.mpr ⟨lf_8_78, List.forall_mem_cons.mpr ⟨lf_8_82, List.forall_mem_cons.mpr ⟨lf_8_85, List.forall_mem_cons.mpr ⟨lf_8_88, List.forall_mem_cons.mpr ⟨lf_8_92, List.forall_mem_cons.mpr ⟨lf_8_95, List.forall_mem_cons.mpr ⟨lf_8_98, List.forall_mem_cons.mpr ⟨lf_8_104, List.forall_mem_cons.mpr ⟨lf_8_107, List.forall_mem_cons.mpr ⟨lf_8_110, List.forall_mem_cons.mpr ⟨lf_8_113, List.forall_mem_cons.mpr ⟨lf_8_116, List.forall_mem_cons.mpr ⟨lf_8_119, List.forall_mem_cons.mpr ⟨lf_8_122, List.forall_mem_cons.mpr ⟨lf_8_125, List.forall_mem_cons.mpr ⟨lf_8_128, List.forall_mem_cons.mpr ⟨lf_8_131, List.forall_mem_cons.mpr ⟨lf_8_134, List.forall_mem_cons.mpr ⟨lf_8_137, List.forall_mem_cons.mpr ⟨lf_8_141, List.forall_mem_cons.mpr ⟨lf_8_147, List.forall_mem_cons.mpr ⟨lf_8_150, List.forall_mem_cons.mpr ⟨lf_8_153, List.forall_mem_cons.mpr ⟨lf_8_156, List.forall_mem_cons.mpr ⟨lf_8_159, List.forall_mem_cons.mpr ⟨lf_8_162, List.forall_mem_cons.mpr ⟨lf_8_165, List.forall_mem_cons.mpr ⟨lf_8_166, List.forall_mem_cons.mpr ⟨lf_8_169, List.forall_mem_cons.mpr ⟨lf_8_172, List.forall_mem_cons.mpr ⟨lf_8_176, List.forall_mem_cons.mpr ⟨lf_8_179, List.forall_mem_cons.mpr ⟨lf_8_182, List.forall_mem_cons.mpr ⟨lf_8_185, List.forall_mem_cons.mpr ⟨lf_8_189, List.forall_mem_cons.mpr ⟨lf_8_192, List.forall_mem_cons.mpr ⟨lf_8_195, List.forall_mem_cons.mpr ⟨lf_8_198, List.forall_mem_cons.mpr ⟨lf_8_201, List.forall_mem_cons.mpr ⟨lf_8_204, List.forall_mem_cons.mpr ⟨lf_8_207, List.forall_mem_cons.mpr ⟨lf_8_211, List.forall_mem_cons.mpr ⟨lf_8_214, List.forall_mem_cons.mpr ⟨lf_8_217, List.forall_mem_cons.mpr ⟨lf_8_220, List.forall_mem_cons.mpr ⟨lf_8_223, List.forall_mem_cons.mpr ⟨lf_8_226, List.forall_mem_cons.mpr ⟨lf_8_229, List.forall_mem_cons.mpr ⟨lf_8_232, List.forall_mem_cons.mpr ⟨lf_8_235, List.forall_mem_cons.mpr ⟨lf_8_238, List.forall_mem_cons.mpr ⟨lf_8_241, List.forall_mem_cons.mpr ⟨lf_8_244, List.forall_mem_cons.mpr ⟨lf_8_247, List.forall_mem_cons.mpr ⟨lf_8_250, List.forall_mem_cons.mpr ⟨lf_8_253, List.forall_mem_cons.mpr ⟨lf_8_256, List.forall_mem_cons.mpr ⟨lf_8_259, List.forall_mem_cons.mpr ⟨lf_8_262, List.forall_mem_cons.mpr ⟨lf_8_265, List.forall_mem_cons.mpr ⟨lf_8_268, List.forall_mem_cons.mpr ⟨lf_8_271, List.forall_mem_cons.mpr ⟨lf_8_275, List.forall_mem_cons.mpr ⟨lf_8_278, List.forall_mem_cons.mpr ⟨lf_8_282, List.forall_mem_cons.mpr ⟨lf_8_285, List.forall_mem_cons.mpr ⟨lf_8_289, List.forall_mem_cons.mpr ⟨lf_8_292, List.forall_mem_cons.mpr ⟨lf_8_296, List.forall_mem_cons.mpr ⟨lf_8_299, List.forall_mem_cons.mpr ⟨lf_8_302, List.forall_mem_cons.mpr ⟨lf_8_303, List.forall_mem_cons.mpr ⟨lf_8_304, List.forall_mem_cons.mpr ⟨lf_8_305, List.forall_mem_cons.mpr ⟨lf_8_309, List.forall_mem_cons.mpr ⟨lf_8_310, List.forall_mem_cons.mpr ⟨lf_8_313, List.forall_mem_cons.mpr ⟨lf_8_316, List.forall_mem_cons.mpr ⟨lf_8_320, List.forall_mem_cons.mpr ⟨lf_8_323, List.forall_mem_cons.mpr ⟨lf_8_326, List.forall_mem_cons.mpr ⟨lf_8_329, List.forall_mem_cons.mpr ⟨lf_8_336, fun _ h => absurd h List.not_mem_nil⟩⟩⟩⟩⟩⟩⟩⟩⟩⟩⟩⟩⟩⟩⟩⟩⟩⟩⟩⟩⟩⟩⟩⟩⟩⟩⟩⟩⟩⟩⟩⟩⟩⟩⟩⟩⟩⟩⟩⟩⟩⟩⟩⟩⟩⟩⟩⟩⟩⟩⟩⟩⟩⟩⟩⟩⟩⟩⟩⟩⟩⟩⟩⟩⟩⟩⟩⟩⟩⟩⟩⟩⟩⟩⟩⟩⟩⟩⟩⟩⟩⟩⟩⟩⟩⟩⟩⟩⟩⟩⟩⟩⟩⟩⟩⟩
set_option maxRecDepth 20000 in
theorem lf_9_7 : zLkFact 9 7 (0, 9, 0) := ⟨RX9, TX9, 27, rfl, by decide, zg5 (List.mem_of_getElem? (i := 86) rfl) rfl, rfl, fun h => absurd h (by decide)⟩
set_option maxRecDepth 20000 in
theorem lf_9_13 : zLkFact 9 13 (0, 9, 1) := ⟨RX9, TX9, 27, rfl, by decide, zg5 (List.mem_of_getElem? (i := 87) rfl) rfl, rfl, fun h => absurd h (by decide)⟩
set_option maxRecDepth 20000 in
theorem lf_9_16 : zLkFact 9 16 (0, 9, 2) := ⟨RX9, TX9, 27, rfl, by decide, zg5 (List.mem_of_getElem? (i := 88) rfl) rfl, rfl, fun h => absurd h (by decide)⟩
set_option maxRecDepth 20000 in
theorem lf_9_19 : zLkFact 9 19 (0, 9, 3) := ⟨RX9, TX9, 27, rfl, by decide, zg5 (List.mem_of_getElem? (i := 89) rfl) rfl, rfl, fun h => absurd h (by decide)⟩
set_option maxRecDepth 20000 in
theorem lf_9_22 : zLkFact 9 22 (0, 9, 4) := ⟨RX9, TX9, 27, rfl, by decide, zg5 (List.mem_of_getElem? (i := 90) rfl) rfl, rfl, fun h => absurd h (by decide)⟩
set_option maxRecDepth 20000 in
theorem lf_9_25 : zLkFact 9 25 (0, 9, 5) := ⟨RX9, TX9, 27, rfl, by decide, zg5 (List.mem_of_getElem? (i := 91) rfl) rfl, rfl, fun h => absurd h (by decide)⟩
set_option maxRecDepth 20000 in
theorem lf_9_28 : zLkFact 9 28 (0, 9, 6) := ⟨RX9, TX9, 27, rfl, by decide, zg5 (List.mem_of_getElem? (i := 92) rfl) rfl, rfl, fun h => absurd h (by decide)⟩
set_option maxRecDepth 20000 in
theorem lf_9_31 : zLkFact 9 31 (0, 9, 10) := ⟨RX9, TX9, 27, rfl, by decide, zg5 (List.mem_of_getElem? (i := 96) rfl) rfl, rfl, fun h => absurd h (by decide)⟩
set_option maxRecDepth 20000 in
theorem lf_9_34 : zLkFact 9 34 (0, 9, 11) := ⟨RX9, TX9, 27, rfl, by decide, zg5 (List.mem_of_getElem? (i := 97) rfl) rfl, rfl, fun h => absurd h (by decide)⟩
set_option maxRecDepth 20000 in
theorem lf_9_37 : zLkFact 9 37 (0, 9, 12) := ⟨RX9, TX9, 27, rfl, by decide, zg5 (List.mem_of_getElem? (i := 98) rfl) rfl, rfl, fun h => absurd h (by decide)⟩
set_option maxRecDepth 20000 in
theorem lf_9_40 : zLkFact 9 40 (0, 9, 13) := ⟨RX9, TX9, 27, rfl, by decide, zg5 (List.mem_of_getElem? (i := 99) rfl) rfl, rfl, fun h => absurd h (by decide)⟩
set_option maxRecDepth 20000 in
theorem lf_9_43 : zLkFact 9 43 (0, 9, 17) := ⟨RX9, TX9, 27, rfl, by decide, zg5 (List.mem_of_getElem? (i := 103) rfl) rfl, rfl, fun h => absurd h (by decide)⟩
set_option maxRecDepth 20000 in
theorem lf_9_46 : zLkFact 9 46 (0, 9, 23) := ⟨RX9, TX9, 27, rfl, by decide, zg5 (List.mem_of_getElem? (i := 109) rfl) rfl, rfl, fun h => absurd h (by decide)⟩
set_option maxRecDepth 20000 in
theorem lf_9_49 : zLkFact 9 49 (0, 9, 24) := ⟨RX9, TX9, 27, rfl, by decide, zg5 (List.mem_of_getElem? (i := 110) rfl) rfl, rfl, fun h => absurd h (by decide)⟩
set_option maxRecDepth 20000 in
theorem lf_9_55 : zLkFact 9 55 (0, 9, 7) := ⟨RX9, TX9, 27, rfl, by decide, zg5 (List.mem_of_getElem? (i := 93) rfl) rfl, rfl, fun _ => ⟨by first | rfl | (exfalso; revert ‹zfr _ _ _ = none›; decide), by first | decide +kernel | (exfalso; revert ‹zfr _ _ _ = none›; decide)⟩⟩
set_option maxRecDepth 20000 in
theorem lf_9_59 : zLkFact 9 59 (2, 164, 0) := ⟨mi_M_bound, rfl, zg5 (List.mem_of_getElem? (i := 172) rfl) rfl⟩
set_option maxRecDepth 20000 in
theorem lf_9_63 : zLkFact 9 63 (0, 9, 14) := ⟨RX9, TX9, 27, rfl, by decide, zg5 (List.mem_of_getElem? (i := 100) rfl) rfl, rfl, fun _ => ⟨by first | rfl | (exfalso; revert ‹zfr _ _ _ = none›; decide), by first | decide +kernel | (exfalso; revert ‹zfr _ _ _ = none›; decide)⟩⟩
set_option maxRecDepth 20000 in
theorem lf_9_66 : zLkFact 9 66 (2, 160, 0) := ⟨mi_M_no, rfl, zg5 (List.mem_of_getElem? (i := 175) rfl) rfl⟩
set_option maxRecDepth 20000 in
theorem lf_9_70 : zLkFact 9 70 (0, 9, 15) := ⟨RX9, TX9, 27, rfl, by decide, zg5 (List.mem_of_getElem? (i := 101) rfl) rfl, rfl, fun _ => ⟨by first | rfl | (exfalso; revert ‹zfr _ _ _ = none›; decide), by first | decide +kernel | (exfalso; revert ‹zfr _ _ _ = none›; decide)⟩⟩
set_option maxRecDepth 20000 in
theorem lf_9_73 : zLkFact 9 73 (2, 171, 0) := ⟨mi_M_letterNow, rfl, zg5 (List.mem_of_getElem? (i := 187) rfl) rfl⟩
set_option maxRecDepth 20000 in
theorem lf_9_77 : zLkFact 9 77 (2, 163, 0) := ⟨mi_M_isIn, rfl, zg5 (List.mem_of_getElem? (i := 206) rfl) rfl⟩
set_option maxRecDepth 20000 in
theorem lf_9_81 : zLkFact 9 81 (2, 173, 0) := ⟨mi_M_kindOf, rfl, zg5 (List.mem_of_getElem? (i := 199) rfl) rfl⟩
set_option maxRecDepth 20000 in
theorem lf_9_84 : zLkFact 9 84 (2, 174, 0) := ⟨mi_M_readsKind, rfl, zg5 (List.mem_of_getElem? (i := 195) rfl) rfl⟩
set_option maxRecDepth 20000 in
theorem lf_9_88 : zLkFact 9 88 (2, 172, 0) := ⟨mi_M_readsDigits, rfl, zg5 (List.mem_of_getElem? (i := 202) rfl) rfl⟩
set_option maxRecDepth 20000 in
theorem lf_9_92 : zLkFact 9 92 (0, 9, 16) := ⟨RX9, TX9, 27, rfl, by decide, zg5 (List.mem_of_getElem? (i := 102) rfl) rfl, rfl, fun _ => ⟨by first | rfl | (exfalso; revert ‹zfr _ _ _ = none›; decide), by first | decide +kernel | (exfalso; revert ‹zfr _ _ _ = none›; decide)⟩⟩
set_option maxRecDepth 20000 in
theorem lf_9_95 : zLkFact 9 95 (2, 175, 0) := ⟨mi_M_readsAll, rfl, zg5 (List.mem_of_getElem? (i := 191) rfl) rfl⟩
set_option maxRecDepth 20000 in
theorem lf_9_98 : zLkFact 9 98 (2, 169, 0) := ⟨mi_M_isMason, rfl, zg5 (List.mem_of_getElem? (i := 225) rfl) rfl⟩
set_option maxRecDepth 20000 in
theorem lf_9_101 : zLkFact 9 101 (0, 9, 9) := ⟨RX9, TX9, 27, rfl, by decide, zg5 (List.mem_of_getElem? (i := 95) rfl) rfl, rfl, fun _ => ⟨by first | rfl | (exfalso; revert ‹zfr _ _ _ = none›; decide), by first | decide +kernel | (exfalso; revert ‹zfr _ _ _ = none›; decide)⟩⟩
set_option maxRecDepth 20000 in
theorem lf_9_104 : zLkFact 9 104 (2, 203, 0) := ⟨mi_M_goes, rfl, zg6 (List.mem_of_getElem? (i := 8) rfl) rfl⟩
set_option maxRecDepth 20000 in
theorem lf_9_108 : zLkFact 9 108 (2, 188, 0) := ⟨mi_M_adds, rfl, zg5 (List.mem_of_getElem? (i := 228) rfl) rfl⟩
set_option maxRecDepth 20000 in
theorem lf_9_112 : zLkFact 9 112 (2, 168, 0) := ⟨mi_M_isStone, rfl, zg5 (List.mem_of_getElem? (i := 232) rfl) rfl⟩
set_option maxRecDepth 20000 in
theorem lf_9_115 : zLkFact 9 115 (2, 189, 0) := ⟨mi_M_becomes, rfl, zg5 (List.mem_of_getElem? (i := 236) rfl) rfl⟩
set_option maxRecDepth 20000 in
theorem lf_9_118 : zLkFact 9 118 (2, 177, 0) := ⟨mi_M_comesMason, rfl, zg6 (List.mem_of_getElem? (i := 0) rfl) rfl⟩
set_option maxRecDepth 20000 in
theorem lf_9_121 : zLkFact 9 121 (2, 178, 0) := ⟨mi_M_comesDays, rfl, zg6 (List.mem_of_getElem? (i := 4) rfl) rfl⟩
set_option maxRecDepth 20000 in
theorem lf_9_124 : zLkFact 9 124 (2, 176, 0) := ⟨mi_M_statement, rfl, zg5 (List.mem_of_getElem? (i := 183) rfl) rfl⟩
set_option maxRecDepth 20000 in
theorem lf_9_128 : zLkFact 9 128 (2, 183, 0) := ⟨mi_M_passesAll, rfl, zg5 (List.mem_of_getElem? (i := 209) rfl) rfl⟩
set_option maxRecDepth 20000 in
theorem lf_9_132 : zLkFact 9 132 (2, 179, 0) := ⟨mi_M_comes, rfl, zg5 (List.mem_of_getElem? (i := 221) rfl) rfl⟩
set_option maxRecDepth 20000 in
theorem lf_9_135 : zLkFact 9 135 (0, 9, 19) := ⟨RX9, TX9, 27, rfl, by decide, zg5 (List.mem_of_getElem? (i := 105) rfl) rfl, rfl, fun _ => ⟨by first | rfl | (exfalso; revert ‹zfr _ _ _ = none›; decide), by first | decide +kernel | (exfalso; revert ‹zfr _ _ _ = none›; decide)⟩⟩
set_option maxRecDepth 20000 in
theorem lf_9_139 : zLkFact 9 139 (0, 9, 20) := ⟨RX9, TX9, 27, rfl, by decide, zg5 (List.mem_of_getElem? (i := 106) rfl) rfl, rfl, fun _ => ⟨by first | rfl | (exfalso; revert ‹zfr _ _ _ = none›; decide), by first | decide +kernel | (exfalso; revert ‹zfr _ _ _ = none›; decide)⟩⟩
set_option maxRecDepth 20000 in
theorem lf_9_142 : zLkFact 9 142 (2, 181, 0) := ⟨mi_M_passes, rfl, zg5 (List.mem_of_getElem? (i := 213) rfl) rfl⟩
set_option maxRecDepth 20000 in
theorem lf_9_146 : zLkFact 9 146 (2, 182, 0) := ⟨mi_M_passOne, rfl, zg5 (List.mem_of_getElem? (i := 217) rfl) rfl⟩
set_option maxRecDepth 20000 in
theorem lf_9_149 : zLkFact 9 149 (0, 9, 8) := ⟨RX9, TX9, 27, rfl, by decide, zg5 (List.mem_of_getElem? (i := 94) rfl) rfl, rfl, fun _ => ⟨by first | rfl | (exfalso; revert ‹zfr _ _ _ = none›; decide), by first | decide +kernel | (exfalso; revert ‹zfr _ _ _ = none›; decide)⟩⟩
set_option maxRecDepth 20000 in
theorem lf_9_152 : zLkFact 9 152 (0, 9, 18) := ⟨RX9, TX9, 27, rfl, by decide, zg5 (List.mem_of_getElem? (i := 104) rfl) rfl, rfl, fun _ => ⟨by first | rfl | (exfalso; revert ‹zfr _ _ _ = none›; decide), by first | decide +kernel | (exfalso; revert ‹zfr _ _ _ = none›; decide)⟩⟩
set_option maxRecDepth 20000 in
theorem lf_9_155 : zLkFact 9 155 (2, 191, 0) := ⟨mi_M_leansOf, rfl, zg6 (List.mem_of_getElem? (i := 41) rfl) rfl⟩
set_option maxRecDepth 20000 in
theorem lf_9_158 : zLkFact 9 158 (2, 190, 0) := ⟨mi_M_holdsOf, rfl, zg6 (List.mem_of_getElem? (i := 37) rfl) rfl⟩
set_option maxRecDepth 20000 in
theorem lf_9_161 : zLkFact 9 161 (2, 193, 0) := ⟨mi_M_jointHolds, rfl, zg6 (List.mem_of_getElem? (i := 53) rfl) rfl⟩
set_option maxRecDepth 20000 in
theorem lf_9_164 : zLkFact 9 164 (2, 194, 0) := ⟨mi_M_loadOf, rfl, zg6 (List.mem_of_getElem? (i := 57) rfl) rfl⟩
set_option maxRecDepth 20000 in
theorem lf_9_167 : zLkFact 9 167 (2, 195, 0) := ⟨mi_M_beyond, rfl, zg6 (List.mem_of_getElem? (i := 109) rfl) rfl⟩
set_option maxRecDepth 20000 in
theorem lf_9_170 : zLkFact 9 170 (2, 166, 0) := ⟨mi_M_size, rfl, zg6 (List.mem_of_getElem? (i := 117) rfl) rfl⟩
set_option maxRecDepth 20000 in
theorem lf_9_173 : zLkFact 9 173 (2, 196, 0) := ⟨mi_M_breaksAt, rfl, zg6 (List.mem_of_getElem? (i := 105) rfl) rfl⟩
set_option maxRecDepth 20000 in
theorem lf_9_176 : zLkFact 9 176 (2, 197, 0) := ⟨mi_M_leansAt, rfl, zg6 (List.mem_of_getElem? (i := 113) rfl) rfl⟩
set_option maxRecDepth 20000 in
theorem lf_9_179 : zLkFact 9 179 (2, 199, 0) := ⟨mi_M_weakest, rfl, zg6 (List.mem_of_getElem? (i := 128) rfl) rfl⟩
set_option maxRecDepth 20000 in
theorem lf_9_182 : zLkFact 9 182 (2, 201, 0) := ⟨mi_M_goesMason, rfl, zg6 (List.mem_of_getElem? (i := 16) rfl) rfl⟩
set_option maxRecDepth 20000 in
theorem lf_9_185 : zLkFact 9 185 (2, 202, 0) := ⟨mi_M_goesDay, rfl, zg6 (List.mem_of_getElem? (i := 12) rfl) rfl⟩
set_option maxRecDepth 20000 in
theorem lf_9_189 : zLkFact 9 189 (2, 161, 0) := ⟨mi_M_lower, rfl, zg6 (List.mem_of_getElem? (i := 32) rfl) rfl⟩
set_option maxRecDepth 20000 in
theorem lf_9_192 : zLkFact 9 192 (2, 192, 0) := ⟨mi_M_leanAt, rfl, zg6 (List.mem_of_getElem? (i := 45) rfl) rfl⟩
set_option maxRecDepth 20000 in
theorem lf_9_195 : zLkFact 9 195 (2, 204, 0) := ⟨mi_M_laidBy, rfl, zg6 (List.mem_of_getElem? (i := 65) rfl) rfl⟩
set_option maxRecDepth 20000 in
theorem lf_9_198 : zLkFact 9 198 (2, 198, 0) := ⟨mi_M_isUpright, rfl, zg6 (List.mem_of_getElem? (i := 101) rfl) rfl⟩
set_option maxRecDepth 20000 in
theorem lf_9_201 : zLkFact 9 201 (2, 200, 0) := ⟨mi_M_spareNow, rfl, zg6 (List.mem_of_getElem? (i := 124) rfl) rfl⟩
set_option maxRecDepth 20000 in
theorem lf_9_204 : zLkFact 9 204 (2, 184, 0) := ⟨mi_M_thinks, rfl, zg6 (List.mem_of_getElem? (i := 140) rfl) rfl⟩
set_option maxRecDepth 20000 in
theorem lf_9_207 : zLkFact 9 207 (2, 185, 0) := ⟨mi_M_forgets, rfl, zg6 (List.mem_of_getElem? (i := 144) rfl) rfl⟩
set_option maxRecDepth 20000 in
theorem lf_9_210 : zLkFact 9 210 (2, 221, 0) := ⟨mi_M_isMendedBy, rfl, zg6 (List.mem_of_getElem? (i := 160) rfl) rfl⟩
set_option maxRecDepth 20000 in
theorem lf_9_213 : zLkFact 9 213 (2, 165, 0) := ⟨mi_M_has, rfl, zg6 (List.mem_of_getElem? (i := 175) rfl) rfl⟩
set_option maxRecDepth 20000 in
theorem lf_9_216 : zLkFact 9 216 (2, 167, 0) := ⟨mi_M_bits, rfl, zg6 (List.mem_of_getElem? (i := 168) rfl) rfl⟩
set_option maxRecDepth 20000 in
theorem lf_9_219 : zLkFact 9 219 (2, 223, 0) := ⟨mi_M_isUprightBy, rfl, zg6 (List.mem_of_getElem? (i := 171) rfl) rfl⟩
set_option maxRecDepth 20000 in
theorem lf_9_222 : zLkFact 9 222 (2, 227, 0) := ⟨mi_M_longestRun, rfl, zg6 (List.mem_of_getElem? (i := 190) rfl) rfl⟩
set_option maxRecDepth 20000 in
theorem lf_9_225 : zLkFact 9 225 (2, 232, 0) := ⟨mi_M_quarrelsIn, rfl, zg6 (List.mem_of_getElem? (i := 210) rfl) rfl⟩
set_option maxRecDepth 20000 in
theorem lf_9_228 : zLkFact 9 228 (2, 233, 0) := ⟨mi_M_quarrelsWithout, rfl, zg6 (List.mem_of_getElem? (i := 214) rfl) rfl⟩
set_option maxRecDepth 20000 in
theorem lf_9_232 : zLkFact 9 232 (0, 9, 21) := ⟨RX9, TX9, 27, rfl, by decide, zg5 (List.mem_of_getElem? (i := 107) rfl) rfl, rfl, fun _ => ⟨by first | rfl | (exfalso; revert ‹zfr _ _ _ = none›; decide), by first | decide +kernel | (exfalso; revert ‹zfr _ _ _ = none›; decide)⟩⟩
set_option maxRecDepth 20000 in
theorem lf_9_235 : zLkFact 9 235 (0, 9, 22) := ⟨RX9, TX9, 27, rfl, by decide, zg5 (List.mem_of_getElem? (i := 108) rfl) rfl, rfl, fun _ => ⟨by first | rfl | (exfalso; revert ‹zfr _ _ _ = none›; decide), by first | decide +kernel | (exfalso; revert ‹zfr _ _ _ = none›; decide)⟩⟩
set_option maxRecDepth 20000 in
theorem lf_9_238 : zLkFact 9 238 (2, 235, 0) := ⟨mi_M_findStyle, rfl, zg6 (List.mem_of_getElem? (i := 222) rfl) rfl⟩
set_option maxRecDepth 20000 in
theorem lf_9_242 : zLkFact 9 242 (2, 238, 0) := ⟨mi_M_stonesIn, rfl, zg6 (List.mem_of_getElem? (i := 234) rfl) rfl⟩
set_option maxRecDepth 20000 in
theorem lf_9_245 : zLkFact 9 245 (2, 239, 0) := ⟨mi_M_swapsStyles, rfl, zg6 (List.mem_of_getElem? (i := 238) rfl) rfl⟩
set_option maxRecDepth 20000 in
theorem lf_9_248 : zLkFact 9 248 (2, 241, 0) := ⟨mi_M_findGets, rfl, zg7 (List.mem_of_getElem? (i := 6) rfl) rfl⟩
set_option maxRecDepth 20000 in
theorem lf_9_251 : zLkFact 9 251 (2, 243, 0) := ⟨mi_M_divisor, rfl, zg7 (List.mem_of_getElem? (i := 22) rfl) rfl⟩
set_option maxRecDepth 20000 in
theorem lf_9_255 : zLkFact 9 255 (2, 162, 0) := ⟨mi_M_lowestOf, rfl, zg7 (List.mem_of_getElem? (i := 14) rfl) rfl⟩
set_option maxRecDepth 20000 in
theorem lf_9_259 : zLkFact 9 259 (2, 244, 0) := ⟨mi_M_partOf, rfl, zg7 (List.mem_of_getElem? (i := 19) rfl) rfl⟩
set_option maxRecDepth 20000 in
theorem lf_9_263 : zLkFact 9 263 (2, 246, 0) := ⟨mi_M_allFigures, rfl, zg7 (List.mem_of_getElem? (i := 29) rfl) rfl⟩
set_option maxRecDepth 20000 in
theorem lf_9_266 : zLkFact 9 266 (0, 9, 25) := ⟨RX9, TX9, 27, rfl, by decide, zg5 (List.mem_of_getElem? (i := 111) rfl) rfl, rfl, fun _ => ⟨by first | rfl | (exfalso; revert ‹zfr _ _ _ = none›; decide), by first | decide +kernel | (exfalso; revert ‹zfr _ _ _ = none›; decide)⟩⟩
set_option maxRecDepth 20000 in
theorem lf_9_269 : zLkFact 9 269 (2, 248, 0) := ⟨mi_M_isSo, rfl, zg7 (List.mem_of_getElem? (i := 41) rfl) rfl⟩
set_option maxRecDepth 20000 in
theorem lf_9_272 : zLkFact 9 272 (2, 249, 0) := ⟨mi_M_bitsFor, rfl, zg7 (List.mem_of_getElem? (i := 37) rfl) rfl⟩
set_option maxRecDepth 20000 in
theorem lf_9_276 : zLkFact 9 276 (0, 9, 26) := ⟨RX9, TX9, 27, rfl, by decide, zg5 (List.mem_of_getElem? (i := 112) rfl) rfl, rfl, fun _ => ⟨by first | rfl | (exfalso; revert ‹zfr _ _ _ = none›; decide), by first | decide +kernel | (exfalso; revert ‹zfr _ _ _ = none›; decide)⟩⟩
set_option maxRecDepth 20000 in
theorem lf_9_282 : zLkFact 9 282 (2, 255, 0) := ⟨mi_M_draw, rfl, zg7 (List.mem_of_getElem? (i := 65) rfl) rfl⟩
set_option maxRecDepth 20000 in
theorem lf_9_285 : zLkFact 9 285 (2, 257, 0) := ⟨mi_M_laidByNight, rfl, zg7 (List.mem_of_getElem? (i := 76) rfl) rfl⟩
set_option maxRecDepth 20000 in
theorem lf_9_288 : zLkFact 9 288 (2, 258, 0) := ⟨mi_M_lacking, rfl, zg7 (List.mem_of_getElem? (i := 80) rfl) rfl⟩
set_option maxRecDepth 20000 in
theorem zlk_9_ok : ∀ e ∈ zlk_9, zLkFact 9 e.1 e.2 := List.forall_mem_cons.mpr ⟨lf_9_7, List.forall_mem_cons.mpr ⟨lf_9_13, List.forall_mem_cons.mpr ⟨lf_9_16, List.forall_mem_cons.mpr ⟨lf_9_19, List.forall_mem_cons.mpr ⟨lf_9_22, List.forall_mem_cons.mpr ⟨lf_9_25, List.forall_mem_cons.mpr ⟨lf_9_28, List.forall_mem_cons.mpr ⟨lf_9_31, List.forall_mem_cons.mpr ⟨lf_9_34, List.forall_mem_cons.mpr ⟨lf_9_37, List.forall_mem_cons.mpr ⟨lf_9_40, List.forall_mem_cons.mpr ⟨lf_9_43, List.forall_mem_cons.mpr ⟨lf_9_46, List.forall_mem_cons.mpr ⟨lf_9_49, List.forall_mem_cons.mpr ⟨lf_9_55, List.forall_mem_cons.mpr ⟨lf_9_59, List.forall_mem_cons.mpr ⟨lf_9_63, List.forall_mem_cons.mpr ⟨lf_9_66, List.forall_mem_cons.mpr ⟨lf_9_70, List.forall_mem_cons.mpr ⟨lf_9_73, List.forall_mem_cons.mpr ⟨lf_9_77, List.forall_mem_cons.mpr ⟨lf_9_81, List.forall_mem_cons.mpr ⟨lf_9_84, List.forall_mem_cons.mpr ⟨lf_9_88, List.forall_mem_cons.mpr ⟨lf_9_92, List.forall_mem_cons.mpr ⟨lf_9_95, List.forall_mem_cons.mpr ⟨lf_9_98, List.forall_mem_cons.mpr ⟨lf_9_101, List.forall_mem_cons.mpr ⟨lf_9_104, List.forall_mem_cons.mpr ⟨lf_9_108, List.forall_mem_cons.mpr ⟨lf_9_112, List.forall_mem_cons.mpr ⟨lf_9_115, List.forall_mem_cons.mpr ⟨lf_9_118, List.forall_mem_cons.mpr ⟨lf_9_121, List.forall_mem_cons.mpr ⟨lf_9_124, List.forall_mem_cons.mpr ⟨lf_9_128, List.forall_mem_cons.mpr ⟨lf_9_132, List.forall_mem_cons.mpr ⟨lf_9_135, List.forall_mem_cons.mpr ⟨lf_9_139, List.forall_mem_cons.mpr ⟨lf_9_142, List.forall_mem_cons.mpr ⟨lf_9_146, List.forall_mem_cons.mpr ⟨lf_9_149, List.forall_mem_cons.mpr ⟨lf_9_152, List.forall_mem_cons.mpr ⟨lf_9_155, List.forall_mem_cons.mpr ⟨lf_9_158, List.forall_mem_cons.mpr ⟨lf_9_161, List.forall_mem_cons.mpr ⟨lf_9_164, List.forall_mem_cons.mpr ⟨lf_9_167, List.forall_mem_cons.mpr ⟨lf_9_170, List.forall_mem_cons.mpr ⟨lf_9_173, List.forall_mem_cons.mpr ⟨lf_9_176, List.forall_mem_cons.mpr ⟨lf_9_179, List.forall_mem_cons.mpr ⟨lf_9_182, List.forall_mem_cons.mpr ⟨lf_9_185, List.forall_mem_cons.mpr ⟨lf_9_189, List.forall_mem_cons.mpr ⟨lf_9_192, List.forall_mem_cons.mpr ⟨lf_9_195, List.forall_mem_cons.mpr ⟨lf_9_198, List.forall_mem_cons.mpr ⟨lf_9_201, List.forall_mem_cons.mpr ⟨lf_9_204, List.forall_mem_cons.mpr ⟨lf_9_207, List.forall_mem_cons.mpr ⟨lf_9_210, List.forall_mem_cons.mpr ⟨lf_9_213, List.forall_mem_cons.mpr ⟨lf_9_216, List.forall_mem_cons.mpr ⟨lf_9_219, List.forall_mem_cons.mpr ⟨lf_9_222, List.forall_mem_cons.mpr ⟨lf_9_225, List.forall_mem_cons.mpr ⟨lf_9_228, List.forall_mem_cons.mpr ⟨lf_9_232, List.forall_mem_cons.mpr ⟨lf_9_235, List.forall_mem_cons.mpr ⟨lf_9_238, List.forall_mem_cons.mpr ⟨lf_9_242, List.forall_mem_cons.mpr ⟨lf_9_245, List.forall_mem_cons.mpr ⟨lf_9_248, List.forall_mem_cons.mpr ⟨lf_9_251, List.forall_mem_cons.mpr ⟨lf_9_255, List.forall_mem_cons.mpr ⟨lf_9_259, List.forall_mem_cons.mpr ⟨lf_9_263, List.forall_mem_cons.mpr ⟨lf_9_266, List.forall_mem_cons.mpr ⟨lf_9_269, List.forall_mem_cons.mpr ⟨lf_9_272, List.forall_mem_cons.mpr ⟨lf_9_276, List.forall_mem_cons.mpr ⟨lf_9_282, List.forall_mem_cons.mpr ⟨lf_9_285, List.forall_mem_cons.mpr ⟨lf_9_288, fun _ h => absurd h List.not_mem_nil⟩⟩⟩⟩⟩⟩⟩⟩⟩⟩⟩⟩⟩⟩⟩⟩⟩⟩⟩⟩⟩⟩⟩⟩⟩⟩⟩⟩⟩⟩⟩⟩⟩⟩⟩⟩⟩⟩⟩⟩⟩⟩⟩⟩⟩⟩⟩⟩⟩⟩⟩⟩⟩⟩⟩⟩⟩⟩⟩⟩⟩⟩⟩⟩⟩⟩⟩⟩⟩⟩⟩⟩⟩⟩⟩⟩⟩⟩⟩⟩⟩⟩⟩⟩⟩
set_option maxRecDepth 20000 in
theorem zlk_10_ok : ∀ e ∈ zlk_10, zLkFact 10 e.1 e.2 := fun _ h => absurd h List.not_mem_nil
set_option maxRecDepth 20000 in
theorem zlk_11_ok : ∀ e ∈ zlk_11, zLkFact 11 e.1 e.2 := fun _ h => absurd h List.not_mem_nil
set_option maxRecDepth 20000 in
theorem lf_12_9 : zLkFact 12 9 (4, 0, 0) := zg7 (List.mem_of_getElem? (i := 84) rfl) rfl
set_option maxRecDepth 20000 in
theorem lf_12_15 : zLkFact 12 15 (5, 0, 0) := zg7 (List.mem_of_getElem? (i := 85) rfl) rfl
set_option maxRecDepth 20000 in
theorem lf_12_38 : zLkFact 12 38 (6, 0, 0) := zg2 (List.mem_of_getElem? (i := 33) rfl) rfl
set_option maxRecDepth 20000 in
theorem lf_12_335 : zLkFact 12 335 (2, 266, 0) := ⟨mi_String_coder, rfl, zg2 (List.mem_of_getElem? (i := 29) rfl) rfl⟩
set_option maxRecDepth 20000 in
theorem lf_12_492 : zLkFact 12 492 (2, 267, 0) := ⟨mi_String_isLatin1, rfl, zg2 (List.mem_of_getElem? (i := 39) rfl) rfl⟩
set_option maxRecDepth 20000 in
theorem lf_12_495 : zLkFact 12 495 (2, 269, 0) := ⟨mi_Latin1_charAt, rfl, zg2 (List.mem_of_getElem? (i := 43) rfl) rfl⟩
set_option maxRecDepth 20000 in
theorem lf_12_505 : zLkFact 12 505 (2, 261, 0) := ⟨mi_String_length, rfl, zg2 (List.mem_of_getElem? (i := 90) rfl) rfl⟩
set_option maxRecDepth 20000 in
theorem lf_12_633 : zLkFact 12 633 (2, 265, 0) := ⟨mi_String_indexOf_2II, rfl, zg2 (List.mem_of_getElem? (i := 86) rfl) rfl⟩
set_option maxRecDepth 20000 in
theorem lf_12_637 : zLkFact 12 637 (2, 271, 0) := ⟨mi_Latin1_indexOf, rfl, zg2 (List.mem_of_getElem? (i := 91) rfl) rfl⟩
set_option maxRecDepth 20000 in
theorem lf_12_1053 : zLkFact 12 1053 (6, 1, 0) := zg2 (List.mem_of_getElem? (i := 49) rfl) rfl
set_option maxRecDepth 20000 in
theorem lf_12_1059 : zLkFact 12 1059 (2, 273, 0) := ⟨mi_Pre_checkIndex, rfl, zg2 (List.mem_of_getElem? (i := 51) rfl) rfl⟩
set_option maxRecDepth 20000 in
theorem zlk_12_ok : ∀ e ∈ zlk_12, zLkFact 12 e.1 e.2 := List.forall_mem_cons.mpr ⟨lf_12_9, List.forall_mem_cons.mpr ⟨lf_12_15, List.forall_mem_cons.mpr ⟨lf_12_38, List.forall_mem_cons.mpr ⟨lf_12_335, List.forall_mem_cons.mpr ⟨lf_12_492, List.forall_mem_cons.mpr ⟨lf_12_495, List.forall_mem_cons.mpr ⟨lf_12_505, List.forall_mem_cons.mpr ⟨lf_12_633, List.forall_mem_cons.mpr ⟨lf_12_637, List.forall_mem_cons.mpr ⟨lf_12_1053, List.forall_mem_cons.mpr ⟨lf_12_1059, fun _ h => absurd h List.not_mem_nil⟩⟩⟩⟩⟩⟩⟩⟩⟩⟩⟩
set_option maxRecDepth 20000 in
theorem lf_13_9 : zLkFact 13 9 (2, 268, 0) := ⟨mi_String_checkIndex, rfl, zg2 (List.mem_of_getElem? (i := 46) rfl) rfl⟩
set_option maxRecDepth 20000 in
theorem lf_13_38 : zLkFact 13 38 (8, 0, 0) := zg2 (List.mem_of_getElem? (i := 100) rfl) rfl
set_option maxRecDepth 20000 in
theorem lf_13_88 : zLkFact 13 88 (2, 270, 0) := ⟨mi_Latin1_canEncode, rfl, zg2 (List.mem_of_getElem? (i := 94) rfl) rfl⟩
set_option maxRecDepth 20000 in
theorem lf_13_92 : zLkFact 13 92 (8, 1, 0) := zg2 (List.mem_of_getElem? (i := 97) rfl) rfl
set_option maxRecDepth 20000 in
theorem lf_13_95 : zLkFact 13 95 (2, 272, 0) := ⟨mi_Latin1_indexOfChar, rfl, zg2 (List.mem_of_getElem? (i := 103) rfl) rfl⟩
set_option maxRecDepth 20000 in
theorem zlk_13_ok : ∀ e ∈ zlk_13, zLkFact 13 e.1 e.2 := List.forall_mem_cons.mpr ⟨lf_13_9, List.forall_mem_cons.mpr ⟨lf_13_38, List.forall_mem_cons.mpr ⟨lf_13_88, List.forall_mem_cons.mpr ⟨lf_13_92, List.forall_mem_cons.mpr ⟨lf_13_95, fun _ h => absurd h List.not_mem_nil⟩⟩⟩⟩⟩
set_option maxRecDepth 20000 in
theorem zlk_14_ok : ∀ e ∈ zlk_14, zLkFact 14 e.1 e.2 := fun _ h => absurd h List.not_mem_nil
theorem zlk_ok {own idx : Nat} {k : Nat × Nat × Nat} (h : zlk own idx = some k) : zLkFact own idx k := by
  have hm := zlook _ _ _ h
  match own, hm with
  | 0, hm => exact zlk_0_ok _ hm
  | 1, hm => exact zlk_1_ok _ hm
  | 2, hm => exact zlk_2_ok _ hm
  | 3, hm => exact zlk_3_ok _ hm
  | 4, hm => exact zlk_4_ok _ hm
  | 5, hm => exact zlk_5_ok _ hm
  | 6, hm => exact zlk_6_ok _ hm
  | 7, hm => exact zlk_7_ok _ hm
  | 8, hm => exact zlk_8_ok _ hm
  | 9, hm => exact zlk_9_ok _ hm
  | 10, hm => exact zlk_10_ok _ hm
  | 11, hm => exact zlk_11_ok _ hm
  | 12, hm => exact zlk_12_ok _ hm
  | 13, hm => exact zlk_13_ok _ hm
  | 14, hm => exact zlk_14_ok _ hm
  | _ + 15, hm => exact absurd hm (by simp [zLkT])
theorem zci_ok {own idx : Nat} {v : Int32} (h : zci own idx = some v) : Jvm.Cond.constant (zOwn own) idx v ∈ zWL := by
  have hm := zlook _ _ _ h
  match own, hm with
  | 0, hm => exact absurd hm (by simp [zCiT])
  | 1, hm =>
    have hk : ∀ e ∈ (zCiT.getD 1 []), Jvm.Cond.constant (zOwn 1) e.1 e.2 ∈ zWL := List.forall_mem_cons.mpr ⟨zg5 (List.mem_of_getElem? (i := 55) rfl) rfl, List.forall_mem_cons.mpr ⟨zg5 (List.mem_of_getElem? (i := 56) rfl) rfl, List.forall_mem_cons.mpr ⟨zg5 (List.mem_of_getElem? (i := 57) rfl) rfl, fun _ h => absurd h List.not_mem_nil⟩⟩⟩
    exact hk _ hm
  | 2, hm => exact absurd hm (by simp [zCiT])
  | 3, hm => exact absurd hm (by simp [zCiT])
  | 4, hm => exact absurd hm (by simp [zCiT])
  | 5, hm =>
    have hk : ∀ e ∈ (zCiT.getD 5 []), Jvm.Cond.constant (zOwn 5) e.1 e.2 ∈ zWL := List.forall_mem_cons.mpr ⟨zg4 (List.mem_of_getElem? (i := 20) rfl) rfl, fun _ h => absurd h List.not_mem_nil⟩
    exact hk _ hm
  | 6, hm => exact absurd hm (by simp [zCiT])
  | 7, hm => exact absurd hm (by simp [zCiT])
  | 8, hm =>
    have hk : ∀ e ∈ (zCiT.getD 8 []), Jvm.Cond.constant (zOwn 8) e.1 e.2 ∈ zWL := List.forall_mem_cons.mpr ⟨zg3 (List.mem_of_getElem? (i := 32) rfl) rfl, fun _ h => absurd h List.not_mem_nil⟩
    exact hk _ hm
  | 9, hm =>
    have hk : ∀ e ∈ (zCiT.getD 9 []), Jvm.Cond.constant (zOwn 9) e.1 e.2 ∈ zWL := List.forall_mem_cons.mpr ⟨zg6 (List.mem_of_getElem? (i := 36) rfl) rfl, List.forall_mem_cons.mpr ⟨zg7 (List.mem_of_getElem? (i := 69) rfl) rfl, List.forall_mem_cons.mpr ⟨zg7 (List.mem_of_getElem? (i := 70) rfl) rfl, List.forall_mem_cons.mpr ⟨zg7 (List.mem_of_getElem? (i := 71) rfl) rfl, fun _ h => absurd h List.not_mem_nil⟩⟩⟩⟩
    exact hk _ hm
  | 10, hm =>
    have hk : ∀ e ∈ (zCiT.getD 10 []), Jvm.Cond.constant (zOwn 10) e.1 e.2 ∈ zWL := List.forall_mem_cons.mpr ⟨zg3 (List.mem_of_getElem? (i := 98) rfl) rfl, List.forall_mem_cons.mpr ⟨zg3 (List.mem_of_getElem? (i := 99) rfl) rfl, List.forall_mem_cons.mpr ⟨zg3 (List.mem_of_getElem? (i := 100) rfl) rfl, fun _ h => absurd h List.not_mem_nil⟩⟩⟩
    exact hk _ hm
  | 11, hm => exact absurd hm (by simp [zCiT])
  | 12, hm => exact absurd hm (by simp [zCiT])
  | 13, hm => exact absurd hm (by simp [zCiT])
  | 14, hm => exact absurd hm (by simp [zCiT])
  | _ + 15, hm => exact absurd hm (by simp [zCiT])
theorem zcl_ok {own idx : Nat} {v : Int64} (h : zcl own idx = some v) : Jvm.Cond.constantLong (zOwn own) idx v ∈ zWL := by
  have hm := zlook _ _ _ h
  match own, hm with
  | 0, hm => exact absurd hm (by simp [zClT])
  | 1, hm => exact absurd hm (by simp [zClT])
  | 2, hm => exact absurd hm (by simp [zClT])
  | 3, hm => exact absurd hm (by simp [zClT])
  | 4, hm => exact absurd hm (by simp [zClT])
  | 5, hm => exact absurd hm (by simp [zClT])
  | 6, hm => exact absurd hm (by simp [zClT])
  | 7, hm => exact absurd hm (by simp [zClT])
  | 8, hm =>
    have hk : ∀ e ∈ (zClT.getD 8 []), Jvm.Cond.constantLong (zOwn 8) e.1 e.2 ∈ zWL := List.forall_mem_cons.mpr ⟨zg4 (List.mem_of_getElem? (i := 177) rfl) rfl, List.forall_mem_cons.mpr ⟨zg4 (List.mem_of_getElem? (i := 199) rfl) rfl, fun _ h => absurd h List.not_mem_nil⟩⟩
    exact hk _ hm
  | 9, hm =>
    have hk : ∀ e ∈ (zClT.getD 9 []), Jvm.Cond.constantLong (zOwn 9) e.1 e.2 ∈ zWL := List.forall_mem_cons.mpr ⟨zg7 (List.mem_of_getElem? (i := 18) rfl) rfl, fun _ h => absurd h List.not_mem_nil⟩
    exact hk _ hm
  | 10, hm => exact absurd hm (by simp [zClT])
  | 11, hm => exact absurd hm (by simp [zClT])
  | 12, hm => exact absurd hm (by simp [zClT])
  | 13, hm => exact absurd hm (by simp [zClT])
  | 14, hm => exact absurd hm (by simp [zClT])
  | _ + 15, hm => exact absurd hm (by simp [zClT])
theorem zws0 : ∀ w ∈ wsX00, w ∈ zWL := by decide +kernel
theorem zws1 : ∀ w ∈ wsX10, w ∈ zWL := by decide +kernel
theorem zws2 : ∀ w ∈ wsX20, w ∈ zWL := by decide +kernel
theorem zws3 : ∀ w ∈ wsX30, w ∈ zWL := by decide +kernel
theorem zws4 : ∀ w ∈ wsX40, w ∈ zWL := by decide +kernel
theorem zws5 : ∀ w ∈ wsX50, w ∈ zWL := by decide +kernel
theorem zws6 : ∀ w ∈ wsX60, w ∈ zWL := by decide +kernel
theorem zws7 : ∀ w ∈ wsX70, w ∈ zWL := by decide +kernel
theorem zws8 : ∀ w ∈ wsX80, w ∈ zWL := by decide +kernel
theorem zws9 : ∀ w ∈ wsX90, w ∈ zWL := by decide +kernel
theorem zma_min : Jvm.Cond.static Lib.Math.min.name ∈ zWL ∧ Jvm.Cond.code Lib.Math.min.name Lib.Math.min.code 2 (some .int) ∈ zWL := ⟨zg2 (List.mem_of_getElem? (i := 101) rfl) rfl, zg2 (List.mem_of_getElem? (i := 102) rfl) rfl⟩
theorem zma_max : Jvm.Cond.static Lib.Math.max.name ∈ zWL ∧ Jvm.Cond.code Lib.Math.max.name Lib.Math.max.code 2 (some .int) ∈ zWL := ⟨zg2 (List.mem_of_getElem? (i := 98) rfl) rfl, zg2 (List.mem_of_getElem? (i := 99) rfl) rfl⟩
theorem zma_abs : Jvm.Cond.static Lib.Math.abs.name ∈ zWL ∧ Jvm.Cond.code Lib.Math.abs.name Lib.Math.abs.code 1 (some .int) ∈ zWL := ⟨zg3 (List.mem_of_getElem? (i := 167) rfl) rfl, zg3 (List.mem_of_getElem? (i := 168) rfl) rfl⟩
theorem zma_ini : Jvm.Cond.initialized "java/lang/Math" ∈ zWL := zg1 (List.mem_of_getElem? (i := 15) rfl) rfl
theorem zcls {ci : Nat} {C : String} {T : u_T} {N : Nat} (h : vwCl[ci]? = some (C, T, N)) : (∀ w ∈ u_ws C T N, w ∈ zWL) ∧ (∃ ty0 : Nat → FieldType, ∀ k, k < N → parseFieldDescriptor (T k).2.2.1 = some (ty0 k)) ∧ (∀ a, a < N → ∀ b, b < N → a ≠ b → (T a).2.1 ≠ (T b).2.1) := by
  match ci, h with
  | 0, h => cases h; exact ⟨zws0, ⟨tyX0, tyX0_ok⟩, nmX0⟩
  | 1, h => cases h; exact ⟨zws1, ⟨tyX1, tyX1_ok⟩, nmX1⟩
  | 2, h => cases h; exact ⟨zws2, ⟨tyX2, tyX2_ok⟩, nmX2⟩
  | 3, h => cases h; exact ⟨zws3, ⟨tyX3, tyX3_ok⟩, nmX3⟩
  | 4, h => cases h; exact ⟨zws4, ⟨tyX4, tyX4_ok⟩, nmX4⟩
  | 5, h => cases h; exact ⟨zws5, ⟨tyX5, tyX5_ok⟩, nmX5⟩
  | 6, h => cases h; exact ⟨zws6, ⟨tyX6, tyX6_ok⟩, nmX6⟩
  | 7, h => cases h; exact ⟨zws7, ⟨tyX7, tyX7_ok⟩, nmX7⟩
  | 8, h => cases h; exact ⟨zws8, ⟨tyX8, tyX8_ok⟩, nmX8⟩
  | 9, h => cases h; exact ⟨zws9, ⟨tyX9, tyX9_ok⟩, nmX9⟩
  | _ + 10, h => exact absurd h (by simp)
