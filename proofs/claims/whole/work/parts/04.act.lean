/-! THE SMALL MACHINE: the class's and the reference's methods over a heap of ints whose objects have fixed numbers. -/
abbrev zL : Type := List (Option Value)
abbrev zG : Type := Nat → Nat → Int32
abbrev zA : Type := (Nat × zL × List Value × zG) ⊕ ((Option Value × zG) ⊕ (Nat × zL × Nat × List Value))
/-- which object a field of an object holds, by the field's place; none: a number -/
def zfr (ci k i : Nat) : Option Nat := match ci, k with
  | 0, 0 => some (i + 1)
  | 0, 1 => some (i + 5)
  | 0, 2 => some (i + 6)
  | 2, 0 => some 1
  | 2, 1 => some 27
  | 2, 2 => some 34
  | 2, 3 => some 35
  | 3, 0 => some 23
  | 5, 0 => some 2
  | 5, 1 => some 37
  | 5, 2 => some 42
  | 5, 3 => some 43
  | 6, 0 => some 25
  | 7, 0 => some (i + 1)
  | 7, 1 => some (i + 2)
  | 7, 2 => some (i + 3)
  | 8, 0 => some 1
  | 8, 1 => some 8
  | 8, 3 => some 15
  | 8, 4 => some 22
  | 8, 5 => some 24
  | 8, 6 => some 26
  | 8, 7 => some 36
  | 8, 8 => some 41
  | 9, 0 => some 1
  | 9, 1 => some 2
  | 9, 2 => some 3
  | 9, 3 => some 4
  | 9, 4 => some 5
  | 9, 5 => some 6
  | 9, 6 => some 7
  | 9, 10 => some 8
  | 9, 11 => some 9
  | 9, 12 => some 10
  | 9, 13 => some 11
  | 9, 17 => some 12
  | 9, 23 => some 13
  | 9, 24 => some 14
  | _, _ => none
def zfty (ci k : Nat) : FieldType := match ci, k with
  | 8, 2 => .boolean
  | 9, 18 => .boolean
  | 9, 19 => .boolean
  | _, _ => .int
/-- what the objects are: below 50 a class's number, from 100 on an int array of so many -/
def zshX (i : Nat) : Nat := ([8, 0, 7, 113, 113, 113, 4, 4, 0, 7, 113, 113, 113, 4, 4, 0, 7, 113, 113, 113, 4, 4, 3, 196, 6, 116, 2, 0, 7, 113, 113, 113, 4, 4, 171, 1, 5, 7, 113, 113, 113, 107, 126, 126] : List Nat).getD i 99
def zshM (i : Nat) : Nat := ([9, 107, 113, 113, 113, 102, 102, 102, 196, 148, 148, 292, 244, 108, 116] : List Nat).getD i 99
/-- the texts' lengths and bytes -/
def zslen : List Nat := [4, 4, 5, 2, 3, 0, 6]
def zsbyt : List (List Int32) := [[107, 100, 100, 59], [100, 107, 100, 59], [100, 107, 100, 100, 59], [100, 59], [100, 100, 59], [], [112, 101, 119, 104, 107, 114]]
/-- an array's place -/
def zin (j : Int32) (s : Nat) : Bool := decide (100 ≤ s) && (decide (0 ≤ j.toInt) && decide (j.toInt < ((s - 100 : Nat) : Int)))
def zbin (j : Int32) (n : Nat) : Bool := decide (0 ≤ j.toInt) && decide (j.toInt < (n : Int))
def zup (σ : zG) (i k : Nat) (x : Int32) : zG := fun a => if a = i then upd (σ a) k x else σ a
def zdrop2 : Option Value → Option Value
  | some v => if v.category = 2 then none else some v
  | none => none
def zset1 : zL → Nat → Value → zL
  | [], _, _ => []
  | _ :: t, 0, v => some v :: t
  | o :: t, 1, v => zdrop2 o :: zset1 t 0 v
  | o :: t, i + 2, v => o :: zset1 t (i + 1) v
def zput2 : zL → Value → zL
  | _ :: _ :: t, v => some v :: none :: t
  | l, _ => l
def zset2 : zL → Nat → Value → zL
  | [], _, _ => []
  | l, 0, v => zput2 l v
  | o :: t, 1, v => zdrop2 o :: zput2 t v
  | o :: t, i + 2, v => o :: zset2 t (i + 1) v
def zbr (pc : Nat) (off : Int) : Option Nat := match (pc : Int) + off with
  | .ofNat t => some t
  | _ => none
def zif (pc : Nat) (off : Int) (c : Prop) [Decidable c] (ls : zL) (st : List Value) (σ : zG) : Option zA := match zbr pc off with
  | some t => some (.inl (if c then t else pc + 3, ls, st, σ))
  | none => none
/-- a switch's place -/
def zsw (x : Int32) (d : Nat) : List (Int × Nat) → Nat
  | [] => d
  | (k, t) :: r => if x = Int32.ofInt k then t else zsw x d r
def zswk (pc : Nat) : List (Int × Int) → Option (List (Int × Nat))
  | [] => some []
  | (k, off) :: r => match zbr pc off with
    | some t => if (Int32.ofInt k).toInt = k then (match zswk pc r with
      | some l => some ((k, t) :: l)
      | none => none) else none
    | none => none
def zkeys : Int → List Int → List (Int × Int)
  | _, [] => []
  | k, o :: r => (k, o) :: zkeys (k + 1) r
def zsplit : Nat → List Value → List Value → Option (List Value × List Value)
  | 0, acc, st => some (acc, st)
  | n + 1, acc, v :: st => zsplit n (v :: acc) st
  | _ + 1, _, [] => none
def zarg : List Value → zL
  | [] => []
  | v :: t => if v.category = 2 then some v :: none :: zarg t else some v :: zarg t
def zcat : List Value → Nat
  | [] => 0
  | v :: t => v.category + zcat t
def zpad (n : Nat) (l : zL) : zL := l ++ List.replicate (n - l.length) none
def zrecv (sh : Nat → Nat) (own b : Nat) : Bool := if own < 10 then sh b == own else decide (1000 ≤ b) && decide (b < 1007)
def zread (σ : zG) (ci k i : Nat) : Value := match zfr ci k i with
  | some j => .ref j
  | none => .int (σ i k)
def zlk (own idx : Nat) : Option (Nat × Nat × Nat) := (zLkT.getD own []).lookup idx
def zci (own idx : Nat) : Option Int32 := (zCiT.getD own []).lookup idx
def zcl (own idx : Nat) : Option Int64 := (zClT.getD own []).lookup idx
def zcall (sh : Nat → Nat) (fr lo : Nat) (c : Nat) (pc : Nat) (inst : Bool) (st : List Value) : Option zA := match zMs[c]? with
  | some (own, _, _, maxL, _, fr', lo', np, stat, _) =>
    if fr' + 1 ≤ fr ∧ 8 + (maxL + 11) + lo' ≤ lo ∧ stat = !inst then
      match zsplit np [] st with
      | some (as, rest) => match inst with
        | false => if zcat rest ≤ 8 ∧ (zarg as).length ≤ maxL then some (.inr (.inr (c, zpad maxL (zarg as), pc + 3, rest))) else none
        | true => match rest with
          | .ref b :: rest => if zcat rest ≤ 8 ∧ (zarg (.ref b :: as)).length ≤ maxL then (if zrecv sh own b = true then some (.inr (.inr (c, zpad maxL (zarg (.ref b :: as)), pc + 3, rest))) else none) else none
          | _ => none
      | none => none
    else none
  | none => none
def zret (ret : Option FieldType) (v : Int32) (σ : zG) : Option zA := match ret with
  | some .int => some (.inr (.inl (some (.int v), σ)))
  | some .boolean => if v = 0 ∨ v = 1 then some (.inr (.inl (some (.int v), σ))) else none
  | some .byte => if v.toInt8.toInt32 = v then some (.inr (.inl (some (.int v), σ))) else none
  | some .char => if v.toUInt32.toUInt16.toUInt32.toInt32 = v then some (.inr (.inl (some (.int v), σ))) else none
  | _ => none
/-- one instruction -/
def zact (sh : Nat → Nat) (m pc : Nat) (ls : zL) (st : List Value) (σ : zG) : Option zA := match zMs[m]? with
  | none => none
  | some (own, _, _, _, ret, fr, lo, _, _, tb) => match tb.lookup pc with
    | none => none
    | some (ins, len) =>
      let go := fun (ls : zL) (st : List Value) (σ : zG) => (some (.inl (pc + len, ls, st, σ)) : Option zA)
      match ins with
      | .iconst n => go ls (.int (Int32.ofInt n) :: st) σ
      | .bipush n => go ls (.int (Int8.ofInt n).toInt32 :: st) σ
      | .sipush n => go ls (.int (Int16.ofInt n).toInt32 :: st) σ
      | .lconst n => go ls (.long (Int64.ofNat (n : Nat)) :: st) σ
      | .iload_n k => match ls[(k : Nat)]? with
        | some (some (.int x)) => go ls (.int x :: st) σ
        | _ => none
      | .iload k => match ls[k]? with
        | some (some (.int x)) => go ls (.int x :: st) σ
        | _ => none
      | .lload_n k => match ls[(k : Nat)]? with
        | some (some (.long x)) => go ls (.long x :: st) σ
        | _ => none
      | .lload k => match ls[k]? with
        | some (some (.long x)) => go ls (.long x :: st) σ
        | _ => none
      | .aload_n k => match ls[(k : Nat)]? with
        | some (some (.ref x)) => go ls (.ref x :: st) σ
        | _ => none
      | .aload k => match ls[k]? with
        | some (some (.ref x)) => go ls (.ref x :: st) σ
        | _ => none
      | .istore_n k => match st with
        | .int x :: r => if (k : Nat) < ls.length then go (zset1 ls (k : Nat) (.int x)) r σ else none
        | _ => none
      | .istore k => match st with
        | .int x :: r => if k < ls.length then go (zset1 ls k (.int x)) r σ else none
        | _ => none
      | .astore_n k => match st with
        | .ref x :: r => if (k : Nat) < ls.length then go (zset1 ls (k : Nat) (.ref x)) r σ else none
        | _ => none
      | .astore k => match st with
        | .ref x :: r => if k < ls.length then go (zset1 ls k (.ref x)) r σ else none
        | _ => none
      | .lstore_n k => match st with
        | .long x :: r => if (k : Nat) + 1 < ls.length then go (zset2 ls (k : Nat) (.long x)) r σ else none
        | _ => none
      | .lstore k => match st with
        | .long x :: r => if k + 1 < ls.length then go (zset2 ls k (.long x)) r σ else none
        | _ => none
      | .iinc k n => match ls[k]? with
        | some (some (.int x)) => if len = 3 then go (ls.set k (some (.int (x + Int32.ofInt n)))) st σ else none
        | _ => none
      | .ldc k => match zci own k with
        | some v => go ls (.int v :: st) σ
        | none => match zlk own k with
          | some (7, i, _) => go ls (.ref (1000 + i) :: st) σ
          | _ => none
      | .ldc_w k => match zci own k with
        | some v => go ls (.int v :: st) σ
        | none => none
      | .ldc2_w k => match zcl own k with
        | some v => go ls (.long v :: st) σ
        | none => none
      | .iadd => match st with
        | .int y :: .int x :: r => go ls (.int (x + y) :: r) σ
        | _ => none
      | .isub => match st with
        | .int y :: .int x :: r => go ls (.int (x - y) :: r) σ
        | _ => none
      | .imul => match st with
        | .int y :: .int x :: r => go ls (.int (x * y) :: r) σ
        | _ => none
      | .idiv => match st with
        | .int y :: .int x :: r => if ¬ y = 0 then go ls (.int (x / y) :: r) σ else none
        | _ => none
      | .irem => match st with
        | .int y :: .int x :: r => if ¬ y = 0 then go ls (.int (x - x / y * y) :: r) σ else none
        | _ => none
      | .ineg => match st with
        | .int x :: r => go ls (.int (-x) :: r) σ
        | _ => none
      | .iand => match st with
        | .int y :: .int x :: r => go ls (.int (x &&& y) :: r) σ
        | _ => none
      | .ior => match st with
        | .int y :: .int x :: r => go ls (.int (x ||| y) :: r) σ
        | _ => none
      | .ixor => match st with
        | .int y :: .int x :: r => go ls (.int (x ^^^ y) :: r) σ
        | _ => none
      | .ishl => match st with
        | .int y :: .int x :: r => go ls (.int (x <<< (y &&& 31)) :: r) σ
        | _ => none
      | .ishr => match st with
        | .int y :: .int x :: r => go ls (.int (x >>> (y &&& 31)) :: r) σ
        | _ => none
      | .iushr => match st with
        | .int y :: .int x :: r => go ls (.int (x.toUInt32 >>> (y.toUInt32 &&& Int32.toUInt32 31)).toInt32 :: r) σ
        | _ => none
      | .ladd => match st with
        | .long y :: .long x :: r => go ls (.long (x + y) :: r) σ
        | _ => none
      | .lsub => match st with
        | .long y :: .long x :: r => go ls (.long (x - y) :: r) σ
        | _ => none
      | .lmul => match st with
        | .long y :: .long x :: r => go ls (.long (x * y) :: r) σ
        | _ => none
      | .ldiv => match st with
        | .long y :: .long x :: r => if ¬ y = 0 then go ls (.long (x / y) :: r) σ else none
        | _ => none
      | .lrem => match st with
        | .long y :: .long x :: r => if ¬ y = 0 then go ls (.long (x - x / y * y) :: r) σ else none
        | _ => none
      | .lcmp => match st with
        | .long y :: .long x :: r => go ls (.int (lg_cmp x y) :: r) σ
        | _ => none
      | .i2l => match st with
        | .int x :: r => go ls (.long x.toInt64 :: r) σ
        | _ => none
      | .i2b => match st with
        | .int x :: r => go ls (.int x.toInt8.toInt32 :: r) σ
        | _ => none
      | .i2c => match st with
        | .int x :: r => go ls (.int (x.toUInt32 % 65536).toInt32 :: r) σ
        | _ => none
      | .dup => match st with
        | .int x :: r => go ls (.int x :: .int x :: r) σ
        | .ref x :: r => go ls (.ref x :: .ref x :: r) σ
        | _ => none
      | .dup2 => match st with
        | .int x :: .ref y :: r => go ls (.int x :: .ref y :: .int x :: .ref y :: r) σ
        | _ => none
      | .pop => match st with
        | .int _ :: r => go ls r σ
        | _ => none
      | .ifCond .eq off => match st with
        | .int x :: r => zif pc off (x = 0) ls r σ
        | _ => none
      | .ifCond .ne off => match st with
        | .int x :: r => zif pc off (x ≠ 0) ls r σ
        | _ => none
      | .ifCond .lt off => match st with
        | .int x :: r => zif pc off (x < 0) ls r σ
        | _ => none
      | .ifCond .ge off => match st with
        | .int x :: r => zif pc off (0 ≤ x) ls r σ
        | _ => none
      | .ifCond .gt off => match st with
        | .int x :: r => zif pc off (0 < x) ls r σ
        | _ => none
      | .ifCond .le off => match st with
        | .int x :: r => zif pc off (x ≤ 0) ls r σ
        | _ => none
      | .if_icmp .eq off => match st with
        | .int y :: .int x :: r => zif pc off (x = y) ls r σ
        | _ => none
      | .if_icmp .ne off => match st with
        | .int y :: .int x :: r => zif pc off (x ≠ y) ls r σ
        | _ => none
      | .if_icmp .lt off => match st with
        | .int y :: .int x :: r => zif pc off (x < y) ls r σ
        | _ => none
      | .if_icmp .ge off => match st with
        | .int y :: .int x :: r => zif pc off (y ≤ x) ls r σ
        | _ => none
      | .if_icmp .gt off => match st with
        | .int y :: .int x :: r => zif pc off (y < x) ls r σ
        | _ => none
      | .if_icmp .le off => match st with
        | .int y :: .int x :: r => zif pc off (x ≤ y) ls r σ
        | _ => none
      | .goto off => match zbr pc off with
        | some t => some (.inl (t, ls, st, σ))
        | none => none
      | .tableswitch dflt lw hi offs => match st with
        | .int x :: r => match zbr pc dflt, zswk pc (zkeys lw offs.toList) with
          | some d, some ks => if lw + offs.toList.length = hi + 1 then some (.inl (zsw x d ks, ls, r, σ)) else none
          | _, _ => none
        | _ => none
      | .lookupswitch dflt ps => match st with
        | .int x :: r => match zbr pc dflt, zswk pc ps.toList with
          | some d, some ks => if (ps.toList.zip (ps.toList.drop 1)).all (fun (a, next) => a.1 < next.1) = true then some (.inl (zsw x d ks, ls, r, σ)) else none
          | _, _ => none
        | _ => none
      | .getfield k => match st with
        | .ref i :: r => match zlk own k with
          | some (0, ci, q) => if sh i = ci then go ls (zread σ ci q i :: r) σ else none
          | some (1, ci, q) => if sh i = ci then go ls (zread σ ci q i :: r) σ else none
          | some (4, _, _) => if 1000 ≤ i ∧ i < 1007 then go ls (.ref (i + 1000) :: r) σ else none
          | some (5, _, _) => if 1000 ≤ i ∧ i < 1007 then go ls (.int 0 :: r) σ else none
          | _ => none
        | _ => none
      | .putfield k => match st with
        | .int x :: .ref i :: r => match zlk own k with
          | some (0, ci, q) => match zfr ci q i, zfty ci q with
            | none, .int => if sh i = ci then go ls r (zup σ i q x) else none
            | none, .boolean => if sh i = ci ∧ (x = 0 ∨ x = 1) then go ls r (zup σ i q x) else none
            | _, _ => none
          | some (1, ci, q) => match zfr ci q i, zfty ci q with
            | none, .int => if sh i = ci then go ls r (zup σ i q x) else none
            | _, _ => none
          | _ => none
        | _ => none
      | .getstatic k => match zlk own k with
        | some (6, 0, _) => go ls (.int 1 :: st) σ
        | some (6, 1, _) => go ls (.float 0 :: st) σ
        | _ => none
      | .iaload => match st with
        | .int j :: .ref i :: r => if zin j (sh i) = true then go ls (.int (σ i j.toNatClampNeg) :: r) σ else none
        | _ => none
      | .iastore => match st with
        | .int x :: .int j :: .ref i :: r => if zin j (sh i) = true then go ls r (zup σ i j.toNatClampNeg x) else none
        | _ => none
      | .baload => match st with
        | .int j :: .ref i :: r => if 2000 ≤ i ∧ i < 2007 ∧ zbin j (zslen.getD (i - 2000) 0) = true then go ls (.int ((zsbyt.getD (i - 2000) []).getD j.toNatClampNeg 0) :: r) σ else none
        | _ => none
      | .arraylength => match st with
        | .ref i :: r => if i < 1000 then (if 100 ≤ sh i then go ls (.int (nI (sh i - 100)) :: r) σ else none) else if 2000 ≤ i ∧ i < 2007 then go ls (.int (nI (zslen.getD (i - 2000) 0)) :: r) σ else none
        | _ => none
      | .invokevirtual k => match zlk own k with
        | some (2, c, _) => zcall sh fr lo c pc true st
        | some (3, c, _) => zcall sh fr lo c pc true st
        | _ => none
      | .invokestatic k => match zlk own k with
        | some (2, c, _) => zcall sh fr lo c pc false st
        | some (3, c, _) => zcall sh fr lo c pc false st
        | some (8, 0, _) => match st with
          | .int y :: .int x :: r => if 1 ≤ fr ∧ zcat r + 13 ≤ lo then some (.inl (pc + 3, ls, .int (if y < x then y else x) :: r, σ)) else none
          | _ => none
        | some (8, 1, _) => match st with
          | .int y :: .int x :: r => if 1 ≤ fr ∧ zcat r + 13 ≤ lo then some (.inl (pc + 3, ls, .int (if x < y then y else x) :: r, σ)) else none
          | _ => none
        | some (8, 2, _) => match st with
          | .int x :: r => if 1 ≤ fr ∧ zcat r + 13 ≤ lo then some (.inl (pc + 3, ls, .int (if 0 ≤ x then x else 0 - x) :: r, σ)) else none
          | _ => none
        | _ => none
      | .ireturn => match st with
        | [.int v] => zret ret v σ
        | _ => none
      | .lreturn => match st with
        | [.long v] => match ret with
          | some .long => some (.inr (.inl (some (.long v), σ)))
          | _ => none
        | _ => none
      | .areturn => match st with
        | [.ref v] => match ret with
          | some (.object _) => some (.inr (.inl (some (.ref v), σ)))
          | _ => none
        | _ => none
      | .return_ => match st with
        | [] => match ret with
          | none => some (.inr (.inl (none, σ)))
          | _ => none
        | _ => none
      | _ => none
def zpush (r : Option Value) (st : List Value) : List Value := match r with
  | some v => v :: st
  | none => st
def zrun (sh : Nat → Nat) : Nat → Nat → Nat → zL → List Value → zG → Option (Option Value × zG)
  | 0, _, _, _, _, _ => none
  | n + 1, m, pc, ls, st, σ => match zact sh m pc ls st σ with
    | none => none
    | some (.inl q) => zrun sh n m q.1 q.2.1 q.2.2.1 q.2.2.2
    | some (.inr (.inl q)) => some q
    | some (.inr (.inr q)) => match zrun sh n q.1 0 q.2.1 [] σ with
      | none => none
      | some u => zrun sh n m q.2.2.1 ls (zpush u.1 q.2.2.2) u.2
theorem zrun_succ {sh : Nat → Nat} : ∀ (n m pc : Nat) (ls : zL) (st : List Value) (σ : zG) (u : Option Value × zG), zrun sh n m pc ls st σ = some u → zrun sh (n + 1) m pc ls st σ = some u := by
  intro n
  induction n with
  | zero => intro m pc ls st σ u h; cases h
  | succ n ih =>
    intro m pc ls st σ u h
    rw [zrun] at h ⊢
    cases ha : zact sh m pc ls st σ with
    | none => rw [ha] at h; cases h
    | some a =>
      rw [ha] at h
      rcases a with q | q | q
      · exact ih _ _ _ _ _ _ h
      · exact h
      · dsimp only at h ⊢
        cases hb : zrun sh n q.1 0 q.2.1 [] σ with
        | none => rw [hb] at h; cases h
        | some w =>
          rw [hb] at h
          rw [ih _ _ _ _ _ _ hb]
          exact ih _ _ _ _ _ _ h
theorem zrun_le {sh : Nat → Nat} {n k m pc : Nat} {ls : zL} {st : List Value} {σ : zG} {u : Option Value × zG} (hk : n ≤ k) (h : zrun sh n m pc ls st σ = some u) : zrun sh k m pc ls st σ = some u := by
  induction hk with
  | refl => exact h
  | step _ ih => exact zrun_succ _ _ _ _ _ _ _ ih
theorem zrun_det {sh : Nat → Nat} {n k m pc : Nat} {ls : zL} {st : List Value} {σ : zG} {u w : Option Value × zG} (h : zrun sh n m pc ls st σ = some u) (h' : zrun sh k m pc ls st σ = some w) : u = w := by
  have h1 := zrun_le (Nat.le_max_left n k) h
  have h2 := zrun_le (Nat.le_max_right n k) h'
  exact Option.some.inj (h1.symm.trans h2)
/-- from here the method ends, and its answer and its heap are Q's -/
def Ev (sh : Nat → Nat) (m pc : Nat) (ls : zL) (st : List Value) (σ : zG) (Q : Option Value → zG → Prop) : Prop := ∃ (n : Nat) (r : Option Value) (σ' : zG), zrun sh n m pc ls st σ = some (r, σ') ∧ Q r σ'
section
variable {sh : Nat → Nat} {m pc : Nat} {ls : zL} {st : List Value} {σ : zG} {Q : Option Value → zG → Prop}
theorem Ev_step {pc' : Nat} {ls' : zL} {st' : List Value} {σ' : zG} (h : zact sh m pc ls st σ = some (.inl (pc', ls', st', σ'))) : Ev sh m pc ls st σ Q = Ev sh m pc' ls' st' σ' Q := by
  apply propext
  constructor
  · rintro ⟨n, r, s, hn, hq⟩
    cases n with
    | zero => cases hn
    | succ n => rw [zrun, h] at hn; exact ⟨n, r, s, hn, hq⟩
  · rintro ⟨n, r, s, hn, hq⟩
    exact ⟨n + 1, r, s, by rw [zrun, h]; exact hn, hq⟩
theorem Ev_ret {r : Option Value} {σ' : zG} (h : zact sh m pc ls st σ = some (.inr (.inl (r, σ')))) : Ev sh m pc ls st σ Q = Q r σ' := by
  apply propext
  constructor
  · rintro ⟨n, r, s, hn, hq⟩
    cases n with
    | zero => cases hn
    | succ n => rw [zrun, h] at hn; cases hn; exact hq
  · intro hq
    exact ⟨1, r, σ', by rw [zrun, h], hq⟩
theorem Ev_call {c pc' : Nat} {lc : zL} {rest : List Value} (h : zact sh m pc ls st σ = some (.inr (.inr (c, lc, pc', rest)))) : Ev sh m pc ls st σ Q = Ev sh c 0 lc [] σ (fun r s => Ev sh m pc' ls (zpush r rest) s Q) := by
  apply propext
  constructor
  · rintro ⟨n, r, s, hn, hq⟩
    cases n with
    | zero => cases hn
    | succ n =>
      rw [zrun, h] at hn
      dsimp only at hn
      cases hb : zrun sh n c 0 lc [] σ with
      | none => rw [hb] at hn; cases hn
      | some w => rw [hb] at hn; exact ⟨n, w.1, w.2, hb, n, r, s, hn, hq⟩
  · rintro ⟨n, r, s, hn, k, r2, s2, hk, hq⟩
    refine ⟨max n k + 1, r2, s2, ?_, hq⟩
    rw [zrun, h]
    dsimp only
    rw [zrun_le (Nat.le_max_left n k) hn]
    exact zrun_le (Nat.le_max_right n k) hk
theorem Ev_none (h : zact sh m pc ls st σ = none) : Ev sh m pc ls st σ Q = False := by
  apply propext
  constructor
  · rintro ⟨n, r, s, hn, hq⟩
    cases n with
    | zero => cases hn
    | succ n => rw [zrun, h] at hn; cases hn
  · exact False.elim
theorem Ev_if {c : Prop} [Decidable c] {a b : Nat} {ls' : zL} {st' : List Value} {σ' : zG} (h : zact sh m pc ls st σ = some (.inl (if c then a else b, ls', st', σ'))) : Ev sh m pc ls st σ Q = if c then Ev sh m a ls' st' σ' Q else Ev sh m b ls' st' σ' Q := by
  rw [Ev_step h]
  by_cases hc : c <;> simp only [hc, if_true, if_false]
theorem Ev_g {c : Prop} [Decidable c] {pc' : Nat} {ls' : zL} {st' : List Value} {σ' : zG} (h : zact sh m pc ls st σ = if c then some (.inl (pc', ls', st', σ')) else none) : Ev sh m pc ls st σ Q = (c ∧ Ev sh m pc' ls' st' σ' Q) := by
  by_cases hc : c
  · rw [if_pos hc] at h
    rw [Ev_step h]
    simp [hc]
  · rw [if_neg hc] at h
    rw [Ev_none h]
    simp [hc]
theorem Ev_h {c : Prop} [Decidable c] {pc' : Nat} {ls' : zL} {st' : List Value} {σ' : zG} (hc : c) (h : zact sh m pc ls st σ = if c then some (.inl (pc', ls', st', σ')) else none) : Ev sh m pc ls st σ Q = Ev sh m pc' ls' st' σ' Q := by
  rw [if_pos hc] at h
  exact Ev_step h
theorem Ev_rg {c : Prop} [Decidable c] {r : Option Value} {σ' : zG} (h : zact sh m pc ls st σ = if c then some (.inr (.inl (r, σ'))) else none) : Ev sh m pc ls st σ Q = (c ∧ Q r σ') := by
  by_cases hc : c
  · rw [if_pos hc] at h
    rw [Ev_ret h]
    simp [hc]
  · rw [if_neg hc] at h
    rw [Ev_none h]
    simp [hc]
theorem Ev_rh {c : Prop} [Decidable c] {r : Option Value} {σ' : zG} (hc : c) (h : zact sh m pc ls st σ = if c then some (.inr (.inl (r, σ'))) else none) : Ev sh m pc ls st σ Q = Q r σ' := by
  rw [if_pos hc] at h
  exact Ev_ret h
theorem Ev_swc {x : Int32} {d t : Nat} {k : Int} {r : List (Int × Nat)} : Ev sh m (zsw x d ((k, t) :: r)) ls st σ Q = if x = Int32.ofInt k then Ev sh m t ls st σ Q else Ev sh m (zsw x d r) ls st σ Q := by
  rw [zsw]
  by_cases hc : x = Int32.ofInt k <;> simp only [hc, if_true, if_false]
theorem Ev_callh {k : Prop} [Decidable k] {c pc' : Nat} {lc : zL} {rest : List Value} (hk : k) (h : zact sh m pc ls st σ = if k then some (.inr (.inr (c, lc, pc', rest))) else none) : Ev sh m pc ls st σ Q = Ev sh c 0 lc [] σ (fun r s => Ev sh m pc' ls (zpush r rest) s Q) := by
  rw [if_pos hk] at h
  exact Ev_call h
theorem Ev_mono {Q' : Option Value → zG → Prop} (h : Ev sh m pc ls st σ Q) (hq : ∀ r s, Q r s → Q' r s) : Ev sh m pc ls st σ Q' := by
  obtain ⟨n, r, s, hn, hr⟩ := h
  exact ⟨n, r, s, hn, hq r s hr⟩
/-- a method whose answer and heap are known -/
theorem Ev_eq {r : Option Value} {σ' : zG} (h : Ev sh m pc ls st σ (fun v s => v = r ∧ s = σ')) (Q : Option Value → zG → Prop) : Ev sh m pc ls st σ Q = Q r σ' := by
  obtain ⟨n, r1, s1, hn, rfl, rfl⟩ := h
  apply propext
  constructor
  · rintro ⟨k, r2, s2, hk, hq⟩
    cases zrun_det hn hk
    exact hq
  · intro hq
    exact ⟨n, _, _, hn, hq⟩
end
theorem zrecv_of {sh : Nat → Nat} {own b : Nat} (ho : own < 10) (h : sh b = own) : zrecv sh own b = true := by
  rw [zrecv, if_pos ho, h]
  exact beq_self_eq_true _
theorem zrecv_s {sh : Nat → Nat} {own b : Nat} (ho : 10 ≤ own) (h : 1000 ≤ b ∧ b < 1007) : zrecv sh own b = true := by
  rw [zrecv, if_neg (by omega)]
  simp [h.1, h.2]
