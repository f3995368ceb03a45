section
variable {sh : Nat → Nat} {st : List Value} {σ : zG} {Q : Option Value → zG → Prop} {a0 a1 a2 a3 a4 a5 a6 a7 a8 a9 a10 a11 a12 : Option Value} {x y : Int32} {u v : Int64} {i : Nat} {x0 x1 x2 x3 x4 x5 x6 x7 x8 : Int32} {i0 i1 i2 i3 i4 i5 i6 i7 i8 : Nat} {u0 u1 u2 u3 u4 u5 u6 u7 u8 : Int64}

theorem s_Integer_bitCount_0 : Ev sh 260 0 [some (.int x)] st σ Q = Ev sh 260 1 [some (.int x)] (.int x :: st) σ Q := Ev_step rfl
theorem s_Integer_bitCount_1 : Ev sh 260 1 [some (.int x)] st σ Q = Ev sh 260 2 [some (.int x)] (.int x :: st) σ Q := Ev_step rfl
theorem s_Integer_bitCount_2 : Ev sh 260 2 [a0] st σ Q = Ev sh 260 3 [a0] (.int 1 :: st) σ Q := Ev_step rfl
theorem s_Integer_bitCount_3 : Ev sh 260 3 [a0] (.int y :: .int x :: st) σ Q = Ev sh 260 4 [a0] (.int (x.toUInt32 >>> (y.toUInt32 &&& Int32.toUInt32 31)).toInt32 :: st) σ Q := Ev_step rfl
theorem s_Integer_bitCount_4 : Ev sh 260 4 [a0] st σ Q = Ev sh 260 7 [a0] (.int 1431655765 :: st) σ Q := Ev_step rfl
theorem s_Integer_bitCount_7 : Ev sh 260 7 [a0] (.int y :: .int x :: st) σ Q = Ev sh 260 8 [a0] (.int (x &&& y) :: st) σ Q := Ev_step rfl
theorem s_Integer_bitCount_8 : Ev sh 260 8 [a0] (.int y :: .int x :: st) σ Q = Ev sh 260 9 [a0] (.int (x - y) :: st) σ Q := Ev_step rfl
theorem s_Integer_bitCount_9 : Ev sh 260 9 [a0] (.int x :: st) σ Q = Ev sh 260 10 [some (.int x)] st σ Q := Ev_step rfl
theorem s_Integer_bitCount_10 : Ev sh 260 10 [some (.int x)] st σ Q = Ev sh 260 11 [some (.int x)] (.int x :: st) σ Q := Ev_step rfl
theorem s_Integer_bitCount_11 : Ev sh 260 11 [a0] st σ Q = Ev sh 260 14 [a0] (.int 858993459 :: st) σ Q := Ev_step rfl
theorem s_Integer_bitCount_14 : Ev sh 260 14 [a0] (.int y :: .int x :: st) σ Q = Ev sh 260 15 [a0] (.int (x &&& y) :: st) σ Q := Ev_step rfl
theorem s_Integer_bitCount_15 : Ev sh 260 15 [some (.int x)] st σ Q = Ev sh 260 16 [some (.int x)] (.int x :: st) σ Q := Ev_step rfl
theorem s_Integer_bitCount_16 : Ev sh 260 16 [a0] st σ Q = Ev sh 260 17 [a0] (.int 2 :: st) σ Q := Ev_step rfl
theorem s_Integer_bitCount_17 : Ev sh 260 17 [a0] (.int y :: .int x :: st) σ Q = Ev sh 260 18 [a0] (.int (x.toUInt32 >>> (y.toUInt32 &&& Int32.toUInt32 31)).toInt32 :: st) σ Q := Ev_step rfl
theorem s_Integer_bitCount_18 : Ev sh 260 18 [a0] st σ Q = Ev sh 260 21 [a0] (.int 858993459 :: st) σ Q := Ev_step rfl
theorem s_Integer_bitCount_21 : Ev sh 260 21 [a0] (.int y :: .int x :: st) σ Q = Ev sh 260 22 [a0] (.int (x &&& y) :: st) σ Q := Ev_step rfl
theorem s_Integer_bitCount_22 : Ev sh 260 22 [a0] (.int y :: .int x :: st) σ Q = Ev sh 260 23 [a0] (.int (x + y) :: st) σ Q := Ev_step rfl
theorem s_Integer_bitCount_23 : Ev sh 260 23 [a0] (.int x :: st) σ Q = Ev sh 260 24 [some (.int x)] st σ Q := Ev_step rfl
theorem s_Integer_bitCount_24 : Ev sh 260 24 [some (.int x)] st σ Q = Ev sh 260 25 [some (.int x)] (.int x :: st) σ Q := Ev_step rfl
theorem s_Integer_bitCount_25 : Ev sh 260 25 [some (.int x)] st σ Q = Ev sh 260 26 [some (.int x)] (.int x :: st) σ Q := Ev_step rfl
theorem s_Integer_bitCount_26 : Ev sh 260 26 [a0] st σ Q = Ev sh 260 27 [a0] (.int 4 :: st) σ Q := Ev_step rfl
theorem s_Integer_bitCount_27 : Ev sh 260 27 [a0] (.int y :: .int x :: st) σ Q = Ev sh 260 28 [a0] (.int (x.toUInt32 >>> (y.toUInt32 &&& Int32.toUInt32 31)).toInt32 :: st) σ Q := Ev_step rfl
theorem s_Integer_bitCount_28 : Ev sh 260 28 [a0] (.int y :: .int x :: st) σ Q = Ev sh 260 29 [a0] (.int (x + y) :: st) σ Q := Ev_step rfl
theorem s_Integer_bitCount_29 : Ev sh 260 29 [a0] st σ Q = Ev sh 260 32 [a0] (.int 252645135 :: st) σ Q := Ev_step rfl
theorem s_Integer_bitCount_32 : Ev sh 260 32 [a0] (.int y :: .int x :: st) σ Q = Ev sh 260 33 [a0] (.int (x &&& y) :: st) σ Q := Ev_step rfl
theorem s_Integer_bitCount_33 : Ev sh 260 33 [a0] (.int x :: st) σ Q = Ev sh 260 34 [some (.int x)] st σ Q := Ev_step rfl
theorem s_Integer_bitCount_34 : Ev sh 260 34 [some (.int x)] st σ Q = Ev sh 260 35 [some (.int x)] (.int x :: st) σ Q := Ev_step rfl
theorem s_Integer_bitCount_35 : Ev sh 260 35 [some (.int x)] st σ Q = Ev sh 260 36 [some (.int x)] (.int x :: st) σ Q := Ev_step rfl
theorem s_Integer_bitCount_36 : Ev sh 260 36 [a0] st σ Q = Ev sh 260 38 [a0] (.int 8 :: st) σ Q := Ev_step rfl
theorem s_Integer_bitCount_38 : Ev sh 260 38 [a0] (.int y :: .int x :: st) σ Q = Ev sh 260 39 [a0] (.int (x.toUInt32 >>> (y.toUInt32 &&& Int32.toUInt32 31)).toInt32 :: st) σ Q := Ev_step rfl
theorem s_Integer_bitCount_39 : Ev sh 260 39 [a0] (.int y :: .int x :: st) σ Q = Ev sh 260 40 [a0] (.int (x + y) :: st) σ Q := Ev_step rfl
theorem s_Integer_bitCount_40 : Ev sh 260 40 [a0] (.int x :: st) σ Q = Ev sh 260 41 [some (.int x)] st σ Q := Ev_step rfl
theorem s_Integer_bitCount_41 : Ev sh 260 41 [some (.int x)] st σ Q = Ev sh 260 42 [some (.int x)] (.int x :: st) σ Q := Ev_step rfl
theorem s_Integer_bitCount_42 : Ev sh 260 42 [some (.int x)] st σ Q = Ev sh 260 43 [some (.int x)] (.int x :: st) σ Q := Ev_step rfl
theorem s_Integer_bitCount_43 : Ev sh 260 43 [a0] st σ Q = Ev sh 260 45 [a0] (.int 16 :: st) σ Q := Ev_step rfl
theorem s_Integer_bitCount_45 : Ev sh 260 45 [a0] (.int y :: .int x :: st) σ Q = Ev sh 260 46 [a0] (.int (x.toUInt32 >>> (y.toUInt32 &&& Int32.toUInt32 31)).toInt32 :: st) σ Q := Ev_step rfl
theorem s_Integer_bitCount_46 : Ev sh 260 46 [a0] (.int y :: .int x :: st) σ Q = Ev sh 260 47 [a0] (.int (x + y) :: st) σ Q := Ev_step rfl
theorem s_Integer_bitCount_47 : Ev sh 260 47 [a0] (.int x :: st) σ Q = Ev sh 260 48 [some (.int x)] st σ Q := Ev_step rfl
theorem s_Integer_bitCount_48 : Ev sh 260 48 [some (.int x)] st σ Q = Ev sh 260 49 [some (.int x)] (.int x :: st) σ Q := Ev_step rfl
theorem s_Integer_bitCount_49 : Ev sh 260 49 [a0] st σ Q = Ev sh 260 51 [a0] (.int 63 :: st) σ Q := Ev_step rfl
theorem s_Integer_bitCount_51 : Ev sh 260 51 [a0] (.int y :: .int x :: st) σ Q = Ev sh 260 52 [a0] (.int (x &&& y) :: st) σ Q := Ev_step rfl
theorem s_Integer_bitCount_52 : Ev sh 260 52 [a0] [.int x] σ Q = Q (some (.int x)) σ := Ev_ret rfl
theorem s_String_length_0 : Ev sh 261 0 [some (.ref i)] st σ Q = Ev sh 261 1 [some (.ref i)] (.ref i :: st) σ Q := Ev_step rfl
theorem s_String_length_1 (h : 1000 ≤ i ∧ i < 1007) : Ev sh 261 1 [a0] (.ref i :: st) σ Q = Ev sh 261 4 [a0] (.ref (i + 1000) :: st) σ Q := Ev_h h rfl
theorem s_String_length_4 (h : 2000 ≤ i ∧ i < 2007) : Ev sh 261 4 [a0] (.ref i :: st) σ Q = Ev sh 261 5 [a0] (.int (nI (zslen.getD (i - 2000) 0)) :: st) σ Q := by rw [Ev_h (c := 2000 ≤ i ∧ i < 2007) h]; exact if_neg (show ¬ i < 1000 by omega)
theorem s_String_length_5 : Ev sh 261 5 [some (.ref i)] st σ Q = Ev sh 261 6 [some (.ref i)] (.ref i :: st) σ Q := Ev_step rfl
theorem s_String_length_6 (h : 1000 ≤ i1 ∧ i1 < 1007) : Ev sh 261 6 [a0] [.ref i1, .int x0] σ Q = Ev sh 266 0 [some (.ref i1)] [] σ (fun r s => Ev sh 261 9 [a0] (zpush r [.int x0]) s Q) := Ev_callh (zrecv_s (own := 12) (by decide) h) rfl
theorem s_String_length_9 : Ev sh 261 9 [a0] (.int y :: .int x :: st) σ Q = Ev sh 261 10 [a0] (.int (x >>> (y &&& 31)) :: st) σ Q := Ev_step rfl
theorem s_String_length_10 : Ev sh 261 10 [a0] [.int x] σ Q = Q (some (.int x)) σ := Ev_ret rfl
theorem s_String_isEmpty_0 : Ev sh 262 0 [some (.ref i)] st σ Q = Ev sh 262 1 [some (.ref i)] (.ref i :: st) σ Q := Ev_step rfl
theorem s_String_isEmpty_1 (h : 1000 ≤ i ∧ i < 1007) : Ev sh 262 1 [a0] (.ref i :: st) σ Q = Ev sh 262 4 [a0] (.ref (i + 1000) :: st) σ Q := Ev_h h rfl
theorem s_String_isEmpty_4 (h : 2000 ≤ i ∧ i < 2007) : Ev sh 262 4 [a0] (.ref i :: st) σ Q = Ev sh 262 5 [a0] (.int (nI (zslen.getD (i - 2000) 0)) :: st) σ Q := by rw [Ev_h (c := 2000 ≤ i ∧ i < 2007) h]; exact if_neg (show ¬ i < 1000 by omega)
theorem s_String_isEmpty_5 : Ev sh 262 5 [a0] (.int x :: st) σ Q = if x ≠ 0 then Ev sh 262 12 [a0] st σ Q else Ev sh 262 8 [a0] st σ Q := Ev_if rfl
theorem s_String_isEmpty_8 : Ev sh 262 8 [a0] st σ Q = Ev sh 262 9 [a0] (.int 1 :: st) σ Q := Ev_step rfl
theorem s_String_isEmpty_9 : Ev sh 262 9 [a0] st σ Q = Ev sh 262 13 [a0] st σ Q := Ev_step rfl
theorem s_String_isEmpty_12 : Ev sh 262 12 [a0] st σ Q = Ev sh 262 13 [a0] (.int 0 :: st) σ Q := Ev_step rfl
theorem s_String_isEmpty_13 (h : x = 0 ∨ x = 1) : Ev sh 262 13 [a0] [.int x] σ Q = Q (some (.int x)) σ := Ev_rh h rfl
theorem s_String_charAt_0 : Ev sh 263 0 [some (.ref i), a1] st σ Q = Ev sh 263 1 [some (.ref i), a1] (.ref i :: st) σ Q := Ev_step rfl
theorem s_String_charAt_1 (h : 1000 ≤ i0 ∧ i0 < 1007) : Ev sh 263 1 [a0, a1] [.ref i0] σ Q = Ev sh 267 0 [some (.ref i0)] [] σ (fun r s => Ev sh 263 4 [a0, a1] (zpush r []) s Q) := Ev_callh (zrecv_s (own := 12) (by decide) h) rfl
theorem s_String_charAt_4 : Ev sh 263 4 [a0, a1] (.int x :: st) σ Q = if x = 0 then Ev sh 263 16 [a0, a1] st σ Q else Ev sh 263 7 [a0, a1] st σ Q := Ev_if rfl
theorem s_String_charAt_7 : Ev sh 263 7 [some (.ref i), a1] st σ Q = Ev sh 263 8 [some (.ref i), a1] (.ref i :: st) σ Q := Ev_step rfl
theorem s_String_charAt_8 (h : 1000 ≤ i ∧ i < 1007) : Ev sh 263 8 [a0, a1] (.ref i :: st) σ Q = Ev sh 263 11 [a0, a1] (.ref (i + 1000) :: st) σ Q := Ev_h h rfl
theorem s_String_charAt_11 : Ev sh 263 11 [a0, some (.int x)] st σ Q = Ev sh 263 12 [a0, some (.int x)] (.int x :: st) σ Q := Ev_step rfl
theorem s_String_charAt_12 : Ev sh 263 12 [a0, a1] [.int x1, .ref i0] σ Q = Ev sh 269 0 [some (.ref i0), some (.int x1)] [] σ (fun r s => Ev sh 263 15 [a0, a1] (zpush r []) s Q) := Ev_call rfl
theorem s_String_charAt_15 (h : x.toUInt32.toUInt16.toUInt32.toInt32 = x) : Ev sh 263 15 [a0, a1] [.int x] σ Q = Q (some (.int x)) σ := Ev_rh h rfl
theorem s_String_charAt_16 : Ev sh 263 16 [some (.ref i), a1] st σ Q = Ev sh 263 17 [some (.ref i), a1] (.ref i :: st) σ Q := Ev_step rfl
theorem s_String_charAt_17 (h : 1000 ≤ i ∧ i < 1007) : Ev sh 263 17 [a0, a1] (.ref i :: st) σ Q = Ev sh 263 20 [a0, a1] (.ref (i + 1000) :: st) σ Q := Ev_h h rfl
theorem s_String_charAt_20 : Ev sh 263 20 [a0, some (.int x)] st σ Q = Ev sh 263 21 [a0, some (.int x)] (.int x :: st) σ Q := Ev_step rfl
theorem s_String_indexOf_1I_0 : Ev sh 264 0 [some (.ref i), a1] st σ Q = Ev sh 264 1 [some (.ref i), a1] (.ref i :: st) σ Q := Ev_step rfl
theorem s_String_indexOf_1I_1 : Ev sh 264 1 [a0, some (.int x)] st σ Q = Ev sh 264 2 [a0, some (.int x)] (.int x :: st) σ Q := Ev_step rfl
theorem s_String_indexOf_1I_2 : Ev sh 264 2 [a0, a1] st σ Q = Ev sh 264 3 [a0, a1] (.int 0 :: st) σ Q := Ev_step rfl
theorem s_String_indexOf_1I_3 (h : 1000 ≤ i0 ∧ i0 < 1007) : Ev sh 264 3 [a0, a1] [.int x2, .int x1, .ref i0] σ Q = Ev sh 265 0 [some (.ref i0), some (.int x1), some (.int x2)] [] σ (fun r s => Ev sh 264 6 [a0, a1] (zpush r []) s Q) := Ev_callh (zrecv_s (own := 12) (by decide) h) rfl
theorem s_String_indexOf_1I_6 : Ev sh 264 6 [a0, a1] [.int x] σ Q = Q (some (.int x)) σ := Ev_ret rfl
theorem s_String_indexOf_2II_0 : Ev sh 265 0 [some (.ref i), a1, a2] st σ Q = Ev sh 265 1 [some (.ref i), a1, a2] (.ref i :: st) σ Q := Ev_step rfl
theorem s_String_indexOf_2II_1 (h : 1000 ≤ i0 ∧ i0 < 1007) : Ev sh 265 1 [a0, a1, a2] [.ref i0] σ Q = Ev sh 267 0 [some (.ref i0)] [] σ (fun r s => Ev sh 265 4 [a0, a1, a2] (zpush r []) s Q) := Ev_callh (zrecv_s (own := 12) (by decide) h) rfl
theorem s_String_indexOf_2II_4 : Ev sh 265 4 [a0, a1, a2] (.int x :: st) σ Q = if x = 0 then Ev sh 265 23 [a0, a1, a2] st σ Q else Ev sh 265 7 [a0, a1, a2] st σ Q := Ev_if rfl
theorem s_String_indexOf_2II_7 : Ev sh 265 7 [some (.ref i), a1, a2] st σ Q = Ev sh 265 8 [some (.ref i), a1, a2] (.ref i :: st) σ Q := Ev_step rfl
theorem s_String_indexOf_2II_8 (h : 1000 ≤ i ∧ i < 1007) : Ev sh 265 8 [a0, a1, a2] (.ref i :: st) σ Q = Ev sh 265 11 [a0, a1, a2] (.ref (i + 1000) :: st) σ Q := Ev_h h rfl
theorem s_String_indexOf_2II_11 : Ev sh 265 11 [a0, some (.int x), a2] st σ Q = Ev sh 265 12 [a0, some (.int x), a2] (.int x :: st) σ Q := Ev_step rfl
theorem s_String_indexOf_2II_12 : Ev sh 265 12 [a0, a1, some (.int x)] st σ Q = Ev sh 265 13 [a0, a1, some (.int x)] (.int x :: st) σ Q := Ev_step rfl
theorem s_String_indexOf_2II_13 : Ev sh 265 13 [some (.ref i), a1, a2] st σ Q = Ev sh 265 14 [some (.ref i), a1, a2] (.ref i :: st) σ Q := Ev_step rfl
theorem s_String_indexOf_2II_14 (h : 1000 ≤ i3 ∧ i3 < 1007) : Ev sh 265 14 [a0, a1, a2] [.ref i3, .int x2, .int x1, .ref i0] σ Q = Ev sh 261 0 [some (.ref i3)] [] σ (fun r s => Ev sh 265 17 [a0, a1, a2] (zpush r [.int x2, .int x1, .ref i0]) s Q) := Ev_callh (zrecv_s (own := 12) (by decide) h) rfl
theorem s_String_indexOf_2II_17 : Ev sh 265 17 [a0, a1, a2] [.int x3, .int x2, .int x1, .ref i0] σ Q = Ev sh 271 0 [some (.ref i0), some (.int x1), some (.int x2), some (.int x3)] [] σ (fun r s => Ev sh 265 20 [a0, a1, a2] (zpush r []) s Q) := Ev_call rfl
theorem s_String_indexOf_2II_20 : Ev sh 265 20 [a0, a1, a2] st σ Q = Ev sh 265 36 [a0, a1, a2] st σ Q := Ev_step rfl
theorem s_String_indexOf_2II_23 : Ev sh 265 23 [some (.ref i), a1, a2] st σ Q = Ev sh 265 24 [some (.ref i), a1, a2] (.ref i :: st) σ Q := Ev_step rfl
theorem s_String_indexOf_2II_24 (h : 1000 ≤ i ∧ i < 1007) : Ev sh 265 24 [a0, a1, a2] (.ref i :: st) σ Q = Ev sh 265 27 [a0, a1, a2] (.ref (i + 1000) :: st) σ Q := Ev_h h rfl
theorem s_String_indexOf_2II_27 : Ev sh 265 27 [a0, some (.int x), a2] st σ Q = Ev sh 265 28 [a0, some (.int x), a2] (.int x :: st) σ Q := Ev_step rfl
theorem s_String_indexOf_2II_28 : Ev sh 265 28 [a0, a1, some (.int x)] st σ Q = Ev sh 265 29 [a0, a1, some (.int x)] (.int x :: st) σ Q := Ev_step rfl
theorem s_String_indexOf_2II_29 : Ev sh 265 29 [some (.ref i), a1, a2] st σ Q = Ev sh 265 30 [some (.ref i), a1, a2] (.ref i :: st) σ Q := Ev_step rfl
theorem s_String_indexOf_2II_30 (h : 1000 ≤ i3 ∧ i3 < 1007) : Ev sh 265 30 [a0, a1, a2] [.ref i3, .int x2, .int x1, .ref i0] σ Q = Ev sh 261 0 [some (.ref i3)] [] σ (fun r s => Ev sh 265 33 [a0, a1, a2] (zpush r [.int x2, .int x1, .ref i0]) s Q) := Ev_callh (zrecv_s (own := 12) (by decide) h) rfl
theorem s_String_indexOf_2II_36 : Ev sh 265 36 [a0, a1, a2] [.int x] σ Q = Q (some (.int x)) σ := Ev_ret rfl
theorem s_String_coder_0 : Ev sh 266 0 [a0] st σ Q = Ev sh 266 3 [a0] (.int 1 :: st) σ Q := Ev_step rfl
theorem s_String_coder_3 : Ev sh 266 3 [a0] (.int x :: st) σ Q = if x = 0 then Ev sh 266 13 [a0] st σ Q else Ev sh 266 6 [a0] st σ Q := Ev_if rfl
theorem s_String_coder_6 : Ev sh 266 6 [some (.ref i)] st σ Q = Ev sh 266 7 [some (.ref i)] (.ref i :: st) σ Q := Ev_step rfl
theorem s_String_coder_7 (h : 1000 ≤ i ∧ i < 1007) : Ev sh 266 7 [a0] (.ref i :: st) σ Q = Ev sh 266 10 [a0] (.int 0 :: st) σ Q := Ev_h h rfl
theorem s_String_coder_10 : Ev sh 266 10 [a0] st σ Q = Ev sh 266 14 [a0] st σ Q := Ev_step rfl
theorem s_String_coder_13 : Ev sh 266 13 [a0] st σ Q = Ev sh 266 14 [a0] (.int 1 :: st) σ Q := Ev_step rfl
theorem s_String_coder_14 (h : x.toInt8.toInt32 = x) : Ev sh 266 14 [a0] [.int x] σ Q = Q (some (.int x)) σ := Ev_rh h rfl
theorem s_String_isLatin1_0 : Ev sh 267 0 [a0] st σ Q = Ev sh 267 3 [a0] (.int 1 :: st) σ Q := Ev_step rfl
theorem s_String_isLatin1_3 : Ev sh 267 3 [a0] (.int x :: st) σ Q = if x = 0 then Ev sh 267 17 [a0] st σ Q else Ev sh 267 6 [a0] st σ Q := Ev_if rfl
theorem s_String_isLatin1_6 : Ev sh 267 6 [some (.ref i)] st σ Q = Ev sh 267 7 [some (.ref i)] (.ref i :: st) σ Q := Ev_step rfl
theorem s_String_isLatin1_7 (h : 1000 ≤ i ∧ i < 1007) : Ev sh 267 7 [a0] (.ref i :: st) σ Q = Ev sh 267 10 [a0] (.int 0 :: st) σ Q := Ev_h h rfl
theorem s_String_isLatin1_10 : Ev sh 267 10 [a0] (.int x :: st) σ Q = if x ≠ 0 then Ev sh 267 17 [a0] st σ Q else Ev sh 267 13 [a0] st σ Q := Ev_if rfl
theorem s_String_isLatin1_13 : Ev sh 267 13 [a0] st σ Q = Ev sh 267 14 [a0] (.int 1 :: st) σ Q := Ev_step rfl
theorem s_String_isLatin1_14 : Ev sh 267 14 [a0] st σ Q = Ev sh 267 18 [a0] st σ Q := Ev_step rfl
theorem s_String_isLatin1_17 : Ev sh 267 17 [a0] st σ Q = Ev sh 267 18 [a0] (.int 0 :: st) σ Q := Ev_step rfl
theorem s_String_isLatin1_18 (h : x = 0 ∨ x = 1) : Ev sh 267 18 [a0] [.int x] σ Q = Q (some (.int x)) σ := Ev_rh h rfl
theorem s_String_checkIndex_0 : Ev sh 268 0 [some (.int x), a1] st σ Q = Ev sh 268 1 [some (.int x), a1] (.int x :: st) σ Q := Ev_step rfl
theorem s_String_checkIndex_1 : Ev sh 268 1 [a0, some (.int x)] st σ Q = Ev sh 268 2 [a0, some (.int x)] (.int x :: st) σ Q := Ev_step rfl
theorem s_String_checkIndex_2 : Ev sh 268 2 [a0, a1] st σ Q = Ev sh 268 5 [a0, a1] (.float 0 :: st) σ Q := Ev_step rfl
theorem s_String_checkIndex_5 : Ev sh 268 5 [a0, a1] [.float 0, .int x1, .int x0] σ Q = Ev sh 273 0 [some (.int x0), some (.int x1), some (.float 0)] [] σ (fun r s => Ev sh 268 8 [a0, a1] (zpush r []) s Q) := Ev_call rfl
theorem s_String_checkIndex_8 : Ev sh 268 8 [a0, a1] (.int x :: st) σ Q = Ev sh 268 9 [a0, a1] st σ Q := Ev_step rfl
theorem s_String_checkIndex_9 : Ev sh 268 9 [a0, a1] [] σ Q = Q none σ := Ev_ret rfl
theorem s_Latin1_charAt_0 : Ev sh 269 0 [a0, some (.int x)] st σ Q = Ev sh 269 1 [a0, some (.int x)] (.int x :: st) σ Q := Ev_step rfl
theorem s_Latin1_charAt_1 : Ev sh 269 1 [some (.ref i), a1] st σ Q = Ev sh 269 2 [some (.ref i), a1] (.ref i :: st) σ Q := Ev_step rfl
theorem s_Latin1_charAt_2 (h : 2000 ≤ i ∧ i < 2007) : Ev sh 269 2 [a0, a1] (.ref i :: st) σ Q = Ev sh 269 3 [a0, a1] (.int (nI (zslen.getD (i - 2000) 0)) :: st) σ Q := by rw [Ev_h (c := 2000 ≤ i ∧ i < 2007) h]; exact if_neg (show ¬ i < 1000 by omega)
theorem s_Latin1_charAt_3 : Ev sh 269 3 [a0, a1] [.int x1, .int x0] σ Q = Ev sh 268 0 [some (.int x0), some (.int x1)] [] σ (fun r s => Ev sh 269 6 [a0, a1] (zpush r []) s Q) := Ev_call rfl
theorem s_Latin1_charAt_6 : Ev sh 269 6 [some (.ref i), a1] st σ Q = Ev sh 269 7 [some (.ref i), a1] (.ref i :: st) σ Q := Ev_step rfl
theorem s_Latin1_charAt_7 : Ev sh 269 7 [a0, some (.int x)] st σ Q = Ev sh 269 8 [a0, some (.int x)] (.int x :: st) σ Q := Ev_step rfl
theorem s_Latin1_charAt_8 (h : 2000 ≤ i ∧ i < 2007 ∧ zbin x (zslen.getD (i - 2000) 0) = true) : Ev sh 269 8 [a0, a1] (.int x :: .ref i :: st) σ Q = Ev sh 269 9 [a0, a1] (.int ((zsbyt.getD (i - 2000) []).getD x.toNatClampNeg 0) :: st) σ Q := Ev_h h rfl
theorem s_Latin1_charAt_9 : Ev sh 269 9 [a0, a1] st σ Q = Ev sh 269 12 [a0, a1] (.int 255 :: st) σ Q := Ev_step rfl
theorem s_Latin1_charAt_12 : Ev sh 269 12 [a0, a1] (.int y :: .int x :: st) σ Q = Ev sh 269 13 [a0, a1] (.int (x &&& y) :: st) σ Q := Ev_step rfl
theorem s_Latin1_charAt_13 : Ev sh 269 13 [a0, a1] (.int x :: st) σ Q = Ev sh 269 14 [a0, a1] (.int (x.toUInt32 % 65536).toInt32 :: st) σ Q := Ev_step rfl
theorem s_Latin1_charAt_14 (h : x.toUInt32.toUInt16.toUInt32.toInt32 = x) : Ev sh 269 14 [a0, a1] [.int x] σ Q = Q (some (.int x)) σ := Ev_rh h rfl
theorem s_Latin1_canEncode_0 : Ev sh 270 0 [some (.int x)] st σ Q = Ev sh 270 1 [some (.int x)] (.int x :: st) σ Q := Ev_step rfl
theorem s_Latin1_canEncode_1 : Ev sh 270 1 [a0] (.int x :: st) σ Q = if x < 0 then Ev sh 270 15 [a0] st σ Q else Ev sh 270 4 [a0] st σ Q := Ev_if rfl
theorem s_Latin1_canEncode_4 : Ev sh 270 4 [some (.int x)] st σ Q = Ev sh 270 5 [some (.int x)] (.int x :: st) σ Q := Ev_step rfl
theorem s_Latin1_canEncode_5 : Ev sh 270 5 [a0] st σ Q = Ev sh 270 8 [a0] (.int 255 :: st) σ Q := Ev_step rfl
theorem s_Latin1_canEncode_8 : Ev sh 270 8 [a0] (.int y :: .int x :: st) σ Q = if y < x then Ev sh 270 15 [a0] st σ Q else Ev sh 270 11 [a0] st σ Q := Ev_if rfl
theorem s_Latin1_canEncode_11 : Ev sh 270 11 [a0] st σ Q = Ev sh 270 12 [a0] (.int 1 :: st) σ Q := Ev_step rfl
theorem s_Latin1_canEncode_12 : Ev sh 270 12 [a0] st σ Q = Ev sh 270 16 [a0] st σ Q := Ev_step rfl
theorem s_Latin1_canEncode_15 : Ev sh 270 15 [a0] st σ Q = Ev sh 270 16 [a0] (.int 0 :: st) σ Q := Ev_step rfl
theorem s_Latin1_canEncode_16 (h : x = 0 ∨ x = 1) : Ev sh 270 16 [a0] [.int x] σ Q = Q (some (.int x)) σ := Ev_rh h rfl
theorem s_Latin1_indexOf_0 : Ev sh 271 0 [a0, some (.int x), a2, a3] st σ Q = Ev sh 271 1 [a0, some (.int x), a2, a3] (.int x :: st) σ Q := Ev_step rfl
theorem s_Latin1_indexOf_1 : Ev sh 271 1 [a0, a1, a2, a3] [.int x0] σ Q = Ev sh 270 0 [some (.int x0)] [] σ (fun r s => Ev sh 271 4 [a0, a1, a2, a3] (zpush r []) s Q) := Ev_call rfl
theorem s_Latin1_indexOf_4 : Ev sh 271 4 [a0, a1, a2, a3] (.int x :: st) σ Q = if x ≠ 0 then Ev sh 271 9 [a0, a1, a2, a3] st σ Q else Ev sh 271 7 [a0, a1, a2, a3] st σ Q := Ev_if rfl
theorem s_Latin1_indexOf_7 : Ev sh 271 7 [a0, a1, a2, a3] st σ Q = Ev sh 271 8 [a0, a1, a2, a3] (.int (-1) :: st) σ Q := Ev_step rfl
theorem s_Latin1_indexOf_8 : Ev sh 271 8 [a0, a1, a2, a3] [.int x] σ Q = Q (some (.int x)) σ := Ev_ret rfl
theorem s_Latin1_indexOf_9 : Ev sh 271 9 [a0, a1, some (.int x), a3] st σ Q = Ev sh 271 10 [a0, a1, some (.int x), a3] (.int x :: st) σ Q := Ev_step rfl
theorem s_Latin1_indexOf_10 : Ev sh 271 10 [a0, a1, a2, a3] st σ Q = Ev sh 271 11 [a0, a1, a2, a3] (.int 0 :: st) σ Q := Ev_step rfl
theorem s_Latin1_indexOf_11 : Ev sh 271 11 [a0, a1, a2, a3] [.int y, .int x] σ Q = Ev sh 271 14 [a0, a1, a2, a3] [.int (if x < y then y else x)] σ Q := Ev_step rfl
theorem s_Latin1_indexOf_14 : Ev sh 271 14 [a0, a1, a2, a3] (.int x :: st) σ Q = Ev sh 271 15 [a0, zdrop2 a1, some (.int x), a3] st σ Q := Ev_step rfl
theorem s_Latin1_indexOf_15 : Ev sh 271 15 [a0, a1, a2, some (.int x)] st σ Q = Ev sh 271 16 [a0, a1, a2, some (.int x)] (.int x :: st) σ Q := Ev_step rfl
theorem s_Latin1_indexOf_16 : Ev sh 271 16 [some (.ref i), a1, a2, a3] st σ Q = Ev sh 271 17 [some (.ref i), a1, a2, a3] (.ref i :: st) σ Q := Ev_step rfl
theorem s_Latin1_indexOf_17 (h : 2000 ≤ i ∧ i < 2007) : Ev sh 271 17 [a0, a1, a2, a3] (.ref i :: st) σ Q = Ev sh 271 18 [a0, a1, a2, a3] (.int (nI (zslen.getD (i - 2000) 0)) :: st) σ Q := by rw [Ev_h (c := 2000 ≤ i ∧ i < 2007) h]; exact if_neg (show ¬ i < 1000 by omega)
theorem s_Latin1_indexOf_18 : Ev sh 271 18 [a0, a1, a2, a3] [.int y, .int x] σ Q = Ev sh 271 21 [a0, a1, a2, a3] [.int (if y < x then y else x)] σ Q := Ev_step rfl
theorem s_Latin1_indexOf_21 : Ev sh 271 21 [a0, a1, a2, a3] (.int x :: st) σ Q = Ev sh 271 22 [a0, a1, zdrop2 a2, some (.int x)] st σ Q := Ev_step rfl
theorem s_Latin1_indexOf_22 : Ev sh 271 22 [a0, a1, some (.int x), a3] st σ Q = Ev sh 271 23 [a0, a1, some (.int x), a3] (.int x :: st) σ Q := Ev_step rfl
theorem s_Latin1_indexOf_23 : Ev sh 271 23 [a0, a1, a2, some (.int x)] st σ Q = Ev sh 271 24 [a0, a1, a2, some (.int x)] (.int x :: st) σ Q := Ev_step rfl
theorem s_Latin1_indexOf_24 : Ev sh 271 24 [a0, a1, a2, a3] (.int y :: .int x :: st) σ Q = if x < y then Ev sh 271 29 [a0, a1, a2, a3] st σ Q else Ev sh 271 27 [a0, a1, a2, a3] st σ Q := Ev_if rfl
theorem s_Latin1_indexOf_27 : Ev sh 271 27 [a0, a1, a2, a3] st σ Q = Ev sh 271 28 [a0, a1, a2, a3] (.int (-1) :: st) σ Q := Ev_step rfl
theorem s_Latin1_indexOf_28 : Ev sh 271 28 [a0, a1, a2, a3] [.int x] σ Q = Q (some (.int x)) σ := Ev_ret rfl
theorem s_Latin1_indexOf_29 : Ev sh 271 29 [some (.ref i), a1, a2, a3] st σ Q = Ev sh 271 30 [some (.ref i), a1, a2, a3] (.ref i :: st) σ Q := Ev_step rfl
theorem s_Latin1_indexOf_30 : Ev sh 271 30 [a0, some (.int x), a2, a3] st σ Q = Ev sh 271 31 [a0, some (.int x), a2, a3] (.int x :: st) σ Q := Ev_step rfl
theorem s_Latin1_indexOf_31 : Ev sh 271 31 [a0, a1, some (.int x), a3] st σ Q = Ev sh 271 32 [a0, a1, some (.int x), a3] (.int x :: st) σ Q := Ev_step rfl
theorem s_Latin1_indexOf_32 : Ev sh 271 32 [a0, a1, a2, some (.int x)] st σ Q = Ev sh 271 33 [a0, a1, a2, some (.int x)] (.int x :: st) σ Q := Ev_step rfl
theorem s_Latin1_indexOf_33 : Ev sh 271 33 [a0, a1, a2, a3] [.int x3, .int x2, .int x1, .ref i0] σ Q = Ev sh 272 0 [some (.ref i0), some (.int x1), some (.int x2), some (.int x3), none, none] [] σ (fun r s => Ev sh 271 36 [a0, a1, a2, a3] (zpush r []) s Q) := Ev_call rfl
theorem s_Latin1_indexOf_36 : Ev sh 271 36 [a0, a1, a2, a3] [.int x] σ Q = Q (some (.int x)) σ := Ev_ret rfl
theorem s_Latin1_indexOfChar_0 : Ev sh 272 0 [a0, some (.int x), a2, a3, a4, a5] st σ Q = Ev sh 272 1 [a0, some (.int x), a2, a3, a4, a5] (.int x :: st) σ Q := Ev_step rfl
theorem s_Latin1_indexOfChar_1 : Ev sh 272 1 [a0, a1, a2, a3, a4, a5] (.int x :: st) σ Q = Ev sh 272 2 [a0, a1, a2, a3, a4, a5] (.int x.toInt8.toInt32 :: st) σ Q := Ev_step rfl
theorem s_Latin1_indexOfChar_2 : Ev sh 272 2 [a0, a1, a2, a3, a4, a5] (.int x :: st) σ Q = Ev sh 272 4 [a0, a1, a2, zdrop2 a3, some (.int x), a5] st σ Q := Ev_step rfl
theorem s_Latin1_indexOfChar_4 : Ev sh 272 4 [a0, a1, some (.int x), a3, a4, a5] st σ Q = Ev sh 272 5 [a0, a1, some (.int x), a3, a4, a5] (.int x :: st) σ Q := Ev_step rfl
theorem s_Latin1_indexOfChar_5 : Ev sh 272 5 [a0, a1, a2, a3, a4, a5] (.int x :: st) σ Q = Ev sh 272 7 [a0, a1, a2, a3, zdrop2 a4, some (.int x)] st σ Q := Ev_step rfl
theorem s_Latin1_indexOfChar_7 : Ev sh 272 7 [a0, a1, a2, a3, a4, some (.int x)] st σ Q = Ev sh 272 9 [a0, a1, a2, a3, a4, some (.int x)] (.int x :: st) σ Q := Ev_step rfl
theorem s_Latin1_indexOfChar_9 : Ev sh 272 9 [a0, a1, a2, some (.int x), a4, a5] st σ Q = Ev sh 272 10 [a0, a1, a2, some (.int x), a4, a5] (.int x :: st) σ Q := Ev_step rfl
theorem s_Latin1_indexOfChar_10 : Ev sh 272 10 [a0, a1, a2, a3, a4, a5] (.int y :: .int x :: st) σ Q = if y ≤ x then Ev sh 272 31 [a0, a1, a2, a3, a4, a5] st σ Q else Ev sh 272 13 [a0, a1, a2, a3, a4, a5] st σ Q := Ev_if rfl
theorem s_Latin1_indexOfChar_13 : Ev sh 272 13 [some (.ref i), a1, a2, a3, a4, a5] st σ Q = Ev sh 272 14 [some (.ref i), a1, a2, a3, a4, a5] (.ref i :: st) σ Q := Ev_step rfl
theorem s_Latin1_indexOfChar_14 : Ev sh 272 14 [a0, a1, a2, a3, a4, some (.int x)] st σ Q = Ev sh 272 16 [a0, a1, a2, a3, a4, some (.int x)] (.int x :: st) σ Q := Ev_step rfl
theorem s_Latin1_indexOfChar_16 (h : 2000 ≤ i ∧ i < 2007 ∧ zbin x (zslen.getD (i - 2000) 0) = true) : Ev sh 272 16 [a0, a1, a2, a3, a4, a5] (.int x :: .ref i :: st) σ Q = Ev sh 272 17 [a0, a1, a2, a3, a4, a5] (.int ((zsbyt.getD (i - 2000) []).getD x.toNatClampNeg 0) :: st) σ Q := Ev_h h rfl
theorem s_Latin1_indexOfChar_17 : Ev sh 272 17 [a0, a1, a2, a3, some (.int x), a5] st σ Q = Ev sh 272 19 [a0, a1, a2, a3, some (.int x), a5] (.int x :: st) σ Q := Ev_step rfl
theorem s_Latin1_indexOfChar_19 : Ev sh 272 19 [a0, a1, a2, a3, a4, a5] (.int y :: .int x :: st) σ Q = if x ≠ y then Ev sh 272 25 [a0, a1, a2, a3, a4, a5] st σ Q else Ev sh 272 22 [a0, a1, a2, a3, a4, a5] st σ Q := Ev_if rfl
theorem s_Latin1_indexOfChar_22 : Ev sh 272 22 [a0, a1, a2, a3, a4, some (.int x)] st σ Q = Ev sh 272 24 [a0, a1, a2, a3, a4, some (.int x)] (.int x :: st) σ Q := Ev_step rfl
theorem s_Latin1_indexOfChar_24 : Ev sh 272 24 [a0, a1, a2, a3, a4, a5] [.int x] σ Q = Q (some (.int x)) σ := Ev_ret rfl
theorem s_Latin1_indexOfChar_25 : Ev sh 272 25 [a0, a1, a2, a3, a4, some (.int x)] st σ Q = Ev sh 272 28 [a0, a1, a2, a3, a4, some (.int (x + 1))] st σ Q := Ev_step rfl
theorem s_Latin1_indexOfChar_28 : Ev sh 272 28 [a0, a1, a2, a3, a4, a5] st σ Q = Ev sh 272 7 [a0, a1, a2, a3, a4, a5] st σ Q := Ev_step rfl
theorem s_Latin1_indexOfChar_31 : Ev sh 272 31 [a0, a1, a2, a3, a4, a5] st σ Q = Ev sh 272 32 [a0, a1, a2, a3, a4, a5] (.int (-1) :: st) σ Q := Ev_step rfl
theorem s_Latin1_indexOfChar_32 : Ev sh 272 32 [a0, a1, a2, a3, a4, a5] [.int x] σ Q = Q (some (.int x)) σ := Ev_ret rfl
theorem s_Pre_checkIndex_0 : Ev sh 273 0 [some (.int x), a1, a2] st σ Q = Ev sh 273 1 [some (.int x), a1, a2] (.int x :: st) σ Q := Ev_step rfl
theorem s_Pre_checkIndex_1 : Ev sh 273 1 [a0, a1, a2] (.int x :: st) σ Q = if x < 0 then Ev sh 273 9 [a0, a1, a2] st σ Q else Ev sh 273 4 [a0, a1, a2] st σ Q := Ev_if rfl
theorem s_Pre_checkIndex_4 : Ev sh 273 4 [some (.int x), a1, a2] st σ Q = Ev sh 273 5 [some (.int x), a1, a2] (.int x :: st) σ Q := Ev_step rfl
theorem s_Pre_checkIndex_5 : Ev sh 273 5 [a0, some (.int x), a2] st σ Q = Ev sh 273 6 [a0, some (.int x), a2] (.int x :: st) σ Q := Ev_step rfl
theorem s_Pre_checkIndex_6 : Ev sh 273 6 [a0, a1, a2] (.int y :: .int x :: st) σ Q = if x < y then Ev sh 273 16 [a0, a1, a2] st σ Q else Ev sh 273 9 [a0, a1, a2] st σ Q := Ev_if rfl
theorem s_Pre_checkIndex_9 : Ev sh 273 9 [a0, a1, some (.ref i)] st σ Q = Ev sh 273 10 [a0, a1, some (.ref i)] (.ref i :: st) σ Q := Ev_step rfl
theorem s_Pre_checkIndex_10 : Ev sh 273 10 [some (.int x), a1, a2] st σ Q = Ev sh 273 11 [some (.int x), a1, a2] (.int x :: st) σ Q := Ev_step rfl
theorem s_Pre_checkIndex_11 : Ev sh 273 11 [a0, some (.int x), a2] st σ Q = Ev sh 273 12 [a0, some (.int x), a2] (.int x :: st) σ Q := Ev_step rfl
theorem s_Pre_checkIndex_16 : Ev sh 273 16 [some (.int x), a1, a2] st σ Q = Ev sh 273 17 [some (.int x), a1, a2] (.int x :: st) σ Q := Ev_step rfl
theorem s_Pre_checkIndex_17 : Ev sh 273 17 [a0, a1, a2] [.int x] σ Q = Q (some (.int x)) σ := Ev_ret rfl
end
