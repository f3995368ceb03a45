section
variable {sh : Nat → Nat} {st : List Value} {σ : zG} {Q : Option Value → zG → Prop} {a0 a1 a2 a3 a4 a5 a6 a7 a8 a9 a10 a11 a12 : Option Value} {x y : Int32} {u v : Int64} {i : Nat} {x0 x1 x2 x3 x4 x5 x6 x7 x8 : Int32} {i0 i1 i2 i3 i4 i5 i6 i7 i8 : Nat} {u0 u1 u2 u3 u4 u5 u6 u7 u8 : Int64}

theorem s_M_no_0 : Ev sh 160 0 [some (.ref i), a1] st σ Q = Ev sh 160 1 [some (.ref i), a1] (.ref i :: st) σ Q := Ev_step rfl
theorem s_M_no_1 (h : sh i = 9) : Ev sh 160 1 [a0, a1] (.ref i :: st) σ Q = Ev sh 160 4 [a0, a1] (.ref 1 :: st) σ Q := Ev_h h rfl
theorem s_M_no_4 : Ev sh 160 4 [a0, some (.int x)] st σ Q = Ev sh 160 5 [a0, some (.int x)] (.int x :: st) σ Q := Ev_step rfl
theorem s_M_no_5 : Ev sh 160 5 [a0, a1] (.int x :: st) σ Q = Ev sh 160 6 [a0, a1] (.int (-x) :: st) σ Q := Ev_step rfl
theorem s_M_no_6 : Ev sh 160 6 [a0, a1] (.int x :: .ref i :: st) σ Q = Ev sh 160 7 [a0, a1] (.int x :: .ref i :: .int x :: .ref i :: st) σ Q := Ev_step rfl
theorem s_M_no_7 (h : zin x (sh i) = true) : Ev sh 160 7 [a0, a1] (.int x :: .ref i :: st) σ Q = Ev sh 160 8 [a0, a1] (.int (σ i x.toNatClampNeg) :: st) σ Q := Ev_h h rfl
theorem s_M_no_8 : Ev sh 160 8 [a0, a1] st σ Q = Ev sh 160 9 [a0, a1] (.int 1 :: st) σ Q := Ev_step rfl
theorem s_M_no_9 : Ev sh 160 9 [a0, a1] (.int y :: .int x :: st) σ Q = Ev sh 160 10 [a0, a1] (.int (x + y) :: st) σ Q := Ev_step rfl
theorem s_M_no_10 (h : zin x (sh i) = true) : Ev sh 160 10 [a0, a1] (.int y :: .int x :: .ref i :: st) σ Q = Ev sh 160 11 [a0, a1] st (zup σ i x.toNatClampNeg y) Q := Ev_h h rfl
theorem s_M_no_11 : Ev sh 160 11 [a0, some (.int x)] st σ Q = Ev sh 160 12 [a0, some (.int x)] (.int x :: st) σ Q := Ev_step rfl
theorem s_M_no_12 : Ev sh 160 12 [a0, a1] [.int x] σ Q = Q (some (.int x)) σ := Ev_ret rfl
theorem s_M_lower_0 : Ev sh 161 0 [some (.ref i), a1] st σ Q = Ev sh 161 1 [some (.ref i), a1] (.ref i :: st) σ Q := Ev_step rfl
theorem s_M_lower_1 (h : sh i = 9) : Ev sh 161 1 [a0, a1] (.ref i :: st) σ Q = Ev sh 161 4 [a0, a1] (.ref 1 :: st) σ Q := Ev_h h rfl
theorem s_M_lower_4 : Ev sh 161 4 [a0, some (.int x)] st σ Q = Ev sh 161 5 [a0, some (.int x)] (.int x :: st) σ Q := Ev_step rfl
theorem s_M_lower_5 : Ev sh 161 5 [a0, a1] (.int x :: st) σ Q = Ev sh 161 6 [a0, a1] (.int (-x) :: st) σ Q := Ev_step rfl
theorem s_M_lower_6 : Ev sh 161 6 [a0, a1] (.int x :: .ref i :: st) σ Q = Ev sh 161 7 [a0, a1] (.int x :: .ref i :: .int x :: .ref i :: st) σ Q := Ev_step rfl
theorem s_M_lower_7 (h : zin x (sh i) = true) : Ev sh 161 7 [a0, a1] (.int x :: .ref i :: st) σ Q = Ev sh 161 8 [a0, a1] (.int (σ i x.toNatClampNeg) :: st) σ Q := Ev_h h rfl
theorem s_M_lower_8 : Ev sh 161 8 [a0, a1] st σ Q = Ev sh 161 9 [a0, a1] (.int 1 :: st) σ Q := Ev_step rfl
theorem s_M_lower_9 : Ev sh 161 9 [a0, a1] (.int y :: .int x :: st) σ Q = Ev sh 161 10 [a0, a1] (.int (x + y) :: st) σ Q := Ev_step rfl
theorem s_M_lower_10 (h : zin x (sh i) = true) : Ev sh 161 10 [a0, a1] (.int y :: .int x :: .ref i :: st) σ Q = Ev sh 161 11 [a0, a1] st (zup σ i x.toNatClampNeg y) Q := Ev_h h rfl
theorem s_M_lower_11 : Ev sh 161 11 [a0, a1] st σ Q = Ev sh 161 13 [a0, a1] (.int 1000000000 :: st) σ Q := Ev_step rfl
theorem s_M_lower_13 : Ev sh 161 13 [a0, some (.int x)] st σ Q = Ev sh 161 14 [a0, some (.int x)] (.int x :: st) σ Q := Ev_step rfl
theorem s_M_lower_14 : Ev sh 161 14 [a0, a1] (.int y :: .int x :: st) σ Q = Ev sh 161 15 [a0, a1] (.int (x - y) :: st) σ Q := Ev_step rfl
theorem s_M_lower_15 : Ev sh 161 15 [a0, a1] [.int x] σ Q = Q (some (.int x)) σ := Ev_ret rfl
theorem s_M_lowestOf_0 : Ev sh 162 0 [some (.ref i), a1] st σ Q = Ev sh 162 1 [some (.ref i), a1] (.ref i :: st) σ Q := Ev_step rfl
theorem s_M_lowestOf_1 (h : sh i = 9) : Ev sh 162 1 [a0, a1] (.ref i :: st) σ Q = Ev sh 162 4 [a0, a1] (.ref 1 :: st) σ Q := Ev_h h rfl
theorem s_M_lowestOf_4 : Ev sh 162 4 [a0, some (.int x)] st σ Q = Ev sh 162 5 [a0, some (.int x)] (.int x :: st) σ Q := Ev_step rfl
theorem s_M_lowestOf_5 : Ev sh 162 5 [a0, a1] (.int x :: st) σ Q = Ev sh 162 6 [a0, a1] (.int (-x) :: st) σ Q := Ev_step rfl
theorem s_M_lowestOf_6 : Ev sh 162 6 [a0, a1] (.int x :: .ref i :: st) σ Q = Ev sh 162 7 [a0, a1] (.int x :: .ref i :: .int x :: .ref i :: st) σ Q := Ev_step rfl
theorem s_M_lowestOf_7 (h : zin x (sh i) = true) : Ev sh 162 7 [a0, a1] (.int x :: .ref i :: st) σ Q = Ev sh 162 8 [a0, a1] (.int (σ i x.toNatClampNeg) :: st) σ Q := Ev_h h rfl
theorem s_M_lowestOf_8 : Ev sh 162 8 [a0, a1] st σ Q = Ev sh 162 9 [a0, a1] (.int 1 :: st) σ Q := Ev_step rfl
theorem s_M_lowestOf_9 : Ev sh 162 9 [a0, a1] (.int y :: .int x :: st) σ Q = Ev sh 162 10 [a0, a1] (.int (x + y) :: st) σ Q := Ev_step rfl
theorem s_M_lowestOf_10 (h : zin x (sh i) = true) : Ev sh 162 10 [a0, a1] (.int y :: .int x :: .ref i :: st) σ Q = Ev sh 162 11 [a0, a1] st (zup σ i x.toNatClampNeg y) Q := Ev_h h rfl
theorem s_M_lowestOf_11 : Ev sh 162 11 [a0, a1] st σ Q = Ev sh 162 14 [a0, a1] (.long 4000000000000000000 :: st) σ Q := Ev_step rfl
theorem s_M_lowestOf_14 : Ev sh 162 14 [a0, some (.int x)] st σ Q = Ev sh 162 15 [a0, some (.int x)] (.int x :: st) σ Q := Ev_step rfl
theorem s_M_lowestOf_15 : Ev sh 162 15 [a0, a1] (.int x :: st) σ Q = Ev sh 162 16 [a0, a1] (.long x.toInt64 :: st) σ Q := Ev_step rfl
theorem s_M_lowestOf_16 : Ev sh 162 16 [a0, a1] (.long v :: .long u :: st) σ Q = Ev sh 162 17 [a0, a1] (.long (u - v) :: st) σ Q := Ev_step rfl
theorem s_M_lowestOf_17 : Ev sh 162 17 [a0, a1] [.long u] σ Q = Q (some (.long u)) σ := Ev_ret rfl
theorem s_M_isIn_0 : Ev sh 163 0 [some (.int x), a1, a2] st σ Q = Ev sh 163 1 [some (.int x), a1, a2] (.int x :: st) σ Q := Ev_step rfl
theorem s_M_isIn_1 : Ev sh 163 1 [a0, some (.int x), a2] st σ Q = Ev sh 163 2 [a0, some (.int x), a2] (.int x :: st) σ Q := Ev_step rfl
theorem s_M_isIn_2 : Ev sh 163 2 [a0, a1, a2] (.int y :: .int x :: st) σ Q = if x < y then Ev sh 163 14 [a0, a1, a2] st σ Q else Ev sh 163 5 [a0, a1, a2] st σ Q := Ev_if rfl
theorem s_M_isIn_5 : Ev sh 163 5 [some (.int x), a1, a2] st σ Q = Ev sh 163 6 [some (.int x), a1, a2] (.int x :: st) σ Q := Ev_step rfl
theorem s_M_isIn_6 : Ev sh 163 6 [a0, a1, some (.int x)] st σ Q = Ev sh 163 7 [a0, a1, some (.int x)] (.int x :: st) σ Q := Ev_step rfl
theorem s_M_isIn_7 : Ev sh 163 7 [a0, a1, a2] (.int y :: .int x :: st) σ Q = if y < x then Ev sh 163 14 [a0, a1, a2] st σ Q else Ev sh 163 10 [a0, a1, a2] st σ Q := Ev_if rfl
theorem s_M_isIn_10 : Ev sh 163 10 [a0, a1, a2] st σ Q = Ev sh 163 11 [a0, a1, a2] (.int 1 :: st) σ Q := Ev_step rfl
theorem s_M_isIn_11 : Ev sh 163 11 [a0, a1, a2] st σ Q = Ev sh 163 15 [a0, a1, a2] st σ Q := Ev_step rfl
theorem s_M_isIn_14 : Ev sh 163 14 [a0, a1, a2] st σ Q = Ev sh 163 15 [a0, a1, a2] (.int 0 :: st) σ Q := Ev_step rfl
theorem s_M_isIn_15 (h : x = 0 ∨ x = 1) : Ev sh 163 15 [a0, a1, a2] [.int x] σ Q = Q (some (.int x)) σ := Ev_rh h rfl
theorem s_M_bound_0 : Ev sh 164 0 [some (.int x), a1, a2] st σ Q = Ev sh 164 1 [some (.int x), a1, a2] (.int x :: st) σ Q := Ev_step rfl
theorem s_M_bound_1 : Ev sh 164 1 [a0, some (.int x), a2] st σ Q = Ev sh 164 2 [a0, some (.int x), a2] (.int x :: st) σ Q := Ev_step rfl
theorem s_M_bound_2 : Ev sh 164 2 [a0, a1, a2] (.int y :: .int x :: st) σ Q = if y ≤ x then Ev sh 164 10 [a0, a1, a2] st σ Q else Ev sh 164 5 [a0, a1, a2] st σ Q := Ev_if rfl
theorem s_M_bound_5 : Ev sh 164 5 [a0, a1, a2] st σ Q = Ev sh 164 7 [a0, a1, a2] (.int (-4) :: st) σ Q := Ev_step rfl
theorem s_M_bound_7 : Ev sh 164 7 [a0, a1, a2] st σ Q = Ev sh 164 21 [a0, a1, a2] st σ Q := Ev_step rfl
theorem s_M_bound_10 : Ev sh 164 10 [some (.int x), a1, a2] st σ Q = Ev sh 164 11 [some (.int x), a1, a2] (.int x :: st) σ Q := Ev_step rfl
theorem s_M_bound_11 : Ev sh 164 11 [a0, a1, some (.int x)] st σ Q = Ev sh 164 12 [a0, a1, some (.int x)] (.int x :: st) σ Q := Ev_step rfl
theorem s_M_bound_12 : Ev sh 164 12 [a0, a1, a2] (.int y :: .int x :: st) σ Q = if x ≤ y then Ev sh 164 20 [a0, a1, a2] st σ Q else Ev sh 164 15 [a0, a1, a2] st σ Q := Ev_if rfl
theorem s_M_bound_15 : Ev sh 164 15 [a0, a1, a2] st σ Q = Ev sh 164 17 [a0, a1, a2] (.int (-6) :: st) σ Q := Ev_step rfl
theorem s_M_bound_17 : Ev sh 164 17 [a0, a1, a2] st σ Q = Ev sh 164 21 [a0, a1, a2] st σ Q := Ev_step rfl
theorem s_M_bound_20 : Ev sh 164 20 [a0, a1, a2] st σ Q = Ev sh 164 21 [a0, a1, a2] (.int 0 :: st) σ Q := Ev_step rfl
theorem s_M_bound_21 : Ev sh 164 21 [a0, a1, a2] [.int x] σ Q = Q (some (.int x)) σ := Ev_ret rfl
theorem s_M_has_0 : Ev sh 165 0 [some (.int x), a1] st σ Q = Ev sh 165 1 [some (.int x), a1] (.int x :: st) σ Q := Ev_step rfl
theorem s_M_has_1 : Ev sh 165 1 [a0, some (.int x)] st σ Q = Ev sh 165 2 [a0, some (.int x)] (.int x :: st) σ Q := Ev_step rfl
theorem s_M_has_2 : Ev sh 165 2 [a0, a1] (.int y :: .int x :: st) σ Q = Ev sh 165 3 [a0, a1] (.int (x >>> (y &&& 31)) :: st) σ Q := Ev_step rfl
theorem s_M_has_3 : Ev sh 165 3 [a0, a1] st σ Q = Ev sh 165 4 [a0, a1] (.int 1 :: st) σ Q := Ev_step rfl
theorem s_M_has_4 : Ev sh 165 4 [a0, a1] (.int y :: .int x :: st) σ Q = Ev sh 165 5 [a0, a1] (.int (x &&& y) :: st) σ Q := Ev_step rfl
theorem s_M_has_5 : Ev sh 165 5 [a0, a1] st σ Q = Ev sh 165 6 [a0, a1] (.int 1 :: st) σ Q := Ev_step rfl
theorem s_M_has_6 : Ev sh 165 6 [a0, a1] (.int y :: .int x :: st) σ Q = if x ≠ y then Ev sh 165 13 [a0, a1] st σ Q else Ev sh 165 9 [a0, a1] st σ Q := Ev_if rfl
theorem s_M_has_9 : Ev sh 165 9 [a0, a1] st σ Q = Ev sh 165 10 [a0, a1] (.int 1 :: st) σ Q := Ev_step rfl
theorem s_M_has_10 : Ev sh 165 10 [a0, a1] st σ Q = Ev sh 165 14 [a0, a1] st σ Q := Ev_step rfl
theorem s_M_has_13 : Ev sh 165 13 [a0, a1] st σ Q = Ev sh 165 14 [a0, a1] (.int 0 :: st) σ Q := Ev_step rfl
theorem s_M_has_14 (h : x = 0 ∨ x = 1) : Ev sh 165 14 [a0, a1] [.int x] σ Q = Q (some (.int x)) σ := Ev_rh h rfl
theorem s_M_size_0 : Ev sh 166 0 [some (.int x)] st σ Q = Ev sh 166 1 [some (.int x)] (.int x :: st) σ Q := Ev_step rfl
theorem s_M_size_1 : Ev sh 166 1 [a0] (.int x :: st) σ Q = if 0 ≤ x then Ev sh 166 9 [a0] st σ Q else Ev sh 166 4 [a0] st σ Q := Ev_if rfl
theorem s_M_size_4 : Ev sh 166 4 [some (.int x)] st σ Q = Ev sh 166 5 [some (.int x)] (.int x :: st) σ Q := Ev_step rfl
theorem s_M_size_5 : Ev sh 166 5 [a0] (.int x :: st) σ Q = Ev sh 166 6 [a0] (.int (-x) :: st) σ Q := Ev_step rfl
theorem s_M_size_6 : Ev sh 166 6 [a0] st σ Q = Ev sh 166 10 [a0] st σ Q := Ev_step rfl
theorem s_M_size_9 : Ev sh 166 9 [some (.int x)] st σ Q = Ev sh 166 10 [some (.int x)] (.int x :: st) σ Q := Ev_step rfl
theorem s_M_size_10 : Ev sh 166 10 [a0] [.int x] σ Q = Q (some (.int x)) σ := Ev_ret rfl
theorem s_M_bits_0 : Ev sh 167 0 [a0, a1, a2] st σ Q = Ev sh 167 1 [a0, a1, a2] (.int 0 :: st) σ Q := Ev_step rfl
theorem s_M_bits_1 : Ev sh 167 1 [a0, a1, a2] (.int x :: st) σ Q = Ev sh 167 2 [zdrop2 a0, some (.int x), a2] st σ Q := Ev_step rfl
theorem s_M_bits_2 : Ev sh 167 2 [a0, a1, a2] st σ Q = Ev sh 167 3 [a0, a1, a2] (.int 0 :: st) σ Q := Ev_step rfl
theorem s_M_bits_3 : Ev sh 167 3 [a0, a1, a2] (.int x :: st) σ Q = Ev sh 167 4 [a0, zdrop2 a1, some (.int x)] st σ Q := Ev_step rfl
theorem s_M_bits_4 : Ev sh 167 4 [a0, a1, some (.int x)] st σ Q = Ev sh 167 5 [a0, a1, some (.int x)] (.int x :: st) σ Q := Ev_step rfl
theorem s_M_bits_5 : Ev sh 167 5 [a0, a1, a2] st σ Q = Ev sh 167 7 [a0, a1, a2] (.int 31 :: st) σ Q := Ev_step rfl
theorem s_M_bits_7 : Ev sh 167 7 [a0, a1, a2] (.int y :: .int x :: st) σ Q = if y ≤ x then Ev sh 167 24 [a0, a1, a2] st σ Q else Ev sh 167 10 [a0, a1, a2] st σ Q := Ev_if rfl
theorem s_M_bits_10 : Ev sh 167 10 [a0, some (.int x), a2] st σ Q = Ev sh 167 11 [a0, some (.int x), a2] (.int x :: st) σ Q := Ev_step rfl
theorem s_M_bits_11 : Ev sh 167 11 [some (.int x), a1, a2] st σ Q = Ev sh 167 12 [some (.int x), a1, a2] (.int x :: st) σ Q := Ev_step rfl
theorem s_M_bits_12 : Ev sh 167 12 [a0, a1, some (.int x)] st σ Q = Ev sh 167 13 [a0, a1, some (.int x)] (.int x :: st) σ Q := Ev_step rfl
theorem s_M_bits_13 : Ev sh 167 13 [a0, a1, a2] (.int y :: .int x :: st) σ Q = Ev sh 167 14 [a0, a1, a2] (.int (x >>> (y &&& 31)) :: st) σ Q := Ev_step rfl
theorem s_M_bits_14 : Ev sh 167 14 [a0, a1, a2] st σ Q = Ev sh 167 15 [a0, a1, a2] (.int 1 :: st) σ Q := Ev_step rfl
theorem s_M_bits_15 : Ev sh 167 15 [a0, a1, a2] (.int y :: .int x :: st) σ Q = Ev sh 167 16 [a0, a1, a2] (.int (x &&& y) :: st) σ Q := Ev_step rfl
theorem s_M_bits_16 : Ev sh 167 16 [a0, a1, a2] (.int y :: .int x :: st) σ Q = Ev sh 167 17 [a0, a1, a2] (.int (x + y) :: st) σ Q := Ev_step rfl
theorem s_M_bits_17 : Ev sh 167 17 [a0, a1, a2] (.int x :: st) σ Q = Ev sh 167 18 [zdrop2 a0, some (.int x), a2] st σ Q := Ev_step rfl
theorem s_M_bits_18 : Ev sh 167 18 [a0, a1, some (.int x)] st σ Q = Ev sh 167 21 [a0, a1, some (.int (x + 1))] st σ Q := Ev_step rfl
theorem s_M_bits_21 : Ev sh 167 21 [a0, a1, a2] st σ Q = Ev sh 167 4 [a0, a1, a2] st σ Q := Ev_step rfl
theorem s_M_bits_24 : Ev sh 167 24 [a0, some (.int x), a2] st σ Q = Ev sh 167 25 [a0, some (.int x), a2] (.int x :: st) σ Q := Ev_step rfl
theorem s_M_bits_25 : Ev sh 167 25 [a0, a1, a2] [.int x] σ Q = Q (some (.int x)) σ := Ev_ret rfl
theorem s_M_isStone_0 : Ev sh 168 0 [a0, some (.int x)] st σ Q = Ev sh 168 1 [a0, some (.int x)] (.int x :: st) σ Q := Ev_step rfl
theorem s_M_isStone_1 : Ev sh 168 1 [a0, a1] (.int x :: st) σ Q = if x < 0 then Ev sh 168 16 [a0, a1] st σ Q else Ev sh 168 4 [a0, a1] st σ Q := Ev_if rfl
theorem s_M_isStone_4 : Ev sh 168 4 [a0, some (.int x)] st σ Q = Ev sh 168 5 [a0, some (.int x)] (.int x :: st) σ Q := Ev_step rfl
theorem s_M_isStone_5 : Ev sh 168 5 [some (.ref i), a1] st σ Q = Ev sh 168 6 [some (.ref i), a1] (.ref i :: st) σ Q := Ev_step rfl
theorem s_M_isStone_6 (h : sh i = 9) : Ev sh 168 6 [a0, a1] (.ref i :: st) σ Q = Ev sh 168 9 [a0, a1] (.int (σ i 7) :: st) σ Q := Ev_h h rfl
theorem s_M_isStone_9 : Ev sh 168 9 [a0, a1] (.int y :: .int x :: st) σ Q = if y ≤ x then Ev sh 168 16 [a0, a1] st σ Q else Ev sh 168 12 [a0, a1] st σ Q := Ev_if rfl
theorem s_M_isStone_12 : Ev sh 168 12 [a0, a1] st σ Q = Ev sh 168 13 [a0, a1] (.int 1 :: st) σ Q := Ev_step rfl
theorem s_M_isStone_13 : Ev sh 168 13 [a0, a1] st σ Q = Ev sh 168 17 [a0, a1] st σ Q := Ev_step rfl
theorem s_M_isStone_16 : Ev sh 168 16 [a0, a1] st σ Q = Ev sh 168 17 [a0, a1] (.int 0 :: st) σ Q := Ev_step rfl
theorem s_M_isStone_17 (h : x = 0 ∨ x = 1) : Ev sh 168 17 [a0, a1] [.int x] σ Q = Q (some (.int x)) σ := Ev_rh h rfl
theorem s_M_isMason_0 : Ev sh 169 0 [some (.int x)] st σ Q = Ev sh 169 1 [some (.int x)] (.int x :: st) σ Q := Ev_step rfl
theorem s_M_isMason_1 : Ev sh 169 1 [a0] (.int x :: st) σ Q = if x = 0 then Ev sh 169 9 [a0] st σ Q else Ev sh 169 4 [a0] st σ Q := Ev_if rfl
theorem s_M_isMason_4 : Ev sh 169 4 [some (.int x)] st σ Q = Ev sh 169 5 [some (.int x)] (.int x :: st) σ Q := Ev_step rfl
theorem s_M_isMason_5 : Ev sh 169 5 [a0] st σ Q = Ev sh 169 6 [a0] (.int 1 :: st) σ Q := Ev_step rfl
theorem s_M_isMason_6 : Ev sh 169 6 [a0] (.int y :: .int x :: st) σ Q = if x ≠ y then Ev sh 169 13 [a0] st σ Q else Ev sh 169 9 [a0] st σ Q := Ev_if rfl
theorem s_M_isMason_9 : Ev sh 169 9 [a0] st σ Q = Ev sh 169 10 [a0] (.int 1 :: st) σ Q := Ev_step rfl
theorem s_M_isMason_10 : Ev sh 169 10 [a0] st σ Q = Ev sh 169 14 [a0] st σ Q := Ev_step rfl
theorem s_M_isMason_13 : Ev sh 169 13 [a0] st σ Q = Ev sh 169 14 [a0] (.int 0 :: st) σ Q := Ev_step rfl
theorem s_M_isMason_14 (h : x = 0 ∨ x = 1) : Ev sh 169 14 [a0] [.int x] σ Q = Q (some (.int x)) σ := Ev_rh h rfl
theorem s_M_letter_0 : Ev sh 170 0 [a0, some (.int x), a2] st σ Q = Ev sh 170 1 [a0, some (.int x), a2] (.int x :: st) σ Q := Ev_step rfl
theorem s_M_letter_1 : Ev sh 170 1 [a0, a1, a2] st σ Q = Ev sh 170 2 [a0, a1, a2] (.int 0 :: st) σ Q := Ev_step rfl
theorem s_M_letter_2 : Ev sh 170 2 [a0, a1, a2] st σ Q = Ev sh 170 5 [a0, a1, a2] (.int 255 :: st) σ Q := Ev_step rfl
theorem s_M_letter_5 : Ev sh 170 5 [a0, a1, a2] [.int x2, .int x1, .int x0] σ Q = Ev sh 164 0 [some (.int x0), some (.int x1), some (.int x2)] [] σ (fun r s => Ev sh 170 8 [a0, a1, a2] (zpush r []) s Q) := Ev_call rfl
theorem s_M_letter_8 : Ev sh 170 8 [a0, a1, a2] (.int x :: st) σ Q = Ev sh 170 9 [a0, zdrop2 a1, some (.int x)] st σ Q := Ev_step rfl
theorem s_M_letter_9 : Ev sh 170 9 [a0, a1, some (.int x)] st σ Q = Ev sh 170 10 [a0, a1, some (.int x)] (.int x :: st) σ Q := Ev_step rfl
theorem s_M_letter_10 : Ev sh 170 10 [a0, a1, a2] (.int x :: st) σ Q = if x ≠ 0 then Ev sh 170 25 [a0, a1, a2] st σ Q else Ev sh 170 13 [a0, a1, a2] st σ Q := Ev_if rfl
theorem s_M_letter_13 : Ev sh 170 13 [some (.ref i), a1, a2] st σ Q = Ev sh 170 14 [some (.ref i), a1, a2] (.ref i :: st) σ Q := Ev_step rfl
theorem s_M_letter_14 (h : sh i = 9) : Ev sh 170 14 [a0, a1, a2] (.ref i :: st) σ Q = Ev sh 170 17 [a0, a1, a2] (.int (σ i 14) :: st) σ Q := Ev_h h rfl
theorem s_M_letter_17 : Ev sh 170 17 [a0, a1, a2] st σ Q = Ev sh 170 19 [a0, a1, a2] (.int 96 :: st) σ Q := Ev_step rfl
theorem s_M_letter_19 : Ev sh 170 19 [a0, a1, a2] (.int y :: .int x :: st) σ Q = if x ≠ y then Ev sh 170 25 [a0, a1, a2] st σ Q else Ev sh 170 22 [a0, a1, a2] st σ Q := Ev_if rfl
theorem s_M_letter_22 : Ev sh 170 22 [a0, a1, a2] st σ Q = Ev sh 170 24 [a0, a1, a2] (.int (-6) :: st) σ Q := Ev_step rfl
theorem s_M_letter_24 : Ev sh 170 24 [a0, a1, a2] (.int x :: st) σ Q = Ev sh 170 25 [a0, zdrop2 a1, some (.int x)] st σ Q := Ev_step rfl
theorem s_M_letter_25 : Ev sh 170 25 [a0, a1, some (.int x)] st σ Q = Ev sh 170 26 [a0, a1, some (.int x)] (.int x :: st) σ Q := Ev_step rfl
theorem s_M_letter_26 : Ev sh 170 26 [a0, a1, a2] (.int x :: st) σ Q = if x = 0 then Ev sh 170 35 [a0, a1, a2] st σ Q else Ev sh 170 29 [a0, a1, a2] st σ Q := Ev_if rfl
theorem s_M_letter_29 : Ev sh 170 29 [some (.ref i), a1, a2] st σ Q = Ev sh 170 30 [some (.ref i), a1, a2] (.ref i :: st) σ Q := Ev_step rfl
theorem s_M_letter_30 : Ev sh 170 30 [a0, a1, some (.int x)] st σ Q = Ev sh 170 31 [a0, a1, some (.int x)] (.int x :: st) σ Q := Ev_step rfl
theorem s_M_letter_31 (h : sh i0 = 9) : Ev sh 170 31 [a0, a1, a2] [.int x1, .ref i0] σ Q = Ev sh 160 0 [some (.ref i0), some (.int x1)] [] σ (fun r s => Ev sh 170 34 [a0, a1, a2] (zpush r []) s Q) := Ev_callh (zrecv_of (by decide) h) rfl
theorem s_M_letter_34 : Ev sh 170 34 [a0, a1, a2] [.int x] σ Q = Q (some (.int x)) σ := Ev_ret rfl
theorem s_M_letter_35 : Ev sh 170 35 [some (.ref i), a1, a2] st σ Q = Ev sh 170 36 [some (.ref i), a1, a2] (.ref i :: st) σ Q := Ev_step rfl
theorem s_M_letter_36 (h : sh i = 9) : Ev sh 170 36 [a0, a1, a2] (.ref i :: st) σ Q = Ev sh 170 39 [a0, a1, a2] (.ref 8 :: st) σ Q := Ev_h h rfl
theorem s_M_letter_39 : Ev sh 170 39 [some (.ref i), a1, a2] st σ Q = Ev sh 170 40 [some (.ref i), a1, a2] (.ref i :: st) σ Q := Ev_step rfl
theorem s_M_letter_40 (h : sh i = 9) : Ev sh 170 40 [a0, a1, a2] (.ref i :: st) σ Q = Ev sh 170 43 [a0, a1, a2] (.int (σ i 14) :: st) σ Q := Ev_h h rfl
theorem s_M_letter_43 : Ev sh 170 43 [a0, some (.int x), a2] st σ Q = Ev sh 170 44 [a0, some (.int x), a2] (.int x :: st) σ Q := Ev_step rfl
theorem s_M_letter_44 (h : zin x (sh i) = true) : Ev sh 170 44 [a0, a1, a2] (.int y :: .int x :: .ref i :: st) σ Q = Ev sh 170 45 [a0, a1, a2] st (zup σ i x.toNatClampNeg y) Q := Ev_h h rfl
theorem s_M_letter_45 : Ev sh 170 45 [some (.ref i), a1, a2] st σ Q = Ev sh 170 46 [some (.ref i), a1, a2] (.ref i :: st) σ Q := Ev_step rfl
theorem s_M_letter_46 : Ev sh 170 46 [a0, a1, a2] (.ref i :: st) σ Q = Ev sh 170 47 [a0, a1, a2] (.ref i :: .ref i :: st) σ Q := Ev_step rfl
theorem s_M_letter_47 (h : sh i = 9) : Ev sh 170 47 [a0, a1, a2] (.ref i :: st) σ Q = Ev sh 170 50 [a0, a1, a2] (.int (σ i 14) :: st) σ Q := Ev_h h rfl
theorem s_M_letter_50 : Ev sh 170 50 [a0, a1, a2] st σ Q = Ev sh 170 51 [a0, a1, a2] (.int 1 :: st) σ Q := Ev_step rfl
theorem s_M_letter_51 : Ev sh 170 51 [a0, a1, a2] (.int y :: .int x :: st) σ Q = Ev sh 170 52 [a0, a1, a2] (.int (x + y) :: st) σ Q := Ev_step rfl
theorem s_M_letter_52 (h : sh i = 9) : Ev sh 170 52 [a0, a1, a2] (.int x :: .ref i :: st) σ Q = Ev sh 170 55 [a0, a1, a2] st (zup σ i 14 x) Q := Ev_h h rfl
theorem s_M_letter_55 : Ev sh 170 55 [some (.ref i), a1, a2] st σ Q = Ev sh 170 56 [some (.ref i), a1, a2] (.ref i :: st) σ Q := Ev_step rfl
theorem s_M_letter_56 (h : sh i = 9) : Ev sh 170 56 [a0, a1, a2] (.ref i :: st) σ Q = Ev sh 170 59 [a0, a1, a2] (.int (σ i 14) :: st) σ Q := Ev_h h rfl
theorem s_M_letter_59 : Ev sh 170 59 [a0, a1, a2] [.int x] σ Q = Q (some (.int x)) σ := Ev_ret rfl
theorem s_M_letterNow_0 : Ev sh 171 0 [some (.ref i)] st σ Q = Ev sh 171 1 [some (.ref i)] (.ref i :: st) σ Q := Ev_step rfl
theorem s_M_letterNow_1 (h : sh i = 9) : Ev sh 171 1 [a0] (.ref i :: st) σ Q = Ev sh 171 4 [a0] (.int (σ i 15) :: st) σ Q := Ev_h h rfl
theorem s_M_letterNow_4 : Ev sh 171 4 [some (.ref i)] st σ Q = Ev sh 171 5 [some (.ref i)] (.ref i :: st) σ Q := Ev_step rfl
theorem s_M_letterNow_5 (h : sh i = 9) : Ev sh 171 5 [a0] (.ref i :: st) σ Q = Ev sh 171 8 [a0] (.int (σ i 14) :: st) σ Q := Ev_h h rfl
theorem s_M_letterNow_8 : Ev sh 171 8 [a0] (.int y :: .int x :: st) σ Q = if y ≤ x then Ev sh 171 23 [a0] st σ Q else Ev sh 171 11 [a0] st σ Q := Ev_if rfl
theorem s_M_letterNow_11 : Ev sh 171 11 [some (.ref i)] st σ Q = Ev sh 171 12 [some (.ref i)] (.ref i :: st) σ Q := Ev_step rfl
theorem s_M_letterNow_12 (h : sh i = 9) : Ev sh 171 12 [a0] (.ref i :: st) σ Q = Ev sh 171 15 [a0] (.ref 8 :: st) σ Q := Ev_h h rfl
theorem s_M_letterNow_15 : Ev sh 171 15 [some (.ref i)] st σ Q = Ev sh 171 16 [some (.ref i)] (.ref i :: st) σ Q := Ev_step rfl
theorem s_M_letterNow_16 (h : sh i = 9) : Ev sh 171 16 [a0] (.ref i :: st) σ Q = Ev sh 171 19 [a0] (.int (σ i 15) :: st) σ Q := Ev_h h rfl
theorem s_M_letterNow_19 (h : zin x (sh i) = true) : Ev sh 171 19 [a0] (.int x :: .ref i :: st) σ Q = Ev sh 171 20 [a0] (.int (σ i x.toNatClampNeg) :: st) σ Q := Ev_h h rfl
theorem s_M_letterNow_20 : Ev sh 171 20 [a0] st σ Q = Ev sh 171 24 [a0] st σ Q := Ev_step rfl
theorem s_M_letterNow_23 : Ev sh 171 23 [a0] st σ Q = Ev sh 171 24 [a0] (.int (-1) :: st) σ Q := Ev_step rfl
theorem s_M_letterNow_24 : Ev sh 171 24 [a0] [.int x] σ Q = Q (some (.int x)) σ := Ev_ret rfl
theorem s_M_readsDigits_0 : Ev sh 172 0 [a0, a1, a2, a3, a4] st σ Q = Ev sh 172 1 [a0, a1, a2, a3, a4] (.int 0 :: st) σ Q := Ev_step rfl
theorem s_M_readsDigits_1 : Ev sh 172 1 [a0, a1, a2, a3, a4] (.int x :: st) σ Q = Ev sh 172 2 [a0, a1, zdrop2 a2, some (.int x), a4] st σ Q := Ev_step rfl
theorem s_M_readsDigits_2 : Ev sh 172 2 [a0, a1, a2, a3, a4] st σ Q = Ev sh 172 3 [a0, a1, a2, a3, a4] (.int 0 :: st) σ Q := Ev_step rfl
theorem s_M_readsDigits_3 : Ev sh 172 3 [a0, a1, a2, a3, a4] (.int x :: st) σ Q = Ev sh 172 5 [a0, a1, a2, zdrop2 a3, some (.int x)] st σ Q := Ev_step rfl
theorem s_M_readsDigits_5 : Ev sh 172 5 [a0, a1, a2, a3, some (.int x)] st σ Q = Ev sh 172 7 [a0, a1, a2, a3, some (.int x)] (.int x :: st) σ Q := Ev_step rfl
theorem s_M_readsDigits_7 : Ev sh 172 7 [a0, a1, some (.int x), a3, a4] st σ Q = Ev sh 172 8 [a0, a1, some (.int x), a3, a4] (.int x :: st) σ Q := Ev_step rfl
theorem s_M_readsDigits_8 : Ev sh 172 8 [a0, a1, a2, a3, a4] (.int y :: .int x :: st) σ Q = if y ≤ x then Ev sh 172 56 [a0, a1, a2, a3, a4] st σ Q else Ev sh 172 11 [a0, a1, a2, a3, a4] st σ Q := Ev_if rfl
theorem s_M_readsDigits_11 : Ev sh 172 11 [some (.ref i), a1, a2, a3, a4] st σ Q = Ev sh 172 12 [some (.ref i), a1, a2, a3, a4] (.ref i :: st) σ Q := Ev_step rfl
theorem s_M_readsDigits_12 (h : sh i0 = 9) : Ev sh 172 12 [a0, a1, a2, a3, a4] [.ref i0] σ Q = Ev sh 171 0 [some (.ref i0)] [] σ (fun r s => Ev sh 172 15 [a0, a1, a2, a3, a4] (zpush r []) s Q) := Ev_callh (zrecv_of (by decide) h) rfl
theorem s_M_readsDigits_15 : Ev sh 172 15 [a0, a1, a2, a3, a4] st σ Q = Ev sh 172 17 [a0, a1, a2, a3, a4] (.int 48 :: st) σ Q := Ev_step rfl
theorem s_M_readsDigits_17 : Ev sh 172 17 [a0, a1, a2, a3, a4] st σ Q = Ev sh 172 19 [a0, a1, a2, a3, a4] (.int 57 :: st) σ Q := Ev_step rfl
theorem s_M_readsDigits_19 : Ev sh 172 19 [a0, a1, a2, a3, a4] [.int x2, .int x1, .int x0] σ Q = Ev sh 163 0 [some (.int x0), some (.int x1), some (.int x2)] [] σ (fun r s => Ev sh 172 22 [a0, a1, a2, a3, a4] (zpush r []) s Q) := Ev_call rfl
theorem s_M_readsDigits_22 : Ev sh 172 22 [a0, a1, a2, a3, a4] (.int x :: st) σ Q = if x ≠ 0 then Ev sh 172 27 [a0, a1, a2, a3, a4] st σ Q else Ev sh 172 25 [a0, a1, a2, a3, a4] st σ Q := Ev_if rfl
theorem s_M_readsDigits_25 : Ev sh 172 25 [a0, a1, a2, a3, a4] st σ Q = Ev sh 172 26 [a0, a1, a2, a3, a4] (.int 0 :: st) σ Q := Ev_step rfl
theorem s_M_readsDigits_26 (h : x = 0 ∨ x = 1) : Ev sh 172 26 [a0, a1, a2, a3, a4] [.int x] σ Q = Q (some (.int x)) σ := Ev_rh h rfl
theorem s_M_readsDigits_27 : Ev sh 172 27 [a0, a1, a2, a3, a4] st σ Q = Ev sh 172 29 [a0, a1, a2, a3, a4] (.int 10 :: st) σ Q := Ev_step rfl
theorem s_M_readsDigits_29 : Ev sh 172 29 [a0, a1, a2, some (.int x), a4] st σ Q = Ev sh 172 30 [a0, a1, a2, some (.int x), a4] (.int x :: st) σ Q := Ev_step rfl
theorem s_M_readsDigits_30 : Ev sh 172 30 [a0, a1, a2, a3, a4] (.int y :: .int x :: st) σ Q = Ev sh 172 31 [a0, a1, a2, a3, a4] (.int (x * y) :: st) σ Q := Ev_step rfl
theorem s_M_readsDigits_31 : Ev sh 172 31 [some (.ref i), a1, a2, a3, a4] st σ Q = Ev sh 172 32 [some (.ref i), a1, a2, a3, a4] (.ref i :: st) σ Q := Ev_step rfl
theorem s_M_readsDigits_32 (h : sh i1 = 9) : Ev sh 172 32 [a0, a1, a2, a3, a4] [.ref i1, .int x0] σ Q = Ev sh 171 0 [some (.ref i1)] [] σ (fun r s => Ev sh 172 35 [a0, a1, a2, a3, a4] (zpush r [.int x0]) s Q) := Ev_callh (zrecv_of (by decide) h) rfl
theorem s_M_readsDigits_35 : Ev sh 172 35 [a0, a1, a2, a3, a4] (.int y :: .int x :: st) σ Q = Ev sh 172 36 [a0, a1, a2, a3, a4] (.int (x + y) :: st) σ Q := Ev_step rfl
theorem s_M_readsDigits_36 : Ev sh 172 36 [a0, a1, a2, a3, a4] st σ Q = Ev sh 172 38 [a0, a1, a2, a3, a4] (.int 48 :: st) σ Q := Ev_step rfl
theorem s_M_readsDigits_38 : Ev sh 172 38 [a0, a1, a2, a3, a4] (.int y :: .int x :: st) σ Q = Ev sh 172 39 [a0, a1, a2, a3, a4] (.int (x - y) :: st) σ Q := Ev_step rfl
theorem s_M_readsDigits_39 : Ev sh 172 39 [a0, a1, a2, a3, a4] (.int x :: st) σ Q = Ev sh 172 40 [a0, a1, zdrop2 a2, some (.int x), a4] st σ Q := Ev_step rfl
theorem s_M_readsDigits_40 : Ev sh 172 40 [some (.ref i), a1, a2, a3, a4] st σ Q = Ev sh 172 41 [some (.ref i), a1, a2, a3, a4] (.ref i :: st) σ Q := Ev_step rfl
theorem s_M_readsDigits_41 : Ev sh 172 41 [a0, a1, a2, a3, a4] (.ref i :: st) σ Q = Ev sh 172 42 [a0, a1, a2, a3, a4] (.ref i :: .ref i :: st) σ Q := Ev_step rfl
theorem s_M_readsDigits_42 (h : sh i = 9) : Ev sh 172 42 [a0, a1, a2, a3, a4] (.ref i :: st) σ Q = Ev sh 172 45 [a0, a1, a2, a3, a4] (.int (σ i 15) :: st) σ Q := Ev_h h rfl
theorem s_M_readsDigits_45 : Ev sh 172 45 [a0, a1, a2, a3, a4] st σ Q = Ev sh 172 46 [a0, a1, a2, a3, a4] (.int 1 :: st) σ Q := Ev_step rfl
theorem s_M_readsDigits_46 : Ev sh 172 46 [a0, a1, a2, a3, a4] (.int y :: .int x :: st) σ Q = Ev sh 172 47 [a0, a1, a2, a3, a4] (.int (x + y) :: st) σ Q := Ev_step rfl
theorem s_M_readsDigits_47 (h : sh i = 9) : Ev sh 172 47 [a0, a1, a2, a3, a4] (.int x :: .ref i :: st) σ Q = Ev sh 172 50 [a0, a1, a2, a3, a4] st (zup σ i 15 x) Q := Ev_h h rfl
theorem s_M_readsDigits_50 : Ev sh 172 50 [a0, a1, a2, a3, some (.int x)] st σ Q = Ev sh 172 53 [a0, a1, a2, a3, some (.int (x + 1))] st σ Q := Ev_step rfl
theorem s_M_readsDigits_53 : Ev sh 172 53 [a0, a1, a2, a3, a4] st σ Q = Ev sh 172 5 [a0, a1, a2, a3, a4] st σ Q := Ev_step rfl
theorem s_M_readsDigits_56 : Ev sh 172 56 [some (.ref i), a1, a2, a3, a4] st σ Q = Ev sh 172 57 [some (.ref i), a1, a2, a3, a4] (.ref i :: st) σ Q := Ev_step rfl
theorem s_M_readsDigits_57 (h : sh i = 9) : Ev sh 172 57 [a0, a1, a2, a3, a4] (.ref i :: st) σ Q = Ev sh 172 60 [a0, a1, a2, a3, a4] (.ref 11 :: st) σ Q := Ev_h h rfl
theorem s_M_readsDigits_60 : Ev sh 172 60 [a0, some (.int x), a2, a3, a4] st σ Q = Ev sh 172 61 [a0, some (.int x), a2, a3, a4] (.int x :: st) σ Q := Ev_step rfl
theorem s_M_readsDigits_61 : Ev sh 172 61 [a0, a1, a2, some (.int x), a4] st σ Q = Ev sh 172 62 [a0, a1, a2, some (.int x), a4] (.int x :: st) σ Q := Ev_step rfl
theorem s_M_readsDigits_62 (h : zin x (sh i) = true) : Ev sh 172 62 [a0, a1, a2, a3, a4] (.int y :: .int x :: .ref i :: st) σ Q = Ev sh 172 63 [a0, a1, a2, a3, a4] st (zup σ i x.toNatClampNeg y) Q := Ev_h h rfl
theorem s_M_readsDigits_63 : Ev sh 172 63 [a0, a1, a2, a3, a4] st σ Q = Ev sh 172 64 [a0, a1, a2, a3, a4] (.int 1 :: st) σ Q := Ev_step rfl
theorem s_M_readsDigits_64 (h : x = 0 ∨ x = 1) : Ev sh 172 64 [a0, a1, a2, a3, a4] [.int x] σ Q = Q (some (.int x)) σ := Ev_rh h rfl
theorem s_M_kindOf_0 : Ev sh 173 0 [some (.int x)] st σ Q = Ev sh 173 1 [some (.int x)] (.int x :: st) σ Q := Ev_step rfl
theorem s_M_kindOf_1 : Ev sh 173 1 [a0] st σ Q = Ev sh 173 3 [a0] (.int 112 :: st) σ Q := Ev_step rfl
theorem s_M_kindOf_3 : Ev sh 173 3 [a0] (.int y :: .int x :: st) σ Q = if x ≠ y then Ev sh 173 10 [a0] st σ Q else Ev sh 173 6 [a0] st σ Q := Ev_if rfl
theorem s_M_kindOf_6 : Ev sh 173 6 [a0] st σ Q = Ev sh 173 7 [a0] (.int 0 :: st) σ Q := Ev_step rfl
theorem s_M_kindOf_7 : Ev sh 173 7 [a0] st σ Q = Ev sh 173 61 [a0] st σ Q := Ev_step rfl
theorem s_M_kindOf_10 : Ev sh 173 10 [some (.int x)] st σ Q = Ev sh 173 11 [some (.int x)] (.int x :: st) σ Q := Ev_step rfl
theorem s_M_kindOf_11 : Ev sh 173 11 [a0] st σ Q = Ev sh 173 13 [a0] (.int 101 :: st) σ Q := Ev_step rfl
theorem s_M_kindOf_13 : Ev sh 173 13 [a0] (.int y :: .int x :: st) σ Q = if x ≠ y then Ev sh 173 20 [a0] st σ Q else Ev sh 173 16 [a0] st σ Q := Ev_if rfl
theorem s_M_kindOf_16 : Ev sh 173 16 [a0] st σ Q = Ev sh 173 17 [a0] (.int 1 :: st) σ Q := Ev_step rfl
theorem s_M_kindOf_17 : Ev sh 173 17 [a0] st σ Q = Ev sh 173 61 [a0] st σ Q := Ev_step rfl
theorem s_M_kindOf_20 : Ev sh 173 20 [some (.int x)] st σ Q = Ev sh 173 21 [some (.int x)] (.int x :: st) σ Q := Ev_step rfl
theorem s_M_kindOf_21 : Ev sh 173 21 [a0] st σ Q = Ev sh 173 23 [a0] (.int 119 :: st) σ Q := Ev_step rfl
theorem s_M_kindOf_23 : Ev sh 173 23 [a0] (.int y :: .int x :: st) σ Q = if x ≠ y then Ev sh 173 30 [a0] st σ Q else Ev sh 173 26 [a0] st σ Q := Ev_if rfl
theorem s_M_kindOf_26 : Ev sh 173 26 [a0] st σ Q = Ev sh 173 27 [a0] (.int 2 :: st) σ Q := Ev_step rfl
theorem s_M_kindOf_27 : Ev sh 173 27 [a0] st σ Q = Ev sh 173 61 [a0] st σ Q := Ev_step rfl
theorem s_M_kindOf_30 : Ev sh 173 30 [some (.int x)] st σ Q = Ev sh 173 31 [some (.int x)] (.int x :: st) σ Q := Ev_step rfl
theorem s_M_kindOf_31 : Ev sh 173 31 [a0] st σ Q = Ev sh 173 33 [a0] (.int 104 :: st) σ Q := Ev_step rfl
theorem s_M_kindOf_33 : Ev sh 173 33 [a0] (.int y :: .int x :: st) σ Q = if x ≠ y then Ev sh 173 40 [a0] st σ Q else Ev sh 173 36 [a0] st σ Q := Ev_if rfl
theorem s_M_kindOf_36 : Ev sh 173 36 [a0] st σ Q = Ev sh 173 37 [a0] (.int 3 :: st) σ Q := Ev_step rfl
theorem s_M_kindOf_37 : Ev sh 173 37 [a0] st σ Q = Ev sh 173 61 [a0] st σ Q := Ev_step rfl
theorem s_M_kindOf_40 : Ev sh 173 40 [some (.int x)] st σ Q = Ev sh 173 41 [some (.int x)] (.int x :: st) σ Q := Ev_step rfl
theorem s_M_kindOf_41 : Ev sh 173 41 [a0] st σ Q = Ev sh 173 43 [a0] (.int 107 :: st) σ Q := Ev_step rfl
theorem s_M_kindOf_43 : Ev sh 173 43 [a0] (.int y :: .int x :: st) σ Q = if x ≠ y then Ev sh 173 50 [a0] st σ Q else Ev sh 173 46 [a0] st σ Q := Ev_if rfl
theorem s_M_kindOf_46 : Ev sh 173 46 [a0] st σ Q = Ev sh 173 47 [a0] (.int 4 :: st) σ Q := Ev_step rfl
theorem s_M_kindOf_47 : Ev sh 173 47 [a0] st σ Q = Ev sh 173 61 [a0] st σ Q := Ev_step rfl
theorem s_M_kindOf_50 : Ev sh 173 50 [some (.int x)] st σ Q = Ev sh 173 51 [some (.int x)] (.int x :: st) σ Q := Ev_step rfl
theorem s_M_kindOf_51 : Ev sh 173 51 [a0] st σ Q = Ev sh 173 53 [a0] (.int 114 :: st) σ Q := Ev_step rfl
theorem s_M_kindOf_53 : Ev sh 173 53 [a0] (.int y :: .int x :: st) σ Q = if x ≠ y then Ev sh 173 60 [a0] st σ Q else Ev sh 173 56 [a0] st σ Q := Ev_if rfl
theorem s_M_kindOf_56 : Ev sh 173 56 [a0] st σ Q = Ev sh 173 57 [a0] (.int 5 :: st) σ Q := Ev_step rfl
theorem s_M_kindOf_57 : Ev sh 173 57 [a0] st σ Q = Ev sh 173 61 [a0] st σ Q := Ev_step rfl
theorem s_M_kindOf_60 : Ev sh 173 60 [a0] st σ Q = Ev sh 173 61 [a0] (.int (-1) :: st) σ Q := Ev_step rfl
theorem s_M_kindOf_61 : Ev sh 173 61 [a0] [.int x] σ Q = Q (some (.int x)) σ := Ev_ret rfl
theorem s_M_readsKind_0 : Ev sh 174 0 [some (.ref i), a1] st σ Q = Ev sh 174 1 [some (.ref i), a1] (.ref i :: st) σ Q := Ev_step rfl
theorem s_M_readsKind_1 (h : sh i = 9) : Ev sh 174 1 [a0, a1] (.ref i :: st) σ Q = Ev sh 174 4 [a0, a1] (.ref 11 :: st) σ Q := Ev_h h rfl
theorem s_M_readsKind_4 : Ev sh 174 4 [a0, some (.int x)] st σ Q = Ev sh 174 5 [a0, some (.int x)] (.int x :: st) σ Q := Ev_step rfl
theorem s_M_readsKind_5 : Ev sh 174 5 [some (.ref i), a1] st σ Q = Ev sh 174 6 [some (.ref i), a1] (.ref i :: st) σ Q := Ev_step rfl
theorem s_M_readsKind_6 (h : sh i2 = 9) : Ev sh 174 6 [a0, a1] [.ref i2, .int x1, .ref i0] σ Q = Ev sh 171 0 [some (.ref i2)] [] σ (fun r s => Ev sh 174 9 [a0, a1] (zpush r [.int x1, .ref i0]) s Q) := Ev_callh (zrecv_of (by decide) h) rfl
theorem s_M_readsKind_9 : Ev sh 174 9 [a0, a1] [.int x2, .int x1, .ref i0] σ Q = Ev sh 173 0 [some (.int x2)] [] σ (fun r s => Ev sh 174 12 [a0, a1] (zpush r [.int x1, .ref i0]) s Q) := Ev_call rfl
theorem s_M_readsKind_12 (h : zin x (sh i) = true) : Ev sh 174 12 [a0, a1] (.int y :: .int x :: .ref i :: st) σ Q = Ev sh 174 13 [a0, a1] st (zup σ i x.toNatClampNeg y) Q := Ev_h h rfl
theorem s_M_readsKind_13 : Ev sh 174 13 [some (.ref i), a1] st σ Q = Ev sh 174 14 [some (.ref i), a1] (.ref i :: st) σ Q := Ev_step rfl
theorem s_M_readsKind_14 (h : sh i = 9) : Ev sh 174 14 [a0, a1] (.ref i :: st) σ Q = Ev sh 174 17 [a0, a1] (.ref 11 :: st) σ Q := Ev_h h rfl
theorem s_M_readsKind_17 : Ev sh 174 17 [a0, some (.int x)] st σ Q = Ev sh 174 18 [a0, some (.int x)] (.int x :: st) σ Q := Ev_step rfl
theorem s_M_readsKind_18 (h : zin x (sh i) = true) : Ev sh 174 18 [a0, a1] (.int x :: .ref i :: st) σ Q = Ev sh 174 19 [a0, a1] (.int (σ i x.toNatClampNeg) :: st) σ Q := Ev_h h rfl
theorem s_M_readsKind_19 : Ev sh 174 19 [a0, a1] (.int x :: st) σ Q = if 0 ≤ x then Ev sh 174 24 [a0, a1] st σ Q else Ev sh 174 22 [a0, a1] st σ Q := Ev_if rfl
theorem s_M_readsKind_22 : Ev sh 174 22 [a0, a1] st σ Q = Ev sh 174 23 [a0, a1] (.int 0 :: st) σ Q := Ev_step rfl
theorem s_M_readsKind_23 (h : x = 0 ∨ x = 1) : Ev sh 174 23 [a0, a1] [.int x] σ Q = Q (some (.int x)) σ := Ev_rh h rfl
theorem s_M_readsKind_24 : Ev sh 174 24 [some (.ref i), a1] st σ Q = Ev sh 174 25 [some (.ref i), a1] (.ref i :: st) σ Q := Ev_step rfl
theorem s_M_readsKind_25 : Ev sh 174 25 [a0, a1] (.ref i :: st) σ Q = Ev sh 174 26 [a0, a1] (.ref i :: .ref i :: st) σ Q := Ev_step rfl
theorem s_M_readsKind_26 (h : sh i = 9) : Ev sh 174 26 [a0, a1] (.ref i :: st) σ Q = Ev sh 174 29 [a0, a1] (.int (σ i 15) :: st) σ Q := Ev_h h rfl
theorem s_M_readsKind_29 : Ev sh 174 29 [a0, a1] st σ Q = Ev sh 174 30 [a0, a1] (.int 1 :: st) σ Q := Ev_step rfl
theorem s_M_readsKind_30 : Ev sh 174 30 [a0, a1] (.int y :: .int x :: st) σ Q = Ev sh 174 31 [a0, a1] (.int (x + y) :: st) σ Q := Ev_step rfl
theorem s_M_readsKind_31 (h : sh i = 9) : Ev sh 174 31 [a0, a1] (.int x :: .ref i :: st) σ Q = Ev sh 174 34 [a0, a1] st (zup σ i 15 x) Q := Ev_h h rfl
theorem s_M_readsKind_34 : Ev sh 174 34 [a0, a1] st σ Q = Ev sh 174 35 [a0, a1] (.int 1 :: st) σ Q := Ev_step rfl
theorem s_M_readsKind_35 (h : x = 0 ∨ x = 1) : Ev sh 174 35 [a0, a1] [.int x] σ Q = Q (some (.int x)) σ := Ev_rh h rfl
theorem s_M_readsAll_0 : Ev sh 175 0 [a0, some (.int x), a2] st σ Q = Ev sh 175 1 [a0, some (.int x), a2] (.int x :: st) σ Q := Ev_step rfl
theorem s_M_readsAll_1 : Ev sh 175 1 [a0, a1, a2] (.int x :: st) σ Q = if x = 99 then Ev sh 175 80 [a0, a1, a2] st σ Q else if x = 109 then Ev sh 175 116 [a0, a1, a2] st σ Q else if x = 115 then Ev sh 175 44 [a0, a1, a2] st σ Q else if x = 117 then Ev sh 175 163 [a0, a1, a2] st σ Q else Ev sh 175 170 [a0, a1, a2] st σ Q := (Ev_step (pc' := zsw x 170 [(99, 80), (109, 116), (115, 44), (117, 163)]) rfl).trans (by rw [Ev_swc, Ev_swc, Ev_swc, Ev_swc]; rfl)
theorem s_M_readsAll_44 : Ev sh 175 44 [some (.ref i), a1, a2] st σ Q = Ev sh 175 45 [some (.ref i), a1, a2] (.ref i :: st) σ Q := Ev_step rfl
theorem s_M_readsAll_45 : Ev sh 175 45 [a0, a1, some (.int x)] st σ Q = Ev sh 175 46 [a0, a1, some (.int x)] (.int x :: st) σ Q := Ev_step rfl
theorem s_M_readsAll_46 (h : sh i0 = 9) : Ev sh 175 46 [a0, a1, a2] [.int x1, .ref i0] σ Q = Ev sh 174 0 [some (.ref i0), some (.int x1)] [] σ (fun r s => Ev sh 175 49 [a0, a1, a2] (zpush r []) s Q) := Ev_callh (zrecv_of (by decide) h) rfl
theorem s_M_readsAll_49 : Ev sh 175 49 [a0, a1, a2] (.int x :: st) σ Q = if x = 0 then Ev sh 175 78 [a0, a1, a2] st σ Q else Ev sh 175 52 [a0, a1, a2] st σ Q := Ev_if rfl
theorem s_M_readsAll_52 : Ev sh 175 52 [some (.ref i), a1, a2] st σ Q = Ev sh 175 53 [some (.ref i), a1, a2] (.ref i :: st) σ Q := Ev_step rfl
theorem s_M_readsAll_53 : Ev sh 175 53 [a0, a1, some (.int x)] st σ Q = Ev sh 175 54 [a0, a1, some (.int x)] (.int x :: st) σ Q := Ev_step rfl
theorem s_M_readsAll_54 : Ev sh 175 54 [a0, a1, a2] st σ Q = Ev sh 175 55 [a0, a1, a2] (.int 1 :: st) σ Q := Ev_step rfl
theorem s_M_readsAll_55 : Ev sh 175 55 [a0, a1, a2] (.int y :: .int x :: st) σ Q = Ev sh 175 56 [a0, a1, a2] (.int (x + y) :: st) σ Q := Ev_step rfl
theorem s_M_readsAll_56 : Ev sh 175 56 [a0, a1, a2] st σ Q = Ev sh 175 57 [a0, a1, a2] (.int 1 :: st) σ Q := Ev_step rfl
theorem s_M_readsAll_57 (h : sh i0 = 9) : Ev sh 175 57 [a0, a1, a2] [.int x2, .int x1, .ref i0] σ Q = Ev sh 172 0 [some (.ref i0), some (.int x1), some (.int x2), none, none] [] σ (fun r s => Ev sh 175 60 [a0, a1, a2] (zpush r []) s Q) := Ev_callh (zrecv_of (by decide) h) rfl
theorem s_M_readsAll_60 : Ev sh 175 60 [a0, a1, a2] (.int x :: st) σ Q = if x = 0 then Ev sh 175 78 [a0, a1, a2] st σ Q else Ev sh 175 63 [a0, a1, a2] st σ Q := Ev_if rfl
theorem s_M_readsAll_63 : Ev sh 175 63 [some (.ref i), a1, a2] st σ Q = Ev sh 175 64 [some (.ref i), a1, a2] (.ref i :: st) σ Q := Ev_step rfl
theorem s_M_readsAll_64 : Ev sh 175 64 [a0, a1, some (.int x)] st σ Q = Ev sh 175 65 [a0, a1, some (.int x)] (.int x :: st) σ Q := Ev_step rfl
theorem s_M_readsAll_65 : Ev sh 175 65 [a0, a1, a2] st σ Q = Ev sh 175 66 [a0, a1, a2] (.int 2 :: st) σ Q := Ev_step rfl
theorem s_M_readsAll_66 : Ev sh 175 66 [a0, a1, a2] (.int y :: .int x :: st) σ Q = Ev sh 175 67 [a0, a1, a2] (.int (x + y) :: st) σ Q := Ev_step rfl
theorem s_M_readsAll_67 : Ev sh 175 67 [a0, a1, a2] st σ Q = Ev sh 175 68 [a0, a1, a2] (.int 1 :: st) σ Q := Ev_step rfl
theorem s_M_readsAll_68 (h : sh i0 = 9) : Ev sh 175 68 [a0, a1, a2] [.int x2, .int x1, .ref i0] σ Q = Ev sh 172 0 [some (.ref i0), some (.int x1), some (.int x2), none, none] [] σ (fun r s => Ev sh 175 71 [a0, a1, a2] (zpush r []) s Q) := Ev_callh (zrecv_of (by decide) h) rfl
theorem s_M_readsAll_71 : Ev sh 175 71 [a0, a1, a2] (.int x :: st) σ Q = if x = 0 then Ev sh 175 78 [a0, a1, a2] st σ Q else Ev sh 175 74 [a0, a1, a2] st σ Q := Ev_if rfl
theorem s_M_readsAll_74 : Ev sh 175 74 [a0, a1, a2] st σ Q = Ev sh 175 75 [a0, a1, a2] (.int 1 :: st) σ Q := Ev_step rfl
theorem s_M_readsAll_75 : Ev sh 175 75 [a0, a1, a2] st σ Q = Ev sh 175 79 [a0, a1, a2] st σ Q := Ev_step rfl
theorem s_M_readsAll_78 : Ev sh 175 78 [a0, a1, a2] st σ Q = Ev sh 175 79 [a0, a1, a2] (.int 0 :: st) σ Q := Ev_step rfl
theorem s_M_readsAll_79 (h : x = 0 ∨ x = 1) : Ev sh 175 79 [a0, a1, a2] [.int x] σ Q = Q (some (.int x)) σ := Ev_rh h rfl
theorem s_M_readsAll_80 : Ev sh 175 80 [some (.ref i), a1, a2] st σ Q = Ev sh 175 81 [some (.ref i), a1, a2] (.ref i :: st) σ Q := Ev_step rfl
theorem s_M_readsAll_81 : Ev sh 175 81 [a0, a1, some (.int x)] st σ Q = Ev sh 175 82 [a0, a1, some (.int x)] (.int x :: st) σ Q := Ev_step rfl
theorem s_M_readsAll_82 : Ev sh 175 82 [a0, a1, a2] st σ Q = Ev sh 175 83 [a0, a1, a2] (.int 1 :: st) σ Q := Ev_step rfl
theorem s_M_readsAll_83 (h : sh i0 = 9) : Ev sh 175 83 [a0, a1, a2] [.int x2, .int x1, .ref i0] σ Q = Ev sh 172 0 [some (.ref i0), some (.int x1), some (.int x2), none, none] [] σ (fun r s => Ev sh 175 86 [a0, a1, a2] (zpush r []) s Q) := Ev_callh (zrecv_of (by decide) h) rfl
theorem s_M_readsAll_86 : Ev sh 175 86 [a0, a1, a2] (.int x :: st) σ Q = if x = 0 then Ev sh 175 114 [a0, a1, a2] st σ Q else Ev sh 175 89 [a0, a1, a2] st σ Q := Ev_if rfl
theorem s_M_readsAll_89 : Ev sh 175 89 [some (.ref i), a1, a2] st σ Q = Ev sh 175 90 [some (.ref i), a1, a2] (.ref i :: st) σ Q := Ev_step rfl
theorem s_M_readsAll_90 : Ev sh 175 90 [a0, a1, some (.int x)] st σ Q = Ev sh 175 91 [a0, a1, some (.int x)] (.int x :: st) σ Q := Ev_step rfl
theorem s_M_readsAll_91 : Ev sh 175 91 [a0, a1, a2] st σ Q = Ev sh 175 92 [a0, a1, a2] (.int 1 :: st) σ Q := Ev_step rfl
theorem s_M_readsAll_92 : Ev sh 175 92 [a0, a1, a2] (.int y :: .int x :: st) σ Q = Ev sh 175 93 [a0, a1, a2] (.int (x + y) :: st) σ Q := Ev_step rfl
theorem s_M_readsAll_93 (h : sh i0 = 9) : Ev sh 175 93 [a0, a1, a2] [.int x1, .ref i0] σ Q = Ev sh 174 0 [some (.ref i0), some (.int x1)] [] σ (fun r s => Ev sh 175 96 [a0, a1, a2] (zpush r []) s Q) := Ev_callh (zrecv_of (by decide) h) rfl
theorem s_M_readsAll_96 : Ev sh 175 96 [a0, a1, a2] (.int x :: st) σ Q = if x = 0 then Ev sh 175 114 [a0, a1, a2] st σ Q else Ev sh 175 99 [a0, a1, a2] st σ Q := Ev_if rfl
theorem s_M_readsAll_99 : Ev sh 175 99 [some (.ref i), a1, a2] st σ Q = Ev sh 175 100 [some (.ref i), a1, a2] (.ref i :: st) σ Q := Ev_step rfl
theorem s_M_readsAll_100 : Ev sh 175 100 [a0, a1, some (.int x)] st σ Q = Ev sh 175 101 [a0, a1, some (.int x)] (.int x :: st) σ Q := Ev_step rfl
theorem s_M_readsAll_101 : Ev sh 175 101 [a0, a1, a2] st σ Q = Ev sh 175 102 [a0, a1, a2] (.int 2 :: st) σ Q := Ev_step rfl
theorem s_M_readsAll_102 : Ev sh 175 102 [a0, a1, a2] (.int y :: .int x :: st) σ Q = Ev sh 175 103 [a0, a1, a2] (.int (x + y) :: st) σ Q := Ev_step rfl
theorem s_M_readsAll_103 : Ev sh 175 103 [a0, a1, a2] st σ Q = Ev sh 175 104 [a0, a1, a2] (.int 1 :: st) σ Q := Ev_step rfl
theorem s_M_readsAll_104 (h : sh i0 = 9) : Ev sh 175 104 [a0, a1, a2] [.int x2, .int x1, .ref i0] σ Q = Ev sh 172 0 [some (.ref i0), some (.int x1), some (.int x2), none, none] [] σ (fun r s => Ev sh 175 107 [a0, a1, a2] (zpush r []) s Q) := Ev_callh (zrecv_of (by decide) h) rfl
theorem s_M_readsAll_107 : Ev sh 175 107 [a0, a1, a2] (.int x :: st) σ Q = if x = 0 then Ev sh 175 114 [a0, a1, a2] st σ Q else Ev sh 175 110 [a0, a1, a2] st σ Q := Ev_if rfl
theorem s_M_readsAll_110 : Ev sh 175 110 [a0, a1, a2] st σ Q = Ev sh 175 111 [a0, a1, a2] (.int 1 :: st) σ Q := Ev_step rfl
theorem s_M_readsAll_111 : Ev sh 175 111 [a0, a1, a2] st σ Q = Ev sh 175 115 [a0, a1, a2] st σ Q := Ev_step rfl
theorem s_M_readsAll_114 : Ev sh 175 114 [a0, a1, a2] st σ Q = Ev sh 175 115 [a0, a1, a2] (.int 0 :: st) σ Q := Ev_step rfl
theorem s_M_readsAll_115 (h : x = 0 ∨ x = 1) : Ev sh 175 115 [a0, a1, a2] [.int x] σ Q = Q (some (.int x)) σ := Ev_rh h rfl
theorem s_M_readsAll_116 : Ev sh 175 116 [some (.ref i), a1, a2] st σ Q = Ev sh 175 117 [some (.ref i), a1, a2] (.ref i :: st) σ Q := Ev_step rfl
theorem s_M_readsAll_117 : Ev sh 175 117 [a0, a1, some (.int x)] st σ Q = Ev sh 175 118 [a0, a1, some (.int x)] (.int x :: st) σ Q := Ev_step rfl
theorem s_M_readsAll_118 : Ev sh 175 118 [a0, a1, a2] st σ Q = Ev sh 175 119 [a0, a1, a2] (.int 1 :: st) σ Q := Ev_step rfl
theorem s_M_readsAll_119 (h : sh i0 = 9) : Ev sh 175 119 [a0, a1, a2] [.int x2, .int x1, .ref i0] σ Q = Ev sh 172 0 [some (.ref i0), some (.int x1), some (.int x2), none, none] [] σ (fun r s => Ev sh 175 122 [a0, a1, a2] (zpush r []) s Q) := Ev_callh (zrecv_of (by decide) h) rfl
theorem s_M_readsAll_122 : Ev sh 175 122 [a0, a1, a2] (.int x :: st) σ Q = if x = 0 then Ev sh 175 161 [a0, a1, a2] st σ Q else Ev sh 175 125 [a0, a1, a2] st σ Q := Ev_if rfl
theorem s_M_readsAll_125 : Ev sh 175 125 [some (.ref i), a1, a2] st σ Q = Ev sh 175 126 [some (.ref i), a1, a2] (.ref i :: st) σ Q := Ev_step rfl
theorem s_M_readsAll_126 : Ev sh 175 126 [a0, a1, some (.int x)] st σ Q = Ev sh 175 127 [a0, a1, some (.int x)] (.int x :: st) σ Q := Ev_step rfl
theorem s_M_readsAll_127 : Ev sh 175 127 [a0, a1, a2] st σ Q = Ev sh 175 128 [a0, a1, a2] (.int 1 :: st) σ Q := Ev_step rfl
theorem s_M_readsAll_128 : Ev sh 175 128 [a0, a1, a2] (.int y :: .int x :: st) σ Q = Ev sh 175 129 [a0, a1, a2] (.int (x + y) :: st) σ Q := Ev_step rfl
theorem s_M_readsAll_129 (h : sh i0 = 9) : Ev sh 175 129 [a0, a1, a2] [.int x1, .ref i0] σ Q = Ev sh 174 0 [some (.ref i0), some (.int x1)] [] σ (fun r s => Ev sh 175 132 [a0, a1, a2] (zpush r []) s Q) := Ev_callh (zrecv_of (by decide) h) rfl
theorem s_M_readsAll_132 : Ev sh 175 132 [a0, a1, a2] (.int x :: st) σ Q = if x = 0 then Ev sh 175 161 [a0, a1, a2] st σ Q else Ev sh 175 135 [a0, a1, a2] st σ Q := Ev_if rfl
theorem s_M_readsAll_135 : Ev sh 175 135 [some (.ref i), a1, a2] st σ Q = Ev sh 175 136 [some (.ref i), a1, a2] (.ref i :: st) σ Q := Ev_step rfl
theorem s_M_readsAll_136 : Ev sh 175 136 [a0, a1, some (.int x)] st σ Q = Ev sh 175 137 [a0, a1, some (.int x)] (.int x :: st) σ Q := Ev_step rfl
theorem s_M_readsAll_137 : Ev sh 175 137 [a0, a1, a2] st σ Q = Ev sh 175 138 [a0, a1, a2] (.int 2 :: st) σ Q := Ev_step rfl
theorem s_M_readsAll_138 : Ev sh 175 138 [a0, a1, a2] (.int y :: .int x :: st) σ Q = Ev sh 175 139 [a0, a1, a2] (.int (x + y) :: st) σ Q := Ev_step rfl
theorem s_M_readsAll_139 : Ev sh 175 139 [a0, a1, a2] st σ Q = Ev sh 175 140 [a0, a1, a2] (.int 1 :: st) σ Q := Ev_step rfl
theorem s_M_readsAll_140 (h : sh i0 = 9) : Ev sh 175 140 [a0, a1, a2] [.int x2, .int x1, .ref i0] σ Q = Ev sh 172 0 [some (.ref i0), some (.int x1), some (.int x2), none, none] [] σ (fun r s => Ev sh 175 143 [a0, a1, a2] (zpush r []) s Q) := Ev_callh (zrecv_of (by decide) h) rfl
theorem s_M_readsAll_143 : Ev sh 175 143 [a0, a1, a2] (.int x :: st) σ Q = if x = 0 then Ev sh 175 161 [a0, a1, a2] st σ Q else Ev sh 175 146 [a0, a1, a2] st σ Q := Ev_if rfl
theorem s_M_readsAll_146 : Ev sh 175 146 [some (.ref i), a1, a2] st σ Q = Ev sh 175 147 [some (.ref i), a1, a2] (.ref i :: st) σ Q := Ev_step rfl
theorem s_M_readsAll_147 : Ev sh 175 147 [a0, a1, some (.int x)] st σ Q = Ev sh 175 148 [a0, a1, some (.int x)] (.int x :: st) σ Q := Ev_step rfl
theorem s_M_readsAll_148 : Ev sh 175 148 [a0, a1, a2] st σ Q = Ev sh 175 149 [a0, a1, a2] (.int 3 :: st) σ Q := Ev_step rfl
theorem s_M_readsAll_149 : Ev sh 175 149 [a0, a1, a2] (.int y :: .int x :: st) σ Q = Ev sh 175 150 [a0, a1, a2] (.int (x + y) :: st) σ Q := Ev_step rfl
theorem s_M_readsAll_150 : Ev sh 175 150 [a0, a1, a2] st σ Q = Ev sh 175 151 [a0, a1, a2] (.int 1 :: st) σ Q := Ev_step rfl
theorem s_M_readsAll_151 (h : sh i0 = 9) : Ev sh 175 151 [a0, a1, a2] [.int x2, .int x1, .ref i0] σ Q = Ev sh 172 0 [some (.ref i0), some (.int x1), some (.int x2), none, none] [] σ (fun r s => Ev sh 175 154 [a0, a1, a2] (zpush r []) s Q) := Ev_callh (zrecv_of (by decide) h) rfl
theorem s_M_readsAll_154 : Ev sh 175 154 [a0, a1, a2] (.int x :: st) σ Q = if x = 0 then Ev sh 175 161 [a0, a1, a2] st σ Q else Ev sh 175 157 [a0, a1, a2] st σ Q := Ev_if rfl
theorem s_M_readsAll_157 : Ev sh 175 157 [a0, a1, a2] st σ Q = Ev sh 175 158 [a0, a1, a2] (.int 1 :: st) σ Q := Ev_step rfl
theorem s_M_readsAll_158 : Ev sh 175 158 [a0, a1, a2] st σ Q = Ev sh 175 162 [a0, a1, a2] st σ Q := Ev_step rfl
theorem s_M_readsAll_161 : Ev sh 175 161 [a0, a1, a2] st σ Q = Ev sh 175 162 [a0, a1, a2] (.int 0 :: st) σ Q := Ev_step rfl
theorem s_M_readsAll_162 (h : x = 0 ∨ x = 1) : Ev sh 175 162 [a0, a1, a2] [.int x] σ Q = Q (some (.int x)) σ := Ev_rh h rfl
theorem s_M_readsAll_163 : Ev sh 175 163 [some (.ref i), a1, a2] st σ Q = Ev sh 175 164 [some (.ref i), a1, a2] (.ref i :: st) σ Q := Ev_step rfl
theorem s_M_readsAll_164 : Ev sh 175 164 [a0, a1, some (.int x)] st σ Q = Ev sh 175 165 [a0, a1, some (.int x)] (.int x :: st) σ Q := Ev_step rfl
theorem s_M_readsAll_165 : Ev sh 175 165 [a0, a1, a2] st σ Q = Ev sh 175 166 [a0, a1, a2] (.int 1 :: st) σ Q := Ev_step rfl
theorem s_M_readsAll_166 (h : sh i0 = 9) : Ev sh 175 166 [a0, a1, a2] [.int x2, .int x1, .ref i0] σ Q = Ev sh 172 0 [some (.ref i0), some (.int x1), some (.int x2), none, none] [] σ (fun r s => Ev sh 175 169 [a0, a1, a2] (zpush r []) s Q) := Ev_callh (zrecv_of (by decide) h) rfl
theorem s_M_readsAll_169 (h : x = 0 ∨ x = 1) : Ev sh 175 169 [a0, a1, a2] [.int x] σ Q = Q (some (.int x)) σ := Ev_rh h rfl
theorem s_M_readsAll_170 : Ev sh 175 170 [some (.ref i), a1, a2] st σ Q = Ev sh 175 171 [some (.ref i), a1, a2] (.ref i :: st) σ Q := Ev_step rfl
theorem s_M_readsAll_171 : Ev sh 175 171 [a0, a1, some (.int x)] st σ Q = Ev sh 175 172 [a0, a1, some (.int x)] (.int x :: st) σ Q := Ev_step rfl
theorem s_M_readsAll_172 : Ev sh 175 172 [a0, a1, a2] st σ Q = Ev sh 175 173 [a0, a1, a2] (.int 2 :: st) σ Q := Ev_step rfl
theorem s_M_readsAll_173 (h : sh i0 = 9) : Ev sh 175 173 [a0, a1, a2] [.int x2, .int x1, .ref i0] σ Q = Ev sh 172 0 [some (.ref i0), some (.int x1), some (.int x2), none, none] [] σ (fun r s => Ev sh 175 176 [a0, a1, a2] (zpush r []) s Q) := Ev_callh (zrecv_of (by decide) h) rfl
theorem s_M_readsAll_176 (h : x = 0 ∨ x = 1) : Ev sh 175 176 [a0, a1, a2] [.int x] σ Q = Q (some (.int x)) σ := Ev_rh h rfl
theorem s_M_statement_0 : Ev sh 176 0 [some (.ref i), a1] st σ Q = Ev sh 176 1 [some (.ref i), a1] (.ref i :: st) σ Q := Ev_step rfl
theorem s_M_statement_1 (h : sh i0 = 9) : Ev sh 176 1 [a0, a1] [.ref i0] σ Q = Ev sh 171 0 [some (.ref i0)] [] σ (fun r s => Ev sh 176 4 [a0, a1] (zpush r []) s Q) := Ev_callh (zrecv_of (by decide) h) rfl
theorem s_M_statement_4 : Ev sh 176 4 [a0, a1] (.int x :: st) σ Q = Ev sh 176 5 [zdrop2 a0, some (.int x)] st σ Q := Ev_step rfl
theorem s_M_statement_5 : Ev sh 176 5 [a0, some (.int x)] st σ Q = Ev sh 176 6 [a0, some (.int x)] (.int x :: st) σ Q := Ev_step rfl
theorem s_M_statement_6 : Ev sh 176 6 [a0, a1] st σ Q = Ev sh 176 8 [a0, a1] (.int 115 :: st) σ Q := Ev_step rfl
theorem s_M_statement_8 : Ev sh 176 8 [a0, a1] (.int y :: .int x :: st) σ Q = if x = y then Ev sh 176 37 [a0, a1] st σ Q else Ev sh 176 11 [a0, a1] st σ Q := Ev_if rfl
theorem s_M_statement_11 : Ev sh 176 11 [a0, some (.int x)] st σ Q = Ev sh 176 12 [a0, some (.int x)] (.int x :: st) σ Q := Ev_step rfl
theorem s_M_statement_12 : Ev sh 176 12 [a0, a1] st σ Q = Ev sh 176 14 [a0, a1] (.int 99 :: st) σ Q := Ev_step rfl
theorem s_M_statement_14 : Ev sh 176 14 [a0, a1] (.int y :: .int x :: st) σ Q = if x = y then Ev sh 176 37 [a0, a1] st σ Q else Ev sh 176 17 [a0, a1] st σ Q := Ev_if rfl
theorem s_M_statement_17 : Ev sh 176 17 [a0, some (.int x)] st σ Q = Ev sh 176 18 [a0, some (.int x)] (.int x :: st) σ Q := Ev_step rfl
theorem s_M_statement_18 : Ev sh 176 18 [a0, a1] st σ Q = Ev sh 176 20 [a0, a1] (.int 109 :: st) σ Q := Ev_step rfl
theorem s_M_statement_20 : Ev sh 176 20 [a0, a1] (.int y :: .int x :: st) σ Q = if x = y then Ev sh 176 37 [a0, a1] st σ Q else Ev sh 176 23 [a0, a1] st σ Q := Ev_if rfl
theorem s_M_statement_23 : Ev sh 176 23 [a0, some (.int x)] st σ Q = Ev sh 176 24 [a0, some (.int x)] (.int x :: st) σ Q := Ev_step rfl
theorem s_M_statement_24 : Ev sh 176 24 [a0, a1] st σ Q = Ev sh 176 26 [a0, a1] (.int 117 :: st) σ Q := Ev_step rfl
theorem s_M_statement_26 : Ev sh 176 26 [a0, a1] (.int y :: .int x :: st) σ Q = if x = y then Ev sh 176 37 [a0, a1] st σ Q else Ev sh 176 29 [a0, a1] st σ Q := Ev_if rfl
theorem s_M_statement_29 : Ev sh 176 29 [a0, some (.int x)] st σ Q = Ev sh 176 30 [a0, some (.int x)] (.int x :: st) σ Q := Ev_step rfl
theorem s_M_statement_30 : Ev sh 176 30 [a0, a1] st σ Q = Ev sh 176 32 [a0, a1] (.int 100 :: st) σ Q := Ev_step rfl
theorem s_M_statement_32 : Ev sh 176 32 [a0, a1] (.int y :: .int x :: st) σ Q = if x = y then Ev sh 176 37 [a0, a1] st σ Q else Ev sh 176 35 [a0, a1] st σ Q := Ev_if rfl
theorem s_M_statement_35 : Ev sh 176 35 [a0, a1] st σ Q = Ev sh 176 36 [a0, a1] (.int 0 :: st) σ Q := Ev_step rfl
theorem s_M_statement_36 (h : x = 0 ∨ x = 1) : Ev sh 176 36 [a0, a1] [.int x] σ Q = Q (some (.int x)) σ := Ev_rh h rfl
theorem s_M_statement_37 : Ev sh 176 37 [some (.ref i), a1] st σ Q = Ev sh 176 38 [some (.ref i), a1] (.ref i :: st) σ Q := Ev_step rfl
theorem s_M_statement_38 (h : sh i = 9) : Ev sh 176 38 [a0, a1] (.ref i :: st) σ Q = Ev sh 176 41 [a0, a1] (.ref 9 :: st) σ Q := Ev_h h rfl
theorem s_M_statement_41 : Ev sh 176 41 [some (.ref i), a1] st σ Q = Ev sh 176 42 [some (.ref i), a1] (.ref i :: st) σ Q := Ev_step rfl
theorem s_M_statement_42 (h : sh i = 9) : Ev sh 176 42 [a0, a1] (.ref i :: st) σ Q = Ev sh 176 45 [a0, a1] (.int (σ i 16) :: st) σ Q := Ev_h h rfl
theorem s_M_statement_45 : Ev sh 176 45 [a0, some (.int x)] st σ Q = Ev sh 176 46 [a0, some (.int x)] (.int x :: st) σ Q := Ev_step rfl
theorem s_M_statement_46 (h : zin x (sh i) = true) : Ev sh 176 46 [a0, a1] (.int y :: .int x :: .ref i :: st) σ Q = Ev sh 176 47 [a0, a1] st (zup σ i x.toNatClampNeg y) Q := Ev_h h rfl
theorem s_M_statement_47 : Ev sh 176 47 [some (.ref i), a1] st σ Q = Ev sh 176 48 [some (.ref i), a1] (.ref i :: st) σ Q := Ev_step rfl
theorem s_M_statement_48 (h : sh i = 9) : Ev sh 176 48 [a0, a1] (.ref i :: st) σ Q = Ev sh 176 51 [a0, a1] (.ref 10 :: st) σ Q := Ev_h h rfl
theorem s_M_statement_51 : Ev sh 176 51 [some (.ref i), a1] st σ Q = Ev sh 176 52 [some (.ref i), a1] (.ref i :: st) σ Q := Ev_step rfl
theorem s_M_statement_52 (h : sh i = 9) : Ev sh 176 52 [a0, a1] (.ref i :: st) σ Q = Ev sh 176 55 [a0, a1] (.int (σ i 16) :: st) σ Q := Ev_h h rfl
theorem s_M_statement_55 : Ev sh 176 55 [some (.ref i), a1] st σ Q = Ev sh 176 56 [some (.ref i), a1] (.ref i :: st) σ Q := Ev_step rfl
theorem s_M_statement_56 (h : sh i = 9) : Ev sh 176 56 [a0, a1] (.ref i :: st) σ Q = Ev sh 176 59 [a0, a1] (.int (σ i 15) :: st) σ Q := Ev_h h rfl
theorem s_M_statement_59 (h : zin x (sh i) = true) : Ev sh 176 59 [a0, a1] (.int y :: .int x :: .ref i :: st) σ Q = Ev sh 176 60 [a0, a1] st (zup σ i x.toNatClampNeg y) Q := Ev_h h rfl
theorem s_M_statement_60 : Ev sh 176 60 [some (.ref i), a1] st σ Q = Ev sh 176 61 [some (.ref i), a1] (.ref i :: st) σ Q := Ev_step rfl
theorem s_M_statement_61 : Ev sh 176 61 [a0, a1] (.ref i :: st) σ Q = Ev sh 176 62 [a0, a1] (.ref i :: .ref i :: st) σ Q := Ev_step rfl
theorem s_M_statement_62 (h : sh i = 9) : Ev sh 176 62 [a0, a1] (.ref i :: st) σ Q = Ev sh 176 65 [a0, a1] (.int (σ i 15) :: st) σ Q := Ev_h h rfl
theorem s_M_statement_65 : Ev sh 176 65 [a0, a1] st σ Q = Ev sh 176 66 [a0, a1] (.int 1 :: st) σ Q := Ev_step rfl
theorem s_M_statement_66 : Ev sh 176 66 [a0, a1] (.int y :: .int x :: st) σ Q = Ev sh 176 67 [a0, a1] (.int (x + y) :: st) σ Q := Ev_step rfl
theorem s_M_statement_67 (h : sh i = 9) : Ev sh 176 67 [a0, a1] (.int x :: .ref i :: st) σ Q = Ev sh 176 70 [a0, a1] st (zup σ i 15 x) Q := Ev_h h rfl
theorem s_M_statement_70 : Ev sh 176 70 [some (.ref i), a1] st σ Q = Ev sh 176 71 [some (.ref i), a1] (.ref i :: st) σ Q := Ev_step rfl
theorem s_M_statement_71 : Ev sh 176 71 [a0, some (.int x)] st σ Q = Ev sh 176 72 [a0, some (.int x)] (.int x :: st) σ Q := Ev_step rfl
theorem s_M_statement_72 : Ev sh 176 72 [a0, a1] st σ Q = Ev sh 176 73 [a0, a1] (.int 4 :: st) σ Q := Ev_step rfl
theorem s_M_statement_73 : Ev sh 176 73 [some (.ref i), a1] st σ Q = Ev sh 176 74 [some (.ref i), a1] (.ref i :: st) σ Q := Ev_step rfl
theorem s_M_statement_74 (h : sh i = 9) : Ev sh 176 74 [a0, a1] (.ref i :: st) σ Q = Ev sh 176 77 [a0, a1] (.int (σ i 16) :: st) σ Q := Ev_h h rfl
theorem s_M_statement_77 : Ev sh 176 77 [a0, a1] (.int y :: .int x :: st) σ Q = Ev sh 176 78 [a0, a1] (.int (x * y) :: st) σ Q := Ev_step rfl
theorem s_M_statement_78 (h : sh i0 = 9) : Ev sh 176 78 [a0, a1] [.int x2, .int x1, .ref i0] σ Q = Ev sh 175 0 [some (.ref i0), some (.int x1), some (.int x2)] [] σ (fun r s => Ev sh 176 81 [a0, a1] (zpush r []) s Q) := Ev_callh (zrecv_of (by decide) h) rfl
theorem s_M_statement_81 : Ev sh 176 81 [a0, a1] (.int x :: st) σ Q = if x = 0 then Ev sh 176 93 [a0, a1] st σ Q else Ev sh 176 84 [a0, a1] st σ Q := Ev_if rfl
theorem s_M_statement_84 : Ev sh 176 84 [some (.ref i), a1] st σ Q = Ev sh 176 85 [some (.ref i), a1] (.ref i :: st) σ Q := Ev_step rfl
theorem s_M_statement_85 (h : sh i0 = 9) : Ev sh 176 85 [a0, a1] [.ref i0] σ Q = Ev sh 171 0 [some (.ref i0)] [] σ (fun r s => Ev sh 176 88 [a0, a1] (zpush r []) s Q) := Ev_callh (zrecv_of (by decide) h) rfl
theorem s_M_statement_88 : Ev sh 176 88 [a0, a1] st σ Q = Ev sh 176 90 [a0, a1] (.int 59 :: st) σ Q := Ev_step rfl
theorem s_M_statement_90 : Ev sh 176 90 [a0, a1] (.int y :: .int x :: st) σ Q = if x = y then Ev sh 176 95 [a0, a1] st σ Q else Ev sh 176 93 [a0, a1] st σ Q := Ev_if rfl
theorem s_M_statement_93 : Ev sh 176 93 [a0, a1] st σ Q = Ev sh 176 94 [a0, a1] (.int 0 :: st) σ Q := Ev_step rfl
theorem s_M_statement_94 (h : x = 0 ∨ x = 1) : Ev sh 176 94 [a0, a1] [.int x] σ Q = Q (some (.int x)) σ := Ev_rh h rfl
theorem s_M_statement_95 : Ev sh 176 95 [some (.ref i), a1] st σ Q = Ev sh 176 96 [some (.ref i), a1] (.ref i :: st) σ Q := Ev_step rfl
theorem s_M_statement_96 : Ev sh 176 96 [a0, a1] (.ref i :: st) σ Q = Ev sh 176 97 [a0, a1] (.ref i :: .ref i :: st) σ Q := Ev_step rfl
theorem s_M_statement_97 (h : sh i = 9) : Ev sh 176 97 [a0, a1] (.ref i :: st) σ Q = Ev sh 176 100 [a0, a1] (.int (σ i 15) :: st) σ Q := Ev_h h rfl
theorem s_M_statement_100 : Ev sh 176 100 [a0, a1] st σ Q = Ev sh 176 101 [a0, a1] (.int 1 :: st) σ Q := Ev_step rfl
theorem s_M_statement_101 : Ev sh 176 101 [a0, a1] (.int y :: .int x :: st) σ Q = Ev sh 176 102 [a0, a1] (.int (x + y) :: st) σ Q := Ev_step rfl
theorem s_M_statement_102 (h : sh i = 9) : Ev sh 176 102 [a0, a1] (.int x :: .ref i :: st) σ Q = Ev sh 176 105 [a0, a1] st (zup σ i 15 x) Q := Ev_h h rfl
theorem s_M_statement_105 : Ev sh 176 105 [a0, a1] st σ Q = Ev sh 176 106 [a0, a1] (.int 1 :: st) σ Q := Ev_step rfl
theorem s_M_statement_106 (h : x = 0 ∨ x = 1) : Ev sh 176 106 [a0, a1] [.int x] σ Q = Q (some (.int x)) σ := Ev_rh h rfl
theorem s_M_comesMason_0 : Ev sh 177 0 [some (.ref i), a1, a2] st σ Q = Ev sh 177 1 [some (.ref i), a1, a2] (.ref i :: st) σ Q := Ev_step rfl
theorem s_M_comesMason_1 (h : sh i = 9) : Ev sh 177 1 [a0, a1, a2] (.ref i :: st) σ Q = Ev sh 177 4 [a0, a1, a2] (.ref 11 :: st) σ Q := Ev_h h rfl
theorem s_M_comesMason_4 : Ev sh 177 4 [a0, some (.int x), a2] st σ Q = Ev sh 177 5 [a0, some (.int x), a2] (.int x :: st) σ Q := Ev_step rfl
theorem s_M_comesMason_5 (h : zin x (sh i) = true) : Ev sh 177 5 [a0, a1, a2] (.int x :: .ref i :: st) σ Q = Ev sh 177 6 [a0, a1, a2] (.int (σ i x.toNatClampNeg) :: st) σ Q := Ev_h h rfl
theorem s_M_comesMason_6 : Ev sh 177 6 [a0, a1, a2] (.int x :: st) σ Q = Ev sh 177 7 [a0, zdrop2 a1, some (.int x)] st σ Q := Ev_step rfl
theorem s_M_comesMason_7 : Ev sh 177 7 [a0, a1, some (.int x)] st σ Q = Ev sh 177 8 [a0, a1, some (.int x)] (.int x :: st) σ Q := Ev_step rfl
theorem s_M_comesMason_8 : Ev sh 177 8 [a0, a1, a2] [.int x0] σ Q = Ev sh 169 0 [some (.int x0)] [] σ (fun r s => Ev sh 177 11 [a0, a1, a2] (zpush r []) s Q) := Ev_call rfl
theorem s_M_comesMason_11 : Ev sh 177 11 [a0, a1, a2] (.int x :: st) σ Q = if x ≠ 0 then Ev sh 177 16 [a0, a1, a2] st σ Q else Ev sh 177 14 [a0, a1, a2] st σ Q := Ev_if rfl
theorem s_M_comesMason_14 : Ev sh 177 14 [a0, a1, a2] st σ Q = Ev sh 177 15 [a0, a1, a2] (.int 0 :: st) σ Q := Ev_step rfl
theorem s_M_comesMason_15 (h : x = 0 ∨ x = 1) : Ev sh 177 15 [a0, a1, a2] [.int x] σ Q = Q (some (.int x)) σ := Ev_rh h rfl
theorem s_M_comesMason_16 : Ev sh 177 16 [some (.ref i), a1, a2] st σ Q = Ev sh 177 17 [some (.ref i), a1, a2] (.ref i :: st) σ Q := Ev_step rfl
theorem s_M_comesMason_17 (h : sh i = 9) : Ev sh 177 17 [a0, a1, a2] (.ref i :: st) σ Q = Ev sh 177 20 [a0, a1, a2] (.ref 5 :: st) σ Q := Ev_h h rfl
theorem s_M_comesMason_20 : Ev sh 177 20 [a0, a1, some (.int x)] st σ Q = Ev sh 177 21 [a0, a1, some (.int x)] (.int x :: st) σ Q := Ev_step rfl
theorem s_M_comesMason_21 : Ev sh 177 21 [some (.ref i), a1, a2] st σ Q = Ev sh 177 22 [some (.ref i), a1, a2] (.ref i :: st) σ Q := Ev_step rfl
theorem s_M_comesMason_22 (h : sh i = 9) : Ev sh 177 22 [a0, a1, a2] (.ref i :: st) σ Q = Ev sh 177 25 [a0, a1, a2] (.ref 11 :: st) σ Q := Ev_h h rfl
theorem s_M_comesMason_25 : Ev sh 177 25 [a0, some (.int x), a2] st σ Q = Ev sh 177 26 [a0, some (.int x), a2] (.int x :: st) σ Q := Ev_step rfl
theorem s_M_comesMason_26 : Ev sh 177 26 [a0, a1, a2] st σ Q = Ev sh 177 27 [a0, a1, a2] (.int 1 :: st) σ Q := Ev_step rfl
theorem s_M_comesMason_27 : Ev sh 177 27 [a0, a1, a2] (.int y :: .int x :: st) σ Q = Ev sh 177 28 [a0, a1, a2] (.int (x + y) :: st) σ Q := Ev_step rfl
theorem s_M_comesMason_28 (h : zin x (sh i) = true) : Ev sh 177 28 [a0, a1, a2] (.int x :: .ref i :: st) σ Q = Ev sh 177 29 [a0, a1, a2] (.int (σ i x.toNatClampNeg) :: st) σ Q := Ev_h h rfl
theorem s_M_comesMason_29 (h : zin x (sh i) = true) : Ev sh 177 29 [a0, a1, a2] (.int y :: .int x :: .ref i :: st) σ Q = Ev sh 177 30 [a0, a1, a2] st (zup σ i x.toNatClampNeg y) Q := Ev_h h rfl
theorem s_M_comesMason_30 : Ev sh 177 30 [some (.ref i), a1, a2] st σ Q = Ev sh 177 31 [some (.ref i), a1, a2] (.ref i :: st) σ Q := Ev_step rfl
theorem s_M_comesMason_31 (h : sh i = 9) : Ev sh 177 31 [a0, a1, a2] (.ref i :: st) σ Q = Ev sh 177 34 [a0, a1, a2] (.ref 6 :: st) σ Q := Ev_h h rfl
theorem s_M_comesMason_34 : Ev sh 177 34 [a0, a1, some (.int x)] st σ Q = Ev sh 177 35 [a0, a1, some (.int x)] (.int x :: st) σ Q := Ev_step rfl
theorem s_M_comesMason_35 : Ev sh 177 35 [some (.ref i), a1, a2] st σ Q = Ev sh 177 36 [some (.ref i), a1, a2] (.ref i :: st) σ Q := Ev_step rfl
theorem s_M_comesMason_36 (h : sh i = 9) : Ev sh 177 36 [a0, a1, a2] (.ref i :: st) σ Q = Ev sh 177 39 [a0, a1, a2] (.ref 11 :: st) σ Q := Ev_h h rfl
theorem s_M_comesMason_39 : Ev sh 177 39 [a0, some (.int x), a2] st σ Q = Ev sh 177 40 [a0, some (.int x), a2] (.int x :: st) σ Q := Ev_step rfl
theorem s_M_comesMason_40 : Ev sh 177 40 [a0, a1, a2] st σ Q = Ev sh 177 41 [a0, a1, a2] (.int 2 :: st) σ Q := Ev_step rfl
theorem s_M_comesMason_41 : Ev sh 177 41 [a0, a1, a2] (.int y :: .int x :: st) σ Q = Ev sh 177 42 [a0, a1, a2] (.int (x + y) :: st) σ Q := Ev_step rfl
theorem s_M_comesMason_42 (h : zin x (sh i) = true) : Ev sh 177 42 [a0, a1, a2] (.int x :: .ref i :: st) σ Q = Ev sh 177 43 [a0, a1, a2] (.int (σ i x.toNatClampNeg) :: st) σ Q := Ev_h h rfl
theorem s_M_comesMason_43 (h : zin x (sh i) = true) : Ev sh 177 43 [a0, a1, a2] (.int y :: .int x :: .ref i :: st) σ Q = Ev sh 177 44 [a0, a1, a2] st (zup σ i x.toNatClampNeg y) Q := Ev_h h rfl
theorem s_M_comesMason_44 : Ev sh 177 44 [some (.ref i), a1, a2] st σ Q = Ev sh 177 45 [some (.ref i), a1, a2] (.ref i :: st) σ Q := Ev_step rfl
theorem s_M_comesMason_45 (h : sh i = 9) : Ev sh 177 45 [a0, a1, a2] (.ref i :: st) σ Q = Ev sh 177 48 [a0, a1, a2] (.ref 7 :: st) σ Q := Ev_h h rfl
theorem s_M_comesMason_48 : Ev sh 177 48 [a0, a1, some (.int x)] st σ Q = Ev sh 177 49 [a0, a1, some (.int x)] (.int x :: st) σ Q := Ev_step rfl
theorem s_M_comesMason_49 : Ev sh 177 49 [some (.ref i), a1, a2] st σ Q = Ev sh 177 50 [some (.ref i), a1, a2] (.ref i :: st) σ Q := Ev_step rfl
theorem s_M_comesMason_50 (h : sh i = 9) : Ev sh 177 50 [a0, a1, a2] (.ref i :: st) σ Q = Ev sh 177 53 [a0, a1, a2] (.ref 11 :: st) σ Q := Ev_h h rfl
theorem s_M_comesMason_53 : Ev sh 177 53 [a0, some (.int x), a2] st σ Q = Ev sh 177 54 [a0, some (.int x), a2] (.int x :: st) σ Q := Ev_step rfl
theorem s_M_comesMason_54 : Ev sh 177 54 [a0, a1, a2] st σ Q = Ev sh 177 55 [a0, a1, a2] (.int 3 :: st) σ Q := Ev_step rfl
theorem s_M_comesMason_55 : Ev sh 177 55 [a0, a1, a2] (.int y :: .int x :: st) σ Q = Ev sh 177 56 [a0, a1, a2] (.int (x + y) :: st) σ Q := Ev_step rfl
theorem s_M_comesMason_56 (h : zin x (sh i) = true) : Ev sh 177 56 [a0, a1, a2] (.int x :: .ref i :: st) σ Q = Ev sh 177 57 [a0, a1, a2] (.int (σ i x.toNatClampNeg) :: st) σ Q := Ev_h h rfl
theorem s_M_comesMason_57 (h : zin x (sh i) = true) : Ev sh 177 57 [a0, a1, a2] (.int y :: .int x :: .ref i :: st) σ Q = Ev sh 177 58 [a0, a1, a2] st (zup σ i x.toNatClampNeg y) Q := Ev_h h rfl
theorem s_M_comesMason_58 : Ev sh 177 58 [a0, a1, a2] st σ Q = Ev sh 177 59 [a0, a1, a2] (.int 1 :: st) σ Q := Ev_step rfl
theorem s_M_comesMason_59 (h : x = 0 ∨ x = 1) : Ev sh 177 59 [a0, a1, a2] [.int x] σ Q = Q (some (.int x)) σ := Ev_rh h rfl
theorem s_M_comesDays_0 : Ev sh 178 0 [a0, some (.int x)] st σ Q = Ev sh 178 1 [a0, some (.int x)] (.int x :: st) σ Q := Ev_step rfl
theorem s_M_comesDays_1 : Ev sh 178 1 [a0, a1] st σ Q = Ev sh 178 2 [a0, a1] (.int 1 :: st) σ Q := Ev_step rfl
theorem s_M_comesDays_2 : Ev sh 178 2 [a0, a1] st σ Q = Ev sh 178 4 [a0, a1] (.int 60 :: st) σ Q := Ev_step rfl
theorem s_M_comesDays_4 : Ev sh 178 4 [a0, a1] [.int x2, .int x1, .int x0] σ Q = Ev sh 163 0 [some (.int x0), some (.int x1), some (.int x2)] [] σ (fun r s => Ev sh 178 7 [a0, a1] (zpush r []) s Q) := Ev_call rfl
theorem s_M_comesDays_7 : Ev sh 178 7 [a0, a1] (.int x :: st) σ Q = if x = 0 then Ev sh 178 22 [a0, a1] st σ Q else Ev sh 178 10 [a0, a1] st σ Q := Ev_if rfl
theorem s_M_comesDays_10 : Ev sh 178 10 [some (.ref i), a1] st σ Q = Ev sh 178 11 [some (.ref i), a1] (.ref i :: st) σ Q := Ev_step rfl
theorem s_M_comesDays_11 (h : sh i = 9) : Ev sh 178 11 [a0, a1] (.ref i :: st) σ Q = Ev sh 178 14 [a0, a1] (.int (σ i 9) :: st) σ Q := Ev_h h rfl
theorem s_M_comesDays_14 : Ev sh 178 14 [a0, some (.int x)] st σ Q = Ev sh 178 15 [a0, some (.int x)] (.int x :: st) σ Q := Ev_step rfl
theorem s_M_comesDays_15 : Ev sh 178 15 [a0, a1] (.int y :: .int x :: st) σ Q = Ev sh 178 16 [a0, a1] (.int (x + y) :: st) σ Q := Ev_step rfl
theorem s_M_comesDays_16 : Ev sh 178 16 [a0, a1] st σ Q = Ev sh 178 19 [a0, a1] (.int 999 :: st) σ Q := Ev_step rfl
theorem s_M_comesDays_19 : Ev sh 178 19 [a0, a1] (.int y :: .int x :: st) σ Q = if x ≤ y then Ev sh 178 24 [a0, a1] st σ Q else Ev sh 178 22 [a0, a1] st σ Q := Ev_if rfl
theorem s_M_comesDays_22 : Ev sh 178 22 [a0, a1] st σ Q = Ev sh 178 23 [a0, a1] (.int 0 :: st) σ Q := Ev_step rfl
theorem s_M_comesDays_23 (h : x = 0 ∨ x = 1) : Ev sh 178 23 [a0, a1] [.int x] σ Q = Q (some (.int x)) σ := Ev_rh h rfl
theorem s_M_comesDays_24 : Ev sh 178 24 [some (.ref i), a1] st σ Q = Ev sh 178 25 [some (.ref i), a1] (.ref i :: st) σ Q := Ev_step rfl
theorem s_M_comesDays_25 : Ev sh 178 25 [a0, some (.int x)] st σ Q = Ev sh 178 26 [a0, some (.int x)] (.int x :: st) σ Q := Ev_step rfl
theorem s_M_comesDays_26 (h : sh i0 = 9) : Ev sh 178 26 [a0, a1] [.int x1, .ref i0] σ Q = Ev sh 203 0 [some (.ref i0), some (.int x1), none] [] σ (fun r s => Ev sh 178 29 [a0, a1] (zpush r []) s Q) := Ev_callh (zrecv_of (by decide) h) rfl
theorem s_M_comesDays_29 : Ev sh 178 29 [a0, a1] st σ Q = Ev sh 178 30 [a0, a1] (.int 1 :: st) σ Q := Ev_step rfl
theorem s_M_comesDays_30 (h : x = 0 ∨ x = 1) : Ev sh 178 30 [a0, a1] [.int x] σ Q = Q (some (.int x)) σ := Ev_rh h rfl
theorem s_M_comes_0 : Ev sh 179 0 [a0, a1, a2] st σ Q = Ev sh 179 1 [a0, a1, a2] (.int 4 :: st) σ Q := Ev_step rfl
theorem s_M_comes_1 : Ev sh 179 1 [a0, some (.int x), a2] st σ Q = Ev sh 179 2 [a0, some (.int x), a2] (.int x :: st) σ Q := Ev_step rfl
theorem s_M_comes_2 : Ev sh 179 2 [a0, a1, a2] (.int y :: .int x :: st) σ Q = Ev sh 179 3 [a0, a1, a2] (.int (x * y) :: st) σ Q := Ev_step rfl
theorem s_M_comes_3 : Ev sh 179 3 [a0, a1, a2] (.int x :: st) σ Q = Ev sh 179 4 [a0, zdrop2 a1, some (.int x)] st σ Q := Ev_step rfl
theorem s_M_comes_4 : Ev sh 179 4 [some (.ref i), a1, a2] st σ Q = Ev sh 179 5 [some (.ref i), a1, a2] (.ref i :: st) σ Q := Ev_step rfl
theorem s_M_comes_5 (h : sh i = 9) : Ev sh 179 5 [a0, a1, a2] (.ref i :: st) σ Q = Ev sh 179 8 [a0, a1, a2] (.ref 9 :: st) σ Q := Ev_h h rfl
theorem s_M_comes_8 : Ev sh 179 8 [a0, some (.int x), a2] st σ Q = Ev sh 179 9 [a0, some (.int x), a2] (.int x :: st) σ Q := Ev_step rfl
theorem s_M_comes_9 (h : zin x (sh i) = true) : Ev sh 179 9 [a0, a1, a2] (.int x :: .ref i :: st) σ Q = Ev sh 179 10 [a0, a1, a2] (.int (σ i x.toNatClampNeg) :: st) σ Q := Ev_h h rfl
theorem s_M_comes_10 : Ev sh 179 10 [a0, a1, a2] (.int x :: st) σ Q = if x = 99 then Ev sh 179 105 [a0, a1, a2] st σ Q else if x = 109 then Ev sh 179 148 [a0, a1, a2] st σ Q else if x = 115 then Ev sh 179 52 [a0, a1, a2] st σ Q else if x = 117 then Ev sh 179 154 [a0, a1, a2] st σ Q else Ev sh 179 190 [a0, a1, a2] st σ Q := (Ev_step (pc' := zsw x 190 [(99, 105), (109, 148), (115, 52), (117, 154)]) rfl).trans (by rw [Ev_swc, Ev_swc, Ev_swc, Ev_swc]; rfl)
theorem s_M_comes_52 : Ev sh 179 52 [some (.ref i), a1, a2] st σ Q = Ev sh 179 53 [some (.ref i), a1, a2] (.ref i :: st) σ Q := Ev_step rfl
theorem s_M_comes_53 (h : sh i = 9) : Ev sh 179 53 [a0, a1, a2] (.ref i :: st) σ Q = Ev sh 179 56 [a0, a1, a2] (.ref 11 :: st) σ Q := Ev_h h rfl
theorem s_M_comes_56 : Ev sh 179 56 [a0, a1, some (.int x)] st σ Q = Ev sh 179 57 [a0, a1, some (.int x)] (.int x :: st) σ Q := Ev_step rfl
theorem s_M_comes_57 : Ev sh 179 57 [a0, a1, a2] st σ Q = Ev sh 179 58 [a0, a1, a2] (.int 2 :: st) σ Q := Ev_step rfl
theorem s_M_comes_58 : Ev sh 179 58 [a0, a1, a2] (.int y :: .int x :: st) σ Q = Ev sh 179 59 [a0, a1, a2] (.int (x + y) :: st) σ Q := Ev_step rfl
theorem s_M_comes_59 (h : zin x (sh i) = true) : Ev sh 179 59 [a0, a1, a2] (.int x :: .ref i :: st) σ Q = Ev sh 179 60 [a0, a1, a2] (.int (σ i x.toNatClampNeg) :: st) σ Q := Ev_h h rfl
theorem s_M_comes_60 : Ev sh 179 60 [a0, a1, a2] [.int x0] σ Q = Ev sh 169 0 [some (.int x0)] [] σ (fun r s => Ev sh 179 63 [a0, a1, a2] (zpush r []) s Q) := Ev_call rfl
theorem s_M_comes_63 : Ev sh 179 63 [a0, a1, a2] (.int x :: st) σ Q = if x = 0 then Ev sh 179 75 [a0, a1, a2] st σ Q else Ev sh 179 66 [a0, a1, a2] st σ Q := Ev_if rfl
theorem s_M_comes_66 : Ev sh 179 66 [some (.ref i), a1, a2] st σ Q = Ev sh 179 67 [some (.ref i), a1, a2] (.ref i :: st) σ Q := Ev_step rfl
theorem s_M_comes_67 (h : sh i = 9) : Ev sh 179 67 [a0, a1, a2] (.ref i :: st) σ Q = Ev sh 179 70 [a0, a1, a2] (.int (σ i 7) :: st) σ Q := Ev_h h rfl
theorem s_M_comes_70 : Ev sh 179 70 [a0, a1, a2] st σ Q = Ev sh 179 72 [a0, a1, a2] (.int 12 :: st) σ Q := Ev_step rfl
theorem s_M_comes_72 : Ev sh 179 72 [a0, a1, a2] (.int y :: .int x :: st) σ Q = if x ≠ y then Ev sh 179 77 [a0, a1, a2] st σ Q else Ev sh 179 75 [a0, a1, a2] st σ Q := Ev_if rfl
theorem s_M_comes_75 : Ev sh 179 75 [a0, a1, a2] st σ Q = Ev sh 179 76 [a0, a1, a2] (.int 0 :: st) σ Q := Ev_step rfl
theorem s_M_comes_76 (h : x = 0 ∨ x = 1) : Ev sh 179 76 [a0, a1, a2] [.int x] σ Q = Q (some (.int x)) σ := Ev_rh h rfl
theorem s_M_comes_77 : Ev sh 179 77 [some (.ref i), a1, a2] st σ Q = Ev sh 179 78 [some (.ref i), a1, a2] (.ref i :: st) σ Q := Ev_step rfl
theorem s_M_comes_78 : Ev sh 179 78 [some (.ref i), a1, a2] st σ Q = Ev sh 179 79 [some (.ref i), a1, a2] (.ref i :: st) σ Q := Ev_step rfl
theorem s_M_comes_79 (h : sh i = 9) : Ev sh 179 79 [a0, a1, a2] (.ref i :: st) σ Q = Ev sh 179 82 [a0, a1, a2] (.ref 11 :: st) σ Q := Ev_h h rfl
theorem s_M_comes_82 : Ev sh 179 82 [a0, a1, some (.int x)] st σ Q = Ev sh 179 83 [a0, a1, some (.int x)] (.int x :: st) σ Q := Ev_step rfl
theorem s_M_comes_83 (h : zin x (sh i) = true) : Ev sh 179 83 [a0, a1, a2] (.int x :: .ref i :: st) σ Q = Ev sh 179 84 [a0, a1, a2] (.int (σ i x.toNatClampNeg) :: st) σ Q := Ev_h h rfl
theorem s_M_comes_84 : Ev sh 179 84 [some (.ref i), a1, a2] st σ Q = Ev sh 179 85 [some (.ref i), a1, a2] (.ref i :: st) σ Q := Ev_step rfl
theorem s_M_comes_85 (h : sh i = 9) : Ev sh 179 85 [a0, a1, a2] (.ref i :: st) σ Q = Ev sh 179 88 [a0, a1, a2] (.ref 11 :: st) σ Q := Ev_h h rfl
theorem s_M_comes_88 : Ev sh 179 88 [a0, a1, some (.int x)] st σ Q = Ev sh 179 89 [a0, a1, some (.int x)] (.int x :: st) σ Q := Ev_step rfl
theorem s_M_comes_89 : Ev sh 179 89 [a0, a1, a2] st σ Q = Ev sh 179 90 [a0, a1, a2] (.int 1 :: st) σ Q := Ev_step rfl
theorem s_M_comes_90 : Ev sh 179 90 [a0, a1, a2] (.int y :: .int x :: st) σ Q = Ev sh 179 91 [a0, a1, a2] (.int (x + y) :: st) σ Q := Ev_step rfl
theorem s_M_comes_91 (h : zin x (sh i) = true) : Ev sh 179 91 [a0, a1, a2] (.int x :: .ref i :: st) σ Q = Ev sh 179 92 [a0, a1, a2] (.int (σ i x.toNatClampNeg) :: st) σ Q := Ev_h h rfl
theorem s_M_comes_92 : Ev sh 179 92 [some (.ref i), a1, a2] st σ Q = Ev sh 179 93 [some (.ref i), a1, a2] (.ref i :: st) σ Q := Ev_step rfl
theorem s_M_comes_93 (h : sh i = 9) : Ev sh 179 93 [a0, a1, a2] (.ref i :: st) σ Q = Ev sh 179 96 [a0, a1, a2] (.ref 11 :: st) σ Q := Ev_h h rfl
theorem s_M_comes_96 : Ev sh 179 96 [a0, a1, some (.int x)] st σ Q = Ev sh 179 97 [a0, a1, some (.int x)] (.int x :: st) σ Q := Ev_step rfl
theorem s_M_comes_97 : Ev sh 179 97 [a0, a1, a2] st σ Q = Ev sh 179 98 [a0, a1, a2] (.int 2 :: st) σ Q := Ev_step rfl
theorem s_M_comes_98 : Ev sh 179 98 [a0, a1, a2] (.int y :: .int x :: st) σ Q = Ev sh 179 99 [a0, a1, a2] (.int (x + y) :: st) σ Q := Ev_step rfl
theorem s_M_comes_99 (h : zin x (sh i) = true) : Ev sh 179 99 [a0, a1, a2] (.int x :: .ref i :: st) σ Q = Ev sh 179 100 [a0, a1, a2] (.int (σ i x.toNatClampNeg) :: st) σ Q := Ev_h h rfl
theorem s_M_comes_100 (h : sh i0 = 9) : Ev sh 179 100 [a0, a1, a2] [.int x3, .int x2, .int x1, .ref i0] σ Q = Ev sh 188 0 [some (.ref i0), some (.int x1), some (.int x2), some (.int x3)] [] σ (fun r s => Ev sh 179 103 [a0, a1, a2] (zpush r []) s Q) := Ev_callh (zrecv_of (by decide) h) rfl
theorem s_M_comes_103 : Ev sh 179 103 [a0, a1, a2] st σ Q = Ev sh 179 104 [a0, a1, a2] (.int 1 :: st) σ Q := Ev_step rfl
theorem s_M_comes_104 (h : x = 0 ∨ x = 1) : Ev sh 179 104 [a0, a1, a2] [.int x] σ Q = Q (some (.int x)) σ := Ev_rh h rfl
theorem s_M_comes_105 : Ev sh 179 105 [some (.ref i), a1, a2] st σ Q = Ev sh 179 106 [some (.ref i), a1, a2] (.ref i :: st) σ Q := Ev_step rfl
theorem s_M_comes_106 : Ev sh 179 106 [some (.ref i), a1, a2] st σ Q = Ev sh 179 107 [some (.ref i), a1, a2] (.ref i :: st) σ Q := Ev_step rfl
theorem s_M_comes_107 (h : sh i = 9) : Ev sh 179 107 [a0, a1, a2] (.ref i :: st) σ Q = Ev sh 179 110 [a0, a1, a2] (.ref 11 :: st) σ Q := Ev_h h rfl
theorem s_M_comes_110 : Ev sh 179 110 [a0, a1, some (.int x)] st σ Q = Ev sh 179 111 [a0, a1, some (.int x)] (.int x :: st) σ Q := Ev_step rfl
theorem s_M_comes_111 (h : zin x (sh i) = true) : Ev sh 179 111 [a0, a1, a2] (.int x :: .ref i :: st) σ Q = Ev sh 179 112 [a0, a1, a2] (.int (σ i x.toNatClampNeg) :: st) σ Q := Ev_h h rfl
theorem s_M_comes_112 (h : sh i0 = 9) : Ev sh 179 112 [a0, a1, a2] [.int x1, .ref i0] σ Q = Ev sh 168 0 [some (.ref i0), some (.int x1)] [] σ (fun r s => Ev sh 179 115 [a0, a1, a2] (zpush r []) s Q) := Ev_callh (zrecv_of (by decide) h) rfl
theorem s_M_comes_115 : Ev sh 179 115 [a0, a1, a2] (.int x :: st) σ Q = if x ≠ 0 then Ev sh 179 120 [a0, a1, a2] st σ Q else Ev sh 179 118 [a0, a1, a2] st σ Q := Ev_if rfl
theorem s_M_comes_118 : Ev sh 179 118 [a0, a1, a2] st σ Q = Ev sh 179 119 [a0, a1, a2] (.int 0 :: st) σ Q := Ev_step rfl
theorem s_M_comes_119 (h : x = 0 ∨ x = 1) : Ev sh 179 119 [a0, a1, a2] [.int x] σ Q = Q (some (.int x)) σ := Ev_rh h rfl
theorem s_M_comes_120 : Ev sh 179 120 [some (.ref i), a1, a2] st σ Q = Ev sh 179 121 [some (.ref i), a1, a2] (.ref i :: st) σ Q := Ev_step rfl
theorem s_M_comes_121 : Ev sh 179 121 [some (.ref i), a1, a2] st σ Q = Ev sh 179 122 [some (.ref i), a1, a2] (.ref i :: st) σ Q := Ev_step rfl
theorem s_M_comes_122 (h : sh i = 9) : Ev sh 179 122 [a0, a1, a2] (.ref i :: st) σ Q = Ev sh 179 125 [a0, a1, a2] (.ref 11 :: st) σ Q := Ev_h h rfl
theorem s_M_comes_125 : Ev sh 179 125 [a0, a1, some (.int x)] st σ Q = Ev sh 179 126 [a0, a1, some (.int x)] (.int x :: st) σ Q := Ev_step rfl
theorem s_M_comes_126 (h : zin x (sh i) = true) : Ev sh 179 126 [a0, a1, a2] (.int x :: .ref i :: st) σ Q = Ev sh 179 127 [a0, a1, a2] (.int (σ i x.toNatClampNeg) :: st) σ Q := Ev_h h rfl
theorem s_M_comes_127 : Ev sh 179 127 [some (.ref i), a1, a2] st σ Q = Ev sh 179 128 [some (.ref i), a1, a2] (.ref i :: st) σ Q := Ev_step rfl
theorem s_M_comes_128 (h : sh i = 9) : Ev sh 179 128 [a0, a1, a2] (.ref i :: st) σ Q = Ev sh 179 131 [a0, a1, a2] (.ref 11 :: st) σ Q := Ev_h h rfl
theorem s_M_comes_131 : Ev sh 179 131 [a0, a1, some (.int x)] st σ Q = Ev sh 179 132 [a0, a1, some (.int x)] (.int x :: st) σ Q := Ev_step rfl
theorem s_M_comes_132 : Ev sh 179 132 [a0, a1, a2] st σ Q = Ev sh 179 133 [a0, a1, a2] (.int 1 :: st) σ Q := Ev_step rfl
theorem s_M_comes_133 : Ev sh 179 133 [a0, a1, a2] (.int y :: .int x :: st) σ Q = Ev sh 179 134 [a0, a1, a2] (.int (x + y) :: st) σ Q := Ev_step rfl
theorem s_M_comes_134 (h : zin x (sh i) = true) : Ev sh 179 134 [a0, a1, a2] (.int x :: .ref i :: st) σ Q = Ev sh 179 135 [a0, a1, a2] (.int (σ i x.toNatClampNeg) :: st) σ Q := Ev_h h rfl
theorem s_M_comes_135 : Ev sh 179 135 [some (.ref i), a1, a2] st σ Q = Ev sh 179 136 [some (.ref i), a1, a2] (.ref i :: st) σ Q := Ev_step rfl
theorem s_M_comes_136 (h : sh i = 9) : Ev sh 179 136 [a0, a1, a2] (.ref i :: st) σ Q = Ev sh 179 139 [a0, a1, a2] (.ref 11 :: st) σ Q := Ev_h h rfl
theorem s_M_comes_139 : Ev sh 179 139 [a0, a1, some (.int x)] st σ Q = Ev sh 179 140 [a0, a1, some (.int x)] (.int x :: st) σ Q := Ev_step rfl
theorem s_M_comes_140 : Ev sh 179 140 [a0, a1, a2] st σ Q = Ev sh 179 141 [a0, a1, a2] (.int 2 :: st) σ Q := Ev_step rfl
theorem s_M_comes_141 : Ev sh 179 141 [a0, a1, a2] (.int y :: .int x :: st) σ Q = Ev sh 179 142 [a0, a1, a2] (.int (x + y) :: st) σ Q := Ev_step rfl
theorem s_M_comes_142 (h : zin x (sh i) = true) : Ev sh 179 142 [a0, a1, a2] (.int x :: .ref i :: st) σ Q = Ev sh 179 143 [a0, a1, a2] (.int (σ i x.toNatClampNeg) :: st) σ Q := Ev_h h rfl
theorem s_M_comes_143 (h : sh i0 = 9) : Ev sh 179 143 [a0, a1, a2] [.int x3, .int x2, .int x1, .ref i0] σ Q = Ev sh 189 0 [some (.ref i0), some (.int x1), some (.int x2), some (.int x3)] [] σ (fun r s => Ev sh 179 146 [a0, a1, a2] (zpush r []) s Q) := Ev_callh (zrecv_of (by decide) h) rfl
theorem s_M_comes_146 : Ev sh 179 146 [a0, a1, a2] st σ Q = Ev sh 179 147 [a0, a1, a2] (.int 1 :: st) σ Q := Ev_step rfl
theorem s_M_comes_147 (h : x = 0 ∨ x = 1) : Ev sh 179 147 [a0, a1, a2] [.int x] σ Q = Q (some (.int x)) σ := Ev_rh h rfl
theorem s_M_comes_148 : Ev sh 179 148 [some (.ref i), a1, a2] st σ Q = Ev sh 179 149 [some (.ref i), a1, a2] (.ref i :: st) σ Q := Ev_step rfl
theorem s_M_comes_149 : Ev sh 179 149 [a0, a1, some (.int x)] st σ Q = Ev sh 179 150 [a0, a1, some (.int x)] (.int x :: st) σ Q := Ev_step rfl
theorem s_M_comes_150 (h : sh i0 = 9) : Ev sh 179 150 [a0, a1, a2] [.int x1, .ref i0] σ Q = Ev sh 177 0 [some (.ref i0), some (.int x1), none] [] σ (fun r s => Ev sh 179 153 [a0, a1, a2] (zpush r []) s Q) := Ev_callh (zrecv_of (by decide) h) rfl
theorem s_M_comes_153 (h : x = 0 ∨ x = 1) : Ev sh 179 153 [a0, a1, a2] [.int x] σ Q = Q (some (.int x)) σ := Ev_rh h rfl
theorem s_M_comes_154 : Ev sh 179 154 [some (.ref i), a1, a2] st σ Q = Ev sh 179 155 [some (.ref i), a1, a2] (.ref i :: st) σ Q := Ev_step rfl
theorem s_M_comes_155 (h : sh i = 9) : Ev sh 179 155 [a0, a1, a2] (.ref i :: st) σ Q = Ev sh 179 158 [a0, a1, a2] (.ref 11 :: st) σ Q := Ev_h h rfl
theorem s_M_comes_158 : Ev sh 179 158 [a0, a1, some (.int x)] st σ Q = Ev sh 179 159 [a0, a1, some (.int x)] (.int x :: st) σ Q := Ev_step rfl
theorem s_M_comes_159 (h : zin x (sh i) = true) : Ev sh 179 159 [a0, a1, a2] (.int x :: .ref i :: st) σ Q = Ev sh 179 160 [a0, a1, a2] (.int (σ i x.toNatClampNeg) :: st) σ Q := Ev_h h rfl
theorem s_M_comes_160 : Ev sh 179 160 [a0, a1, a2] st σ Q = Ev sh 179 161 [a0, a1, a2] (.int 1 :: st) σ Q := Ev_step rfl
theorem s_M_comes_161 : Ev sh 179 161 [some (.ref i), a1, a2] st σ Q = Ev sh 179 162 [some (.ref i), a1, a2] (.ref i :: st) σ Q := Ev_step rfl
theorem s_M_comes_162 (h : sh i = 9) : Ev sh 179 162 [a0, a1, a2] (.ref i :: st) σ Q = Ev sh 179 165 [a0, a1, a2] (.int (σ i 7) :: st) σ Q := Ev_h h rfl
theorem s_M_comes_165 : Ev sh 179 165 [a0, a1, a2] [.int x2, .int x1, .int x0] σ Q = Ev sh 163 0 [some (.int x0), some (.int x1), some (.int x2)] [] σ (fun r s => Ev sh 179 168 [a0, a1, a2] (zpush r []) s Q) := Ev_call rfl
theorem s_M_comes_168 : Ev sh 179 168 [a0, a1, a2] (.int x :: st) σ Q = if x ≠ 0 then Ev sh 179 173 [a0, a1, a2] st σ Q else Ev sh 179 171 [a0, a1, a2] st σ Q := Ev_if rfl
theorem s_M_comes_171 : Ev sh 179 171 [a0, a1, a2] st σ Q = Ev sh 179 172 [a0, a1, a2] (.int 0 :: st) σ Q := Ev_step rfl
theorem s_M_comes_172 (h : x = 0 ∨ x = 1) : Ev sh 179 172 [a0, a1, a2] [.int x] σ Q = Q (some (.int x)) σ := Ev_rh h rfl
theorem s_M_comes_173 : Ev sh 179 173 [some (.ref i), a1, a2] st σ Q = Ev sh 179 174 [some (.ref i), a1, a2] (.ref i :: st) σ Q := Ev_step rfl
theorem s_M_comes_174 : Ev sh 179 174 [a0, a1, a2] (.ref i :: st) σ Q = Ev sh 179 175 [a0, a1, a2] (.ref i :: .ref i :: st) σ Q := Ev_step rfl
theorem s_M_comes_175 (h : sh i = 9) : Ev sh 179 175 [a0, a1, a2] (.ref i :: st) σ Q = Ev sh 179 178 [a0, a1, a2] (.int (σ i 7) :: st) σ Q := Ev_h h rfl
theorem s_M_comes_178 : Ev sh 179 178 [some (.ref i), a1, a2] st σ Q = Ev sh 179 179 [some (.ref i), a1, a2] (.ref i :: st) σ Q := Ev_step rfl
theorem s_M_comes_179 (h : sh i = 9) : Ev sh 179 179 [a0, a1, a2] (.ref i :: st) σ Q = Ev sh 179 182 [a0, a1, a2] (.ref 11 :: st) σ Q := Ev_h h rfl
theorem s_M_comes_182 : Ev sh 179 182 [a0, a1, some (.int x)] st σ Q = Ev sh 179 183 [a0, a1, some (.int x)] (.int x :: st) σ Q := Ev_step rfl
theorem s_M_comes_183 (h : zin x (sh i) = true) : Ev sh 179 183 [a0, a1, a2] (.int x :: .ref i :: st) σ Q = Ev sh 179 184 [a0, a1, a2] (.int (σ i x.toNatClampNeg) :: st) σ Q := Ev_h h rfl
theorem s_M_comes_184 : Ev sh 179 184 [a0, a1, a2] (.int y :: .int x :: st) σ Q = Ev sh 179 185 [a0, a1, a2] (.int (x - y) :: st) σ Q := Ev_step rfl
theorem s_M_comes_185 (h : sh i = 9) : Ev sh 179 185 [a0, a1, a2] (.int x :: .ref i :: st) σ Q = Ev sh 179 188 [a0, a1, a2] st (zup σ i 7 x) Q := Ev_h h rfl
theorem s_M_comes_188 : Ev sh 179 188 [a0, a1, a2] st σ Q = Ev sh 179 189 [a0, a1, a2] (.int 1 :: st) σ Q := Ev_step rfl
theorem s_M_comes_189 (h : x = 0 ∨ x = 1) : Ev sh 179 189 [a0, a1, a2] [.int x] σ Q = Q (some (.int x)) σ := Ev_rh h rfl
theorem s_M_comes_190 : Ev sh 179 190 [some (.ref i), a1, a2] st σ Q = Ev sh 179 191 [some (.ref i), a1, a2] (.ref i :: st) σ Q := Ev_step rfl
theorem s_M_comes_191 : Ev sh 179 191 [some (.ref i), a1, a2] st σ Q = Ev sh 179 192 [some (.ref i), a1, a2] (.ref i :: st) σ Q := Ev_step rfl
theorem s_M_comes_192 (h : sh i = 9) : Ev sh 179 192 [a0, a1, a2] (.ref i :: st) σ Q = Ev sh 179 195 [a0, a1, a2] (.ref 11 :: st) σ Q := Ev_h h rfl
theorem s_M_comes_195 : Ev sh 179 195 [a0, a1, some (.int x)] st σ Q = Ev sh 179 196 [a0, a1, some (.int x)] (.int x :: st) σ Q := Ev_step rfl
theorem s_M_comes_196 (h : zin x (sh i) = true) : Ev sh 179 196 [a0, a1, a2] (.int x :: .ref i :: st) σ Q = Ev sh 179 197 [a0, a1, a2] (.int (σ i x.toNatClampNeg) :: st) σ Q := Ev_h h rfl
theorem s_M_comes_197 (h : sh i0 = 9) : Ev sh 179 197 [a0, a1, a2] [.int x1, .ref i0] σ Q = Ev sh 178 0 [some (.ref i0), some (.int x1)] [] σ (fun r s => Ev sh 179 200 [a0, a1, a2] (zpush r []) s Q) := Ev_callh (zrecv_of (by decide) h) rfl
theorem s_M_comes_200 (h : x = 0 ∨ x = 1) : Ev sh 179 200 [a0, a1, a2] [.int x] σ Q = Q (some (.int x)) σ := Ev_rh h rfl
theorem s_M_bridge_0 : Ev sh 180 0 [some (.ref i), a1, a2] st σ Q = Ev sh 180 1 [some (.ref i), a1, a2] (.ref i :: st) σ Q := Ev_step rfl
theorem s_M_bridge_1 : Ev sh 180 1 [a0, a1, a2] st σ Q = Ev sh 180 2 [a0, a1, a2] (.int 0 :: st) σ Q := Ev_step rfl
theorem s_M_bridge_2 (h : sh i = 9) : Ev sh 180 2 [a0, a1, a2] (.int x :: .ref i :: st) σ Q = Ev sh 180 5 [a0, a1, a2] st (zup σ i 15 x) Q := Ev_h h rfl
theorem s_M_bridge_5 : Ev sh 180 5 [some (.ref i), a1, a2] st σ Q = Ev sh 180 6 [some (.ref i), a1, a2] (.ref i :: st) σ Q := Ev_step rfl
theorem s_M_bridge_6 : Ev sh 180 6 [a0, a1, a2] st σ Q = Ev sh 180 7 [a0, a1, a2] (.int 0 :: st) σ Q := Ev_step rfl
theorem s_M_bridge_7 (h : sh i = 9) : Ev sh 180 7 [a0, a1, a2] (.int x :: .ref i :: st) σ Q = Ev sh 180 10 [a0, a1, a2] st (zup σ i 16 x) Q := Ev_h h rfl
theorem s_M_bridge_10 : Ev sh 180 10 [a0, a1, a2] st σ Q = Ev sh 180 11 [a0, a1, a2] (.int 1 :: st) σ Q := Ev_step rfl
theorem s_M_bridge_11 : Ev sh 180 11 [a0, a1, a2] (.int x :: st) σ Q = Ev sh 180 12 [zdrop2 a0, some (.int x), a2] st σ Q := Ev_step rfl
theorem s_M_bridge_12 : Ev sh 180 12 [a0, some (.int x), a2] st σ Q = Ev sh 180 13 [a0, some (.int x), a2] (.int x :: st) σ Q := Ev_step rfl
theorem s_M_bridge_13 : Ev sh 180 13 [a0, a1, a2] (.int x :: st) σ Q = if x = 0 then Ev sh 180 60 [a0, a1, a2] st σ Q else Ev sh 180 16 [a0, a1, a2] st σ Q := Ev_if rfl
theorem s_M_bridge_16 : Ev sh 180 16 [some (.ref i), a1, a2] st σ Q = Ev sh 180 17 [some (.ref i), a1, a2] (.ref i :: st) σ Q := Ev_step rfl
theorem s_M_bridge_17 (h : sh i = 9) : Ev sh 180 17 [a0, a1, a2] (.ref i :: st) σ Q = Ev sh 180 20 [a0, a1, a2] (.int (σ i 15) :: st) σ Q := Ev_h h rfl
theorem s_M_bridge_20 : Ev sh 180 20 [some (.ref i), a1, a2] st σ Q = Ev sh 180 21 [some (.ref i), a1, a2] (.ref i :: st) σ Q := Ev_step rfl
theorem s_M_bridge_21 (h : sh i = 9) : Ev sh 180 21 [a0, a1, a2] (.ref i :: st) σ Q = Ev sh 180 24 [a0, a1, a2] (.int (σ i 14) :: st) σ Q := Ev_h h rfl
theorem s_M_bridge_24 : Ev sh 180 24 [a0, a1, a2] (.int y :: .int x :: st) σ Q = if x < y then Ev sh 180 34 [a0, a1, a2] st σ Q else Ev sh 180 27 [a0, a1, a2] st σ Q := Ev_if rfl
theorem s_M_bridge_27 : Ev sh 180 27 [some (.ref i), a1, a2] st σ Q = Ev sh 180 28 [some (.ref i), a1, a2] (.ref i :: st) σ Q := Ev_step rfl
theorem s_M_bridge_28 (h : sh i = 9) : Ev sh 180 28 [a0, a1, a2] (.ref i :: st) σ Q = Ev sh 180 31 [a0, a1, a2] (.int (σ i 16) :: st) σ Q := Ev_h h rfl
theorem s_M_bridge_31 : Ev sh 180 31 [a0, a1, a2] (.int x :: st) σ Q = if x ≠ 0 then Ev sh 180 60 [a0, a1, a2] st σ Q else Ev sh 180 34 [a0, a1, a2] st σ Q := Ev_if rfl
theorem s_M_bridge_34 : Ev sh 180 34 [some (.ref i), a1, a2] st σ Q = Ev sh 180 35 [some (.ref i), a1, a2] (.ref i :: st) σ Q := Ev_step rfl
theorem s_M_bridge_35 (h : sh i0 = 9) : Ev sh 180 35 [a0, a1, a2] [.ref i0] σ Q = Ev sh 176 0 [some (.ref i0), none] [] σ (fun r s => Ev sh 180 38 [a0, a1, a2] (zpush r []) s Q) := Ev_callh (zrecv_of (by decide) h) rfl
theorem s_M_bridge_38 : Ev sh 180 38 [a0, a1, a2] (.int x :: st) σ Q = Ev sh 180 39 [zdrop2 a0, some (.int x), a2] st σ Q := Ev_step rfl
theorem s_M_bridge_39 : Ev sh 180 39 [some (.ref i), a1, a2] st σ Q = Ev sh 180 40 [some (.ref i), a1, a2] (.ref i :: st) σ Q := Ev_step rfl
theorem s_M_bridge_40 : Ev sh 180 40 [a0, a1, a2] (.ref i :: st) σ Q = Ev sh 180 41 [a0, a1, a2] (.ref i :: .ref i :: st) σ Q := Ev_step rfl
theorem s_M_bridge_41 (h : sh i = 9) : Ev sh 180 41 [a0, a1, a2] (.ref i :: st) σ Q = Ev sh 180 44 [a0, a1, a2] (.int (σ i 16) :: st) σ Q := Ev_h h rfl
theorem s_M_bridge_44 : Ev sh 180 44 [a0, some (.int x), a2] st σ Q = Ev sh 180 45 [a0, some (.int x), a2] (.int x :: st) σ Q := Ev_step rfl
theorem s_M_bridge_45 : Ev sh 180 45 [a0, a1, a2] (.int x :: st) σ Q = if x = 0 then Ev sh 180 52 [a0, a1, a2] st σ Q else Ev sh 180 48 [a0, a1, a2] st σ Q := Ev_if rfl
theorem s_M_bridge_48 : Ev sh 180 48 [a0, a1, a2] st σ Q = Ev sh 180 49 [a0, a1, a2] (.int 1 :: st) σ Q := Ev_step rfl
theorem s_M_bridge_49 : Ev sh 180 49 [a0, a1, a2] st σ Q = Ev sh 180 53 [a0, a1, a2] st σ Q := Ev_step rfl
theorem s_M_bridge_52 : Ev sh 180 52 [a0, a1, a2] st σ Q = Ev sh 180 53 [a0, a1, a2] (.int 0 :: st) σ Q := Ev_step rfl
theorem s_M_bridge_53 : Ev sh 180 53 [a0, a1, a2] (.int y :: .int x :: st) σ Q = Ev sh 180 54 [a0, a1, a2] (.int (x + y) :: st) σ Q := Ev_step rfl
theorem s_M_bridge_54 (h : sh i = 9) : Ev sh 180 54 [a0, a1, a2] (.int x :: .ref i :: st) σ Q = Ev sh 180 57 [a0, a1, a2] st (zup σ i 16 x) Q := Ev_h h rfl
theorem s_M_bridge_57 : Ev sh 180 57 [a0, a1, a2] st σ Q = Ev sh 180 12 [a0, a1, a2] st σ Q := Ev_step rfl
theorem s_M_bridge_60 : Ev sh 180 60 [some (.ref i), a1, a2] st σ Q = Ev sh 180 61 [some (.ref i), a1, a2] (.ref i :: st) σ Q := Ev_step rfl
theorem s_M_bridge_61 : Ev sh 180 61 [a0, a1, a2] st σ Q = Ev sh 180 62 [a0, a1, a2] (.int 0 :: st) σ Q := Ev_step rfl
theorem s_M_bridge_62 (h : sh i = 9) : Ev sh 180 62 [a0, a1, a2] (.int x :: .ref i :: st) σ Q = Ev sh 180 65 [a0, a1, a2] st (zup σ i 14 x) Q := Ev_h h rfl
theorem s_M_bridge_65 : Ev sh 180 65 [a0, some (.int x), a2] st σ Q = Ev sh 180 66 [a0, some (.int x), a2] (.int x :: st) σ Q := Ev_step rfl
theorem s_M_bridge_66 : Ev sh 180 66 [a0, a1, a2] (.int x :: st) σ Q = if x ≠ 0 then Ev sh 180 78 [a0, a1, a2] st σ Q else Ev sh 180 69 [a0, a1, a2] st σ Q := Ev_if rfl
theorem s_M_bridge_69 : Ev sh 180 69 [a0, a1, a2] st σ Q = Ev sh 180 72 [a0, a1, a2] (.int (-1000) :: st) σ Q := Ev_step rfl
theorem s_M_bridge_72 : Ev sh 180 72 [some (.ref i), a1, a2] st σ Q = Ev sh 180 73 [some (.ref i), a1, a2] (.ref i :: st) σ Q := Ev_step rfl
theorem s_M_bridge_73 (h : sh i = 9) : Ev sh 180 73 [a0, a1, a2] (.ref i :: st) σ Q = Ev sh 180 76 [a0, a1, a2] (.int (σ i 15) :: st) σ Q := Ev_h h rfl
theorem s_M_bridge_76 : Ev sh 180 76 [a0, a1, a2] (.int y :: .int x :: st) σ Q = Ev sh 180 77 [a0, a1, a2] (.int (x - y) :: st) σ Q := Ev_step rfl
theorem s_M_bridge_77 : Ev sh 180 77 [a0, a1, a2] [.int x] σ Q = Q (some (.int x)) σ := Ev_ret rfl
theorem s_M_bridge_78 : Ev sh 180 78 [some (.ref i), a1, a2] st σ Q = Ev sh 180 79 [some (.ref i), a1, a2] (.ref i :: st) σ Q := Ev_step rfl
theorem s_M_bridge_79 : Ev sh 180 79 [a0, a1, a2] st σ Q = Ev sh 180 80 [a0, a1, a2] (.int 1 :: st) σ Q := Ev_step rfl
theorem s_M_bridge_80 : Ev sh 180 80 [a0, a1, a2] st σ Q = Ev sh 180 81 [a0, a1, a2] (.int 1 :: st) σ Q := Ev_step rfl
theorem s_M_bridge_81 (h : sh i0 = 9) : Ev sh 180 81 [a0, a1, a2] [.int x2, .int x1, .ref i0] σ Q = Ev sh 183 0 [some (.ref i0), some (.int x1), some (.int x2)] [] σ (fun r s => Ev sh 180 84 [a0, a1, a2] (zpush r []) s Q) := Ev_callh (zrecv_of (by decide) h) rfl
theorem s_M_bridge_84 : Ev sh 180 84 [a0, a1, a2] st σ Q = Ev sh 180 85 [a0, a1, a2] (.int 0 :: st) σ Q := Ev_step rfl
theorem s_M_bridge_85 : Ev sh 180 85 [a0, a1, a2] (.int x :: st) σ Q = Ev sh 180 86 [a0, zdrop2 a1, some (.int x)] st σ Q := Ev_step rfl
theorem s_M_bridge_86 : Ev sh 180 86 [a0, a1, some (.int x)] st σ Q = Ev sh 180 87 [a0, a1, some (.int x)] (.int x :: st) σ Q := Ev_step rfl
theorem s_M_bridge_87 : Ev sh 180 87 [some (.ref i), a1, a2] st σ Q = Ev sh 180 88 [some (.ref i), a1, a2] (.ref i :: st) σ Q := Ev_step rfl
theorem s_M_bridge_88 (h : sh i = 9) : Ev sh 180 88 [a0, a1, a2] (.ref i :: st) σ Q = Ev sh 180 91 [a0, a1, a2] (.int (σ i 16) :: st) σ Q := Ev_h h rfl
theorem s_M_bridge_91 : Ev sh 180 91 [a0, a1, a2] (.int y :: .int x :: st) σ Q = if y ≤ x then Ev sh 180 128 [a0, a1, a2] st σ Q else Ev sh 180 94 [a0, a1, a2] st σ Q := Ev_if rfl
theorem s_M_bridge_94 : Ev sh 180 94 [some (.ref i), a1, a2] st σ Q = Ev sh 180 95 [some (.ref i), a1, a2] (.ref i :: st) σ Q := Ev_step rfl
theorem s_M_bridge_95 : Ev sh 180 95 [a0, a1, some (.int x)] st σ Q = Ev sh 180 96 [a0, a1, some (.int x)] (.int x :: st) σ Q := Ev_step rfl
theorem s_M_bridge_96 (h : sh i0 = 9) : Ev sh 180 96 [a0, a1, a2] [.int x1, .ref i0] σ Q = Ev sh 179 0 [some (.ref i0), some (.int x1), none] [] σ (fun r s => Ev sh 180 99 [a0, a1, a2] (zpush r []) s Q) := Ev_callh (zrecv_of (by decide) h) rfl
theorem s_M_bridge_99 : Ev sh 180 99 [a0, a1, a2] (.int x :: st) σ Q = if x = 0 then Ev sh 180 105 [a0, a1, a2] st σ Q else Ev sh 180 102 [a0, a1, a2] st σ Q := Ev_if rfl
theorem s_M_bridge_102 : Ev sh 180 102 [a0, a1, a2] st σ Q = Ev sh 180 122 [a0, a1, a2] st σ Q := Ev_step rfl
theorem s_M_bridge_105 : Ev sh 180 105 [some (.ref i), a1, a2] st σ Q = Ev sh 180 106 [some (.ref i), a1, a2] (.ref i :: st) σ Q := Ev_step rfl
theorem s_M_bridge_106 : Ev sh 180 106 [a0, a1, a2] st σ Q = Ev sh 180 107 [a0, a1, a2] (.int 1 :: st) σ Q := Ev_step rfl
theorem s_M_bridge_107 : Ev sh 180 107 [a0, a1, a2] st σ Q = Ev sh 180 108 [a0, a1, a2] (.int 0 :: st) σ Q := Ev_step rfl
theorem s_M_bridge_108 (h : sh i0 = 9) : Ev sh 180 108 [a0, a1, a2] [.int x2, .int x1, .ref i0] σ Q = Ev sh 183 0 [some (.ref i0), some (.int x1), some (.int x2)] [] σ (fun r s => Ev sh 180 111 [a0, a1, a2] (zpush r []) s Q) := Ev_callh (zrecv_of (by decide) h) rfl
theorem s_M_bridge_111 : Ev sh 180 111 [a0, a1, a2] st σ Q = Ev sh 180 114 [a0, a1, a2] (.int (-2000) :: st) σ Q := Ev_step rfl
theorem s_M_bridge_114 : Ev sh 180 114 [some (.ref i), a1, a2] st σ Q = Ev sh 180 115 [some (.ref i), a1, a2] (.ref i :: st) σ Q := Ev_step rfl
theorem s_M_bridge_115 (h : sh i = 9) : Ev sh 180 115 [a0, a1, a2] (.ref i :: st) σ Q = Ev sh 180 118 [a0, a1, a2] (.ref 10 :: st) σ Q := Ev_h h rfl
theorem s_M_bridge_118 : Ev sh 180 118 [a0, a1, some (.int x)] st σ Q = Ev sh 180 119 [a0, a1, some (.int x)] (.int x :: st) σ Q := Ev_step rfl
theorem s_M_bridge_119 (h : zin x (sh i) = true) : Ev sh 180 119 [a0, a1, a2] (.int x :: .ref i :: st) σ Q = Ev sh 180 120 [a0, a1, a2] (.int (σ i x.toNatClampNeg) :: st) σ Q := Ev_h h rfl
theorem s_M_bridge_120 : Ev sh 180 120 [a0, a1, a2] (.int y :: .int x :: st) σ Q = Ev sh 180 121 [a0, a1, a2] (.int (x - y) :: st) σ Q := Ev_step rfl
theorem s_M_bridge_121 : Ev sh 180 121 [a0, a1, a2] [.int x] σ Q = Q (some (.int x)) σ := Ev_ret rfl
theorem s_M_bridge_122 : Ev sh 180 122 [a0, a1, some (.int x)] st σ Q = Ev sh 180 125 [a0, a1, some (.int (x + 1))] st σ Q := Ev_step rfl
theorem s_M_bridge_125 : Ev sh 180 125 [a0, a1, a2] st σ Q = Ev sh 180 86 [a0, a1, a2] st σ Q := Ev_step rfl
theorem s_M_bridge_128 : Ev sh 180 128 [some (.ref i), a1, a2] st σ Q = Ev sh 180 129 [some (.ref i), a1, a2] (.ref i :: st) σ Q := Ev_step rfl
theorem s_M_bridge_129 (h : sh i = 9) : Ev sh 180 129 [a0, a1, a2] (.ref i :: st) σ Q = Ev sh 180 132 [a0, a1, a2] (.int (σ i 16) :: st) σ Q := Ev_h h rfl
theorem s_M_bridge_132 : Ev sh 180 132 [a0, a1, a2] [.int x] σ Q = Q (some (.int x)) σ := Ev_ret rfl
theorem s_M_passes_0 : Ev sh 181 0 [a0, a1, a2] st σ Q = Ev sh 181 1 [a0, a1, a2] (.int 0 :: st) σ Q := Ev_step rfl
theorem s_M_passes_1 : Ev sh 181 1 [a0, a1, a2] (.int x :: st) σ Q = Ev sh 181 2 [a0, zdrop2 a1, some (.int x)] st σ Q := Ev_step rfl
theorem s_M_passes_2 : Ev sh 181 2 [a0, a1, some (.int x)] st σ Q = Ev sh 181 3 [a0, a1, some (.int x)] (.int x :: st) σ Q := Ev_step rfl
theorem s_M_passes_3 : Ev sh 181 3 [a0, some (.ref i), a2] st σ Q = Ev sh 181 4 [a0, some (.ref i), a2] (.ref i :: st) σ Q := Ev_step rfl
theorem s_M_passes_4 (h : i < 1000) (h2 : 100 ≤ sh i) : Ev sh 181 4 [a0, a1, a2] (.ref i :: st) σ Q = Ev sh 181 5 [a0, a1, a2] (.int (nI (sh i - 100)) :: st) σ Q := by rw [Ev_h (c := i < 1000 ∧ 100 ≤ sh i) ⟨h, h2⟩]; exact (if_pos h).trans ((if_pos h2).trans (if_pos ⟨h, h2⟩).symm)
theorem s_M_passes_5 : Ev sh 181 5 [a0, a1, a2] (.int y :: .int x :: st) σ Q = if y ≤ x then Ev sh 181 58 [a0, a1, a2] st σ Q else Ev sh 181 8 [a0, a1, a2] st σ Q := Ev_if rfl
theorem s_M_passes_8 : Ev sh 181 8 [some (.ref i), a1, a2] st σ Q = Ev sh 181 9 [some (.ref i), a1, a2] (.ref i :: st) σ Q := Ev_step rfl
theorem s_M_passes_9 (h : sh i = 9) : Ev sh 181 9 [a0, a1, a2] (.ref i :: st) σ Q = Ev sh 181 12 [a0, a1, a2] (.int (σ i 19) :: st) σ Q := Ev_h h rfl
theorem s_M_passes_12 : Ev sh 181 12 [a0, a1, a2] (.int x :: st) σ Q = if x = 0 then Ev sh 181 30 [a0, a1, a2] st σ Q else Ev sh 181 15 [a0, a1, a2] st σ Q := Ev_if rfl
theorem s_M_passes_15 : Ev sh 181 15 [some (.ref i), a1, a2] st σ Q = Ev sh 181 16 [some (.ref i), a1, a2] (.ref i :: st) σ Q := Ev_step rfl
theorem s_M_passes_16 (h : sh i = 9) : Ev sh 181 16 [a0, a1, a2] (.ref i :: st) σ Q = Ev sh 181 19 [a0, a1, a2] (.ref 12 :: st) σ Q := Ev_h h rfl
theorem s_M_passes_19 : Ev sh 181 19 [some (.ref i), a1, a2] st σ Q = Ev sh 181 20 [some (.ref i), a1, a2] (.ref i :: st) σ Q := Ev_step rfl
theorem s_M_passes_20 (h : sh i = 9) : Ev sh 181 20 [a0, a1, a2] (.ref i :: st) σ Q = Ev sh 181 23 [a0, a1, a2] (.int (σ i 20) :: st) σ Q := Ev_h h rfl
theorem s_M_passes_23 : Ev sh 181 23 [a0, some (.ref i), a2] st σ Q = Ev sh 181 24 [a0, some (.ref i), a2] (.ref i :: st) σ Q := Ev_step rfl
theorem s_M_passes_24 : Ev sh 181 24 [a0, a1, some (.int x)] st σ Q = Ev sh 181 25 [a0, a1, some (.int x)] (.int x :: st) σ Q := Ev_step rfl
theorem s_M_passes_25 (h : zin x (sh i) = true) : Ev sh 181 25 [a0, a1, a2] (.int x :: .ref i :: st) σ Q = Ev sh 181 26 [a0, a1, a2] (.int (σ i x.toNatClampNeg) :: st) σ Q := Ev_h h rfl
theorem s_M_passes_26 (h : zin x (sh i) = true) : Ev sh 181 26 [a0, a1, a2] (.int y :: .int x :: .ref i :: st) σ Q = Ev sh 181 27 [a0, a1, a2] st (zup σ i x.toNatClampNeg y) Q := Ev_h h rfl
theorem s_M_passes_27 : Ev sh 181 27 [a0, a1, a2] st σ Q = Ev sh 181 42 [a0, a1, a2] st σ Q := Ev_step rfl
theorem s_M_passes_30 : Ev sh 181 30 [a0, some (.ref i), a2] st σ Q = Ev sh 181 31 [a0, some (.ref i), a2] (.ref i :: st) σ Q := Ev_step rfl
theorem s_M_passes_31 : Ev sh 181 31 [a0, a1, some (.int x)] st σ Q = Ev sh 181 32 [a0, a1, some (.int x)] (.int x :: st) σ Q := Ev_step rfl
theorem s_M_passes_32 : Ev sh 181 32 [some (.ref i), a1, a2] st σ Q = Ev sh 181 33 [some (.ref i), a1, a2] (.ref i :: st) σ Q := Ev_step rfl
theorem s_M_passes_33 (h : sh i = 9) : Ev sh 181 33 [a0, a1, a2] (.ref i :: st) σ Q = Ev sh 181 36 [a0, a1, a2] (.ref 12 :: st) σ Q := Ev_h h rfl
theorem s_M_passes_36 : Ev sh 181 36 [some (.ref i), a1, a2] st σ Q = Ev sh 181 37 [some (.ref i), a1, a2] (.ref i :: st) σ Q := Ev_step rfl
theorem s_M_passes_37 (h : sh i = 9) : Ev sh 181 37 [a0, a1, a2] (.ref i :: st) σ Q = Ev sh 181 40 [a0, a1, a2] (.int (σ i 20) :: st) σ Q := Ev_h h rfl
theorem s_M_passes_40 (h : zin x (sh i) = true) : Ev sh 181 40 [a0, a1, a2] (.int x :: .ref i :: st) σ Q = Ev sh 181 41 [a0, a1, a2] (.int (σ i x.toNatClampNeg) :: st) σ Q := Ev_h h rfl
theorem s_M_passes_41 (h : zin x (sh i) = true) : Ev sh 181 41 [a0, a1, a2] (.int y :: .int x :: .ref i :: st) σ Q = Ev sh 181 42 [a0, a1, a2] st (zup σ i x.toNatClampNeg y) Q := Ev_h h rfl
theorem s_M_passes_42 : Ev sh 181 42 [some (.ref i), a1, a2] st σ Q = Ev sh 181 43 [some (.ref i), a1, a2] (.ref i :: st) σ Q := Ev_step rfl
theorem s_M_passes_43 : Ev sh 181 43 [a0, a1, a2] (.ref i :: st) σ Q = Ev sh 181 44 [a0, a1, a2] (.ref i :: .ref i :: st) σ Q := Ev_step rfl
theorem s_M_passes_44 (h : sh i = 9) : Ev sh 181 44 [a0, a1, a2] (.ref i :: st) σ Q = Ev sh 181 47 [a0, a1, a2] (.int (σ i 20) :: st) σ Q := Ev_h h rfl
theorem s_M_passes_47 : Ev sh 181 47 [a0, a1, a2] st σ Q = Ev sh 181 48 [a0, a1, a2] (.int 1 :: st) σ Q := Ev_step rfl
theorem s_M_passes_48 : Ev sh 181 48 [a0, a1, a2] (.int y :: .int x :: st) σ Q = Ev sh 181 49 [a0, a1, a2] (.int (x + y) :: st) σ Q := Ev_step rfl
theorem s_M_passes_49 (h : sh i = 9) : Ev sh 181 49 [a0, a1, a2] (.int x :: .ref i :: st) σ Q = Ev sh 181 52 [a0, a1, a2] st (zup σ i 20 x) Q := Ev_h h rfl
theorem s_M_passes_52 : Ev sh 181 52 [a0, a1, some (.int x)] st σ Q = Ev sh 181 55 [a0, a1, some (.int (x + 1))] st σ Q := Ev_step rfl
theorem s_M_passes_55 : Ev sh 181 55 [a0, a1, a2] st σ Q = Ev sh 181 2 [a0, a1, a2] st σ Q := Ev_step rfl
theorem s_M_passes_58 : Ev sh 181 58 [a0, a1, a2] [] σ Q = Q none σ := Ev_ret rfl
theorem s_M_passOne_0 : Ev sh 182 0 [some (.ref i), a1, a2] st σ Q = Ev sh 182 1 [some (.ref i), a1, a2] (.ref i :: st) σ Q := Ev_step rfl
theorem s_M_passOne_1 (h : sh i = 9) : Ev sh 182 1 [a0, a1, a2] (.ref i :: st) σ Q = Ev sh 182 4 [a0, a1, a2] (.int (σ i 19) :: st) σ Q := Ev_h h rfl
theorem s_M_passOne_4 : Ev sh 182 4 [a0, a1, a2] (.int x :: st) σ Q = if x = 0 then Ev sh 182 11 [a0, a1, a2] st σ Q else Ev sh 182 7 [a0, a1, a2] st σ Q := Ev_if rfl
theorem s_M_passOne_7 : Ev sh 182 7 [a0, some (.int x), a2] st σ Q = Ev sh 182 8 [a0, some (.int x), a2] (.int x :: st) σ Q := Ev_step rfl
theorem s_M_passOne_8 : Ev sh 182 8 [a0, a1, a2] st σ Q = Ev sh 182 20 [a0, a1, a2] st σ Q := Ev_step rfl
theorem s_M_passOne_11 : Ev sh 182 11 [some (.ref i), a1, a2] st σ Q = Ev sh 182 12 [some (.ref i), a1, a2] (.ref i :: st) σ Q := Ev_step rfl
theorem s_M_passOne_12 (h : sh i = 9) : Ev sh 182 12 [a0, a1, a2] (.ref i :: st) σ Q = Ev sh 182 15 [a0, a1, a2] (.ref 12 :: st) σ Q := Ev_h h rfl
theorem s_M_passOne_15 : Ev sh 182 15 [some (.ref i), a1, a2] st σ Q = Ev sh 182 16 [some (.ref i), a1, a2] (.ref i :: st) σ Q := Ev_step rfl
theorem s_M_passOne_16 (h : sh i = 9) : Ev sh 182 16 [a0, a1, a2] (.ref i :: st) σ Q = Ev sh 182 19 [a0, a1, a2] (.int (σ i 20) :: st) σ Q := Ev_h h rfl
theorem s_M_passOne_19 (h : zin x (sh i) = true) : Ev sh 182 19 [a0, a1, a2] (.int x :: .ref i :: st) σ Q = Ev sh 182 20 [a0, a1, a2] (.int (σ i x.toNatClampNeg) :: st) σ Q := Ev_h h rfl
theorem s_M_passOne_20 : Ev sh 182 20 [a0, a1, a2] (.int x :: st) σ Q = Ev sh 182 21 [a0, zdrop2 a1, some (.int x)] st σ Q := Ev_step rfl
theorem s_M_passOne_21 : Ev sh 182 21 [some (.ref i), a1, a2] st σ Q = Ev sh 182 22 [some (.ref i), a1, a2] (.ref i :: st) σ Q := Ev_step rfl
theorem s_M_passOne_22 (h : sh i = 9) : Ev sh 182 22 [a0, a1, a2] (.ref i :: st) σ Q = Ev sh 182 25 [a0, a1, a2] (.int (σ i 19) :: st) σ Q := Ev_h h rfl
theorem s_M_passOne_25 : Ev sh 182 25 [a0, a1, a2] (.int x :: st) σ Q = if x = 0 then Ev sh 182 38 [a0, a1, a2] st σ Q else Ev sh 182 28 [a0, a1, a2] st σ Q := Ev_if rfl
theorem s_M_passOne_28 : Ev sh 182 28 [some (.ref i), a1, a2] st σ Q = Ev sh 182 29 [some (.ref i), a1, a2] (.ref i :: st) σ Q := Ev_step rfl
theorem s_M_passOne_29 (h : sh i = 9) : Ev sh 182 29 [a0, a1, a2] (.ref i :: st) σ Q = Ev sh 182 32 [a0, a1, a2] (.ref 12 :: st) σ Q := Ev_h h rfl
theorem s_M_passOne_32 : Ev sh 182 32 [some (.ref i), a1, a2] st σ Q = Ev sh 182 33 [some (.ref i), a1, a2] (.ref i :: st) σ Q := Ev_step rfl
theorem s_M_passOne_33 (h : sh i = 9) : Ev sh 182 33 [a0, a1, a2] (.ref i :: st) σ Q = Ev sh 182 36 [a0, a1, a2] (.int (σ i 20) :: st) σ Q := Ev_h h rfl
theorem s_M_passOne_36 : Ev sh 182 36 [a0, some (.int x), a2] st σ Q = Ev sh 182 37 [a0, some (.int x), a2] (.int x :: st) σ Q := Ev_step rfl
theorem s_M_passOne_37 (h : zin x (sh i) = true) : Ev sh 182 37 [a0, a1, a2] (.int y :: .int x :: .ref i :: st) σ Q = Ev sh 182 38 [a0, a1, a2] st (zup σ i x.toNatClampNeg y) Q := Ev_h h rfl
theorem s_M_passOne_38 : Ev sh 182 38 [some (.ref i), a1, a2] st σ Q = Ev sh 182 39 [some (.ref i), a1, a2] (.ref i :: st) σ Q := Ev_step rfl
theorem s_M_passOne_39 : Ev sh 182 39 [a0, a1, a2] (.ref i :: st) σ Q = Ev sh 182 40 [a0, a1, a2] (.ref i :: .ref i :: st) σ Q := Ev_step rfl
theorem s_M_passOne_40 (h : sh i = 9) : Ev sh 182 40 [a0, a1, a2] (.ref i :: st) σ Q = Ev sh 182 43 [a0, a1, a2] (.int (σ i 20) :: st) σ Q := Ev_h h rfl
theorem s_M_passOne_43 : Ev sh 182 43 [a0, a1, a2] st σ Q = Ev sh 182 44 [a0, a1, a2] (.int 1 :: st) σ Q := Ev_step rfl
theorem s_M_passOne_44 : Ev sh 182 44 [a0, a1, a2] (.int y :: .int x :: st) σ Q = Ev sh 182 45 [a0, a1, a2] (.int (x + y) :: st) σ Q := Ev_step rfl
theorem s_M_passOne_45 (h : sh i = 9) : Ev sh 182 45 [a0, a1, a2] (.int x :: .ref i :: st) σ Q = Ev sh 182 48 [a0, a1, a2] st (zup σ i 20 x) Q := Ev_h h rfl
theorem s_M_passOne_48 : Ev sh 182 48 [a0, a1, some (.int x)] st σ Q = Ev sh 182 49 [a0, a1, some (.int x)] (.int x :: st) σ Q := Ev_step rfl
theorem s_M_passOne_49 : Ev sh 182 49 [a0, a1, a2] [.int x] σ Q = Q (some (.int x)) σ := Ev_ret rfl
theorem s_M_passesAll_0 : Ev sh 183 0 [some (.ref i), a1, a2] st σ Q = Ev sh 183 1 [some (.ref i), a1, a2] (.ref i :: st) σ Q := Ev_step rfl
theorem s_M_passesAll_1 : Ev sh 183 1 [a0, a1, a2] st σ Q = Ev sh 183 3 [a0, a1, a2] (.int 48 :: st) σ Q := Ev_step rfl
theorem s_M_passesAll_3 : Ev sh 183 3 [a0, some (.int x), a2] st σ Q = Ev sh 183 4 [a0, some (.int x), a2] (.int x :: st) σ Q := Ev_step rfl
theorem s_M_passesAll_4 : Ev sh 183 4 [a0, a1, a2] (.int y :: .int x :: st) σ Q = Ev sh 183 5 [a0, a1, a2] (.int (x * y) :: st) σ Q := Ev_step rfl
theorem s_M_passesAll_5 (h : sh i = 9) : Ev sh 183 5 [a0, a1, a2] (.int x :: .ref i :: st) σ Q = Ev sh 183 8 [a0, a1, a2] st (zup σ i 20 x) Q := Ev_h h rfl
theorem s_M_passesAll_8 : Ev sh 183 8 [some (.ref i), a1, a2] st σ Q = Ev sh 183 9 [some (.ref i), a1, a2] (.ref i :: st) σ Q := Ev_step rfl
theorem s_M_passesAll_9 : Ev sh 183 9 [a0, a1, some (.int x)] st σ Q = Ev sh 183 10 [a0, a1, some (.int x)] (.int x :: st) σ Q := Ev_step rfl
theorem s_M_passesAll_10 (h : sh i = 9) (hx : x = 0 ∨ x = 1) : Ev sh 183 10 [a0, a1, a2] (.int x :: .ref i :: st) σ Q = Ev sh 183 13 [a0, a1, a2] st (zup σ i 19 x) Q := Ev_h ⟨h, hx⟩ rfl
theorem s_M_passesAll_13 : Ev sh 183 13 [some (.ref i), a1, a2] st σ Q = Ev sh 183 14 [some (.ref i), a1, a2] (.ref i :: st) σ Q := Ev_step rfl
theorem s_M_passesAll_14 : Ev sh 183 14 [some (.ref i), a1, a2] st σ Q = Ev sh 183 15 [some (.ref i), a1, a2] (.ref i :: st) σ Q := Ev_step rfl
theorem s_M_passesAll_15 (h : sh i = 9) : Ev sh 183 15 [a0, a1, a2] (.ref i :: st) σ Q = Ev sh 183 18 [a0, a1, a2] (.ref 2 :: st) σ Q := Ev_h h rfl
theorem s_M_passesAll_18 (h : sh i0 = 9) : Ev sh 183 18 [a0, a1, a2] [.ref i1, .ref i0] σ Q = Ev sh 181 0 [some (.ref i0), some (.ref i1), none] [] σ (fun r s => Ev sh 183 21 [a0, a1, a2] (zpush r []) s Q) := Ev_callh (zrecv_of (by decide) h) rfl
theorem s_M_passesAll_21 : Ev sh 183 21 [some (.ref i), a1, a2] st σ Q = Ev sh 183 22 [some (.ref i), a1, a2] (.ref i :: st) σ Q := Ev_step rfl
theorem s_M_passesAll_22 : Ev sh 183 22 [some (.ref i), a1, a2] st σ Q = Ev sh 183 23 [some (.ref i), a1, a2] (.ref i :: st) σ Q := Ev_step rfl
theorem s_M_passesAll_23 (h : sh i = 9) : Ev sh 183 23 [a0, a1, a2] (.ref i :: st) σ Q = Ev sh 183 26 [a0, a1, a2] (.ref 3 :: st) σ Q := Ev_h h rfl
theorem s_M_passesAll_26 (h : sh i0 = 9) : Ev sh 183 26 [a0, a1, a2] [.ref i1, .ref i0] σ Q = Ev sh 181 0 [some (.ref i0), some (.ref i1), none] [] σ (fun r s => Ev sh 183 29 [a0, a1, a2] (zpush r []) s Q) := Ev_callh (zrecv_of (by decide) h) rfl
theorem s_M_passesAll_29 : Ev sh 183 29 [some (.ref i), a1, a2] st σ Q = Ev sh 183 30 [some (.ref i), a1, a2] (.ref i :: st) σ Q := Ev_step rfl
theorem s_M_passesAll_30 : Ev sh 183 30 [some (.ref i), a1, a2] st σ Q = Ev sh 183 31 [some (.ref i), a1, a2] (.ref i :: st) σ Q := Ev_step rfl
theorem s_M_passesAll_31 (h : sh i = 9) : Ev sh 183 31 [a0, a1, a2] (.ref i :: st) σ Q = Ev sh 183 34 [a0, a1, a2] (.ref 4 :: st) σ Q := Ev_h h rfl
theorem s_M_passesAll_34 (h : sh i0 = 9) : Ev sh 183 34 [a0, a1, a2] [.ref i1, .ref i0] σ Q = Ev sh 181 0 [some (.ref i0), some (.ref i1), none] [] σ (fun r s => Ev sh 183 37 [a0, a1, a2] (zpush r []) s Q) := Ev_callh (zrecv_of (by decide) h) rfl
theorem s_M_passesAll_37 : Ev sh 183 37 [some (.ref i), a1, a2] st σ Q = Ev sh 183 38 [some (.ref i), a1, a2] (.ref i :: st) σ Q := Ev_step rfl
theorem s_M_passesAll_38 : Ev sh 183 38 [some (.ref i), a1, a2] st σ Q = Ev sh 183 39 [some (.ref i), a1, a2] (.ref i :: st) σ Q := Ev_step rfl
theorem s_M_passesAll_39 (h : sh i = 9) : Ev sh 183 39 [a0, a1, a2] (.ref i :: st) σ Q = Ev sh 183 42 [a0, a1, a2] (.ref 5 :: st) σ Q := Ev_h h rfl
theorem s_M_passesAll_42 (h : sh i0 = 9) : Ev sh 183 42 [a0, a1, a2] [.ref i1, .ref i0] σ Q = Ev sh 181 0 [some (.ref i0), some (.ref i1), none] [] σ (fun r s => Ev sh 183 45 [a0, a1, a2] (zpush r []) s Q) := Ev_callh (zrecv_of (by decide) h) rfl
theorem s_M_passesAll_45 : Ev sh 183 45 [some (.ref i), a1, a2] st σ Q = Ev sh 183 46 [some (.ref i), a1, a2] (.ref i :: st) σ Q := Ev_step rfl
theorem s_M_passesAll_46 : Ev sh 183 46 [some (.ref i), a1, a2] st σ Q = Ev sh 183 47 [some (.ref i), a1, a2] (.ref i :: st) σ Q := Ev_step rfl
theorem s_M_passesAll_47 (h : sh i = 9) : Ev sh 183 47 [a0, a1, a2] (.ref i :: st) σ Q = Ev sh 183 50 [a0, a1, a2] (.ref 6 :: st) σ Q := Ev_h h rfl
theorem s_M_passesAll_50 (h : sh i0 = 9) : Ev sh 183 50 [a0, a1, a2] [.ref i1, .ref i0] σ Q = Ev sh 181 0 [some (.ref i0), some (.ref i1), none] [] σ (fun r s => Ev sh 183 53 [a0, a1, a2] (zpush r []) s Q) := Ev_callh (zrecv_of (by decide) h) rfl
theorem s_M_passesAll_53 : Ev sh 183 53 [some (.ref i), a1, a2] st σ Q = Ev sh 183 54 [some (.ref i), a1, a2] (.ref i :: st) σ Q := Ev_step rfl
theorem s_M_passesAll_54 : Ev sh 183 54 [some (.ref i), a1, a2] st σ Q = Ev sh 183 55 [some (.ref i), a1, a2] (.ref i :: st) σ Q := Ev_step rfl
theorem s_M_passesAll_55 (h : sh i = 9) : Ev sh 183 55 [a0, a1, a2] (.ref i :: st) σ Q = Ev sh 183 58 [a0, a1, a2] (.ref 7 :: st) σ Q := Ev_h h rfl
theorem s_M_passesAll_58 (h : sh i0 = 9) : Ev sh 183 58 [a0, a1, a2] [.ref i1, .ref i0] σ Q = Ev sh 181 0 [some (.ref i0), some (.ref i1), none] [] σ (fun r s => Ev sh 183 61 [a0, a1, a2] (zpush r []) s Q) := Ev_callh (zrecv_of (by decide) h) rfl
theorem s_M_passesAll_61 : Ev sh 183 61 [some (.ref i), a1, a2] st σ Q = Ev sh 183 62 [some (.ref i), a1, a2] (.ref i :: st) σ Q := Ev_step rfl
theorem s_M_passesAll_62 : Ev sh 183 62 [some (.ref i), a1, a2] st σ Q = Ev sh 183 63 [some (.ref i), a1, a2] (.ref i :: st) σ Q := Ev_step rfl
theorem s_M_passesAll_63 : Ev sh 183 63 [some (.ref i), a1, a2] st σ Q = Ev sh 183 64 [some (.ref i), a1, a2] (.ref i :: st) σ Q := Ev_step rfl
theorem s_M_passesAll_64 (h : sh i = 9) : Ev sh 183 64 [a0, a1, a2] (.ref i :: st) σ Q = Ev sh 183 67 [a0, a1, a2] (.int (σ i 7) :: st) σ Q := Ev_h h rfl
theorem s_M_passesAll_67 (h : sh i1 = 9) : Ev sh 183 67 [a0, a1, a2] [.int x2, .ref i1, .ref i0] σ Q = Ev sh 182 0 [some (.ref i1), some (.int x2), none] [] σ (fun r s => Ev sh 183 70 [a0, a1, a2] (zpush r [.ref i0]) s Q) := Ev_callh (zrecv_of (by decide) h) rfl
theorem s_M_passesAll_70 (h : sh i = 9) : Ev sh 183 70 [a0, a1, a2] (.int x :: .ref i :: st) σ Q = Ev sh 183 73 [a0, a1, a2] st (zup σ i 7 x) Q := Ev_h h rfl
theorem s_M_passesAll_73 : Ev sh 183 73 [some (.ref i), a1, a2] st σ Q = Ev sh 183 74 [some (.ref i), a1, a2] (.ref i :: st) σ Q := Ev_step rfl
theorem s_M_passesAll_74 : Ev sh 183 74 [some (.ref i), a1, a2] st σ Q = Ev sh 183 75 [some (.ref i), a1, a2] (.ref i :: st) σ Q := Ev_step rfl
theorem s_M_passesAll_75 : Ev sh 183 75 [some (.ref i), a1, a2] st σ Q = Ev sh 183 76 [some (.ref i), a1, a2] (.ref i :: st) σ Q := Ev_step rfl
theorem s_M_passesAll_76 (h : sh i = 9) : Ev sh 183 76 [a0, a1, a2] (.ref i :: st) σ Q = Ev sh 183 79 [a0, a1, a2] (.int (σ i 8) :: st) σ Q := Ev_h h rfl
theorem s_M_passesAll_79 (h : sh i1 = 9) : Ev sh 183 79 [a0, a1, a2] [.int x2, .ref i1, .ref i0] σ Q = Ev sh 182 0 [some (.ref i1), some (.int x2), none] [] σ (fun r s => Ev sh 183 82 [a0, a1, a2] (zpush r [.ref i0]) s Q) := Ev_callh (zrecv_of (by decide) h) rfl
theorem s_M_passesAll_82 (h : sh i = 9) : Ev sh 183 82 [a0, a1, a2] (.int x :: .ref i :: st) σ Q = Ev sh 183 85 [a0, a1, a2] st (zup σ i 8 x) Q := Ev_h h rfl
theorem s_M_passesAll_85 : Ev sh 183 85 [some (.ref i), a1, a2] st σ Q = Ev sh 183 86 [some (.ref i), a1, a2] (.ref i :: st) σ Q := Ev_step rfl
theorem s_M_passesAll_86 : Ev sh 183 86 [some (.ref i), a1, a2] st σ Q = Ev sh 183 87 [some (.ref i), a1, a2] (.ref i :: st) σ Q := Ev_step rfl
theorem s_M_passesAll_87 : Ev sh 183 87 [some (.ref i), a1, a2] st σ Q = Ev sh 183 88 [some (.ref i), a1, a2] (.ref i :: st) σ Q := Ev_step rfl
theorem s_M_passesAll_88 (h : sh i = 9) : Ev sh 183 88 [a0, a1, a2] (.ref i :: st) σ Q = Ev sh 183 91 [a0, a1, a2] (.int (σ i 9) :: st) σ Q := Ev_h h rfl
theorem s_M_passesAll_91 (h : sh i1 = 9) : Ev sh 183 91 [a0, a1, a2] [.int x2, .ref i1, .ref i0] σ Q = Ev sh 182 0 [some (.ref i1), some (.int x2), none] [] σ (fun r s => Ev sh 183 94 [a0, a1, a2] (zpush r [.ref i0]) s Q) := Ev_callh (zrecv_of (by decide) h) rfl
theorem s_M_passesAll_94 (h : sh i = 9) : Ev sh 183 94 [a0, a1, a2] (.int x :: .ref i :: st) σ Q = Ev sh 183 97 [a0, a1, a2] st (zup σ i 9 x) Q := Ev_h h rfl
theorem s_M_passesAll_97 : Ev sh 183 97 [a0, a1, a2] [] σ Q = Q none σ := Ev_ret rfl
theorem s_M_thinks_0 : Ev sh 184 0 [some (.ref i)] st σ Q = Ev sh 184 1 [some (.ref i)] (.ref i :: st) σ Q := Ev_step rfl
theorem s_M_thinks_1 : Ev sh 184 1 [a0] st σ Q = Ev sh 184 2 [a0] (.int 2 :: st) σ Q := Ev_step rfl
theorem s_M_thinks_2 : Ev sh 184 2 [a0] st σ Q = Ev sh 184 3 [a0] (.int 1 :: st) σ Q := Ev_step rfl
theorem s_M_thinks_3 (h : sh i0 = 9) : Ev sh 184 3 [a0] [.int x2, .int x1, .ref i0] σ Q = Ev sh 183 0 [some (.ref i0), some (.int x1), some (.int x2)] [] σ (fun r s => Ev sh 184 6 [a0] (zpush r []) s Q) := Ev_callh (zrecv_of (by decide) h) rfl
theorem s_M_thinks_6 : Ev sh 184 6 [a0] [] σ Q = Q none σ := Ev_ret rfl
theorem s_M_forgets_0 : Ev sh 185 0 [some (.ref i)] st σ Q = Ev sh 185 1 [some (.ref i)] (.ref i :: st) σ Q := Ev_step rfl
theorem s_M_forgets_1 : Ev sh 185 1 [a0] st σ Q = Ev sh 185 2 [a0] (.int 2 :: st) σ Q := Ev_step rfl
theorem s_M_forgets_2 : Ev sh 185 2 [a0] st σ Q = Ev sh 185 3 [a0] (.int 0 :: st) σ Q := Ev_step rfl
theorem s_M_forgets_3 (h : sh i0 = 9) : Ev sh 185 3 [a0] [.int x2, .int x1, .ref i0] σ Q = Ev sh 183 0 [some (.ref i0), some (.int x1), some (.int x2)] [] σ (fun r s => Ev sh 185 6 [a0] (zpush r []) s Q) := Ev_callh (zrecv_of (by decide) h) rfl
theorem s_M_forgets_6 : Ev sh 185 6 [a0] [] σ Q = Q none σ := Ev_ret rfl
theorem s_M_image_0 : Ev sh 186 0 [some (.ref i)] st σ Q = Ev sh 186 1 [some (.ref i)] (.ref i :: st) σ Q := Ev_step rfl
theorem s_M_image_1 : Ev sh 186 1 [a0] st σ Q = Ev sh 186 2 [a0] (.int 1 :: st) σ Q := Ev_step rfl
theorem s_M_image_2 (h : sh i = 9) (hx : x = 0 ∨ x = 1) : Ev sh 186 2 [a0] (.int x :: .ref i :: st) σ Q = Ev sh 186 5 [a0] st (zup σ i 18 x) Q := Ev_h ⟨h, hx⟩ rfl
theorem s_M_image_5 : Ev sh 186 5 [some (.ref i)] st σ Q = Ev sh 186 6 [some (.ref i)] (.ref i :: st) σ Q := Ev_step rfl
theorem s_M_image_6 : Ev sh 186 6 [a0] st σ Q = Ev sh 186 7 [a0] (.int 0 :: st) σ Q := Ev_step rfl
theorem s_M_image_7 : Ev sh 186 7 [a0] st σ Q = Ev sh 186 8 [a0] (.int 1 :: st) σ Q := Ev_step rfl
theorem s_M_image_8 (h : sh i0 = 9) : Ev sh 186 8 [a0] [.int x2, .int x1, .ref i0] σ Q = Ev sh 183 0 [some (.ref i0), some (.int x1), some (.int x2)] [] σ (fun r s => Ev sh 186 11 [a0] (zpush r []) s Q) := Ev_callh (zrecv_of (by decide) h) rfl
theorem s_M_image_11 : Ev sh 186 11 [some (.ref i)] st σ Q = Ev sh 186 12 [some (.ref i)] (.ref i :: st) σ Q := Ev_step rfl
theorem s_M_image_12 (h : sh i = 9) : Ev sh 186 12 [a0] (.ref i :: st) σ Q = Ev sh 186 15 [a0] (.int (σ i 9) :: st) σ Q := Ev_h h rfl
theorem s_M_image_15 : Ev sh 186 15 [a0] [.int x] σ Q = Q (some (.int x)) σ := Ev_ret rfl
theorem s_M_on_0 : Ev sh 187 0 [some (.ref i)] st σ Q = Ev sh 187 1 [some (.ref i)] (.ref i :: st) σ Q := Ev_step rfl
theorem s_M_on_1 (h : sh i = 9) : Ev sh 187 1 [a0] (.ref i :: st) σ Q = Ev sh 187 4 [a0] (.int (σ i 18) :: st) σ Q := Ev_h h rfl
theorem s_M_on_4 : Ev sh 187 4 [a0] (.int x :: st) σ Q = if x ≠ 0 then Ev sh 187 14 [a0] st σ Q else Ev sh 187 7 [a0] st σ Q := Ev_if rfl
theorem s_M_on_7 : Ev sh 187 7 [some (.ref i)] st σ Q = Ev sh 187 8 [some (.ref i)] (.ref i :: st) σ Q := Ev_step rfl
theorem s_M_on_8 : Ev sh 187 8 [a0] st σ Q = Ev sh 187 10 [a0] (.int (-3) :: st) σ Q := Ev_step rfl
theorem s_M_on_10 (h : sh i0 = 9) : Ev sh 187 10 [a0] [.int x1, .ref i0] σ Q = Ev sh 160 0 [some (.ref i0), some (.int x1)] [] σ (fun r s => Ev sh 187 13 [a0] (zpush r []) s Q) := Ev_callh (zrecv_of (by decide) h) rfl
theorem s_M_on_13 : Ev sh 187 13 [a0] [.int x] σ Q = Q (some (.int x)) σ := Ev_ret rfl
theorem s_M_on_14 : Ev sh 187 14 [some (.ref i)] st σ Q = Ev sh 187 15 [some (.ref i)] (.ref i :: st) σ Q := Ev_step rfl
theorem s_M_on_15 : Ev sh 187 15 [a0] st σ Q = Ev sh 187 16 [a0] (.int 0 :: st) σ Q := Ev_step rfl
theorem s_M_on_16 : Ev sh 187 16 [a0] st σ Q = Ev sh 187 17 [a0] (.int 0 :: st) σ Q := Ev_step rfl
theorem s_M_on_17 (h : sh i0 = 9) : Ev sh 187 17 [a0] [.int x2, .int x1, .ref i0] σ Q = Ev sh 183 0 [some (.ref i0), some (.int x1), some (.int x2)] [] σ (fun r s => Ev sh 187 20 [a0] (zpush r []) s Q) := Ev_callh (zrecv_of (by decide) h) rfl
theorem s_M_on_20 : Ev sh 187 20 [some (.ref i)] st σ Q = Ev sh 187 21 [some (.ref i)] (.ref i :: st) σ Q := Ev_step rfl
theorem s_M_on_21 (h : sh i = 9) : Ev sh 187 21 [a0] (.ref i :: st) σ Q = Ev sh 187 24 [a0] (.int (σ i 9) :: st) σ Q := Ev_h h rfl
theorem s_M_on_24 : Ev sh 187 24 [a0] [.int x] σ Q = Q (some (.int x)) σ := Ev_ret rfl
theorem s_M_adds_0 : Ev sh 188 0 [some (.ref i), a1, a2, a3] st σ Q = Ev sh 188 1 [some (.ref i), a1, a2, a3] (.ref i :: st) σ Q := Ev_step rfl
theorem s_M_adds_1 (h : sh i = 9) : Ev sh 188 1 [a0, a1, a2, a3] (.ref i :: st) σ Q = Ev sh 188 4 [a0, a1, a2, a3] (.ref 2 :: st) σ Q := Ev_h h rfl
theorem s_M_adds_4 : Ev sh 188 4 [some (.ref i), a1, a2, a3] st σ Q = Ev sh 188 5 [some (.ref i), a1, a2, a3] (.ref i :: st) σ Q := Ev_step rfl
theorem s_M_adds_5 (h : sh i = 9) : Ev sh 188 5 [a0, a1, a2, a3] (.ref i :: st) σ Q = Ev sh 188 8 [a0, a1, a2, a3] (.int (σ i 7) :: st) σ Q := Ev_h h rfl
theorem s_M_adds_8 : Ev sh 188 8 [a0, some (.int x), a2, a3] st σ Q = Ev sh 188 9 [a0, some (.int x), a2, a3] (.int x :: st) σ Q := Ev_step rfl
theorem s_M_adds_9 (h : zin x (sh i) = true) : Ev sh 188 9 [a0, a1, a2, a3] (.int y :: .int x :: .ref i :: st) σ Q = Ev sh 188 10 [a0, a1, a2, a3] st (zup σ i x.toNatClampNeg y) Q := Ev_h h rfl
theorem s_M_adds_10 : Ev sh 188 10 [some (.ref i), a1, a2, a3] st σ Q = Ev sh 188 11 [some (.ref i), a1, a2, a3] (.ref i :: st) σ Q := Ev_step rfl
theorem s_M_adds_11 (h : sh i = 9) : Ev sh 188 11 [a0, a1, a2, a3] (.ref i :: st) σ Q = Ev sh 188 14 [a0, a1, a2, a3] (.ref 3 :: st) σ Q := Ev_h h rfl
theorem s_M_adds_14 : Ev sh 188 14 [some (.ref i), a1, a2, a3] st σ Q = Ev sh 188 15 [some (.ref i), a1, a2, a3] (.ref i :: st) σ Q := Ev_step rfl
theorem s_M_adds_15 (h : sh i = 9) : Ev sh 188 15 [a0, a1, a2, a3] (.ref i :: st) σ Q = Ev sh 188 18 [a0, a1, a2, a3] (.int (σ i 7) :: st) σ Q := Ev_h h rfl
theorem s_M_adds_18 : Ev sh 188 18 [a0, a1, some (.int x), a3] st σ Q = Ev sh 188 19 [a0, a1, some (.int x), a3] (.int x :: st) σ Q := Ev_step rfl
theorem s_M_adds_19 (h : zin x (sh i) = true) : Ev sh 188 19 [a0, a1, a2, a3] (.int y :: .int x :: .ref i :: st) σ Q = Ev sh 188 20 [a0, a1, a2, a3] st (zup σ i x.toNatClampNeg y) Q := Ev_h h rfl
theorem s_M_adds_20 : Ev sh 188 20 [some (.ref i), a1, a2, a3] st σ Q = Ev sh 188 21 [some (.ref i), a1, a2, a3] (.ref i :: st) σ Q := Ev_step rfl
theorem s_M_adds_21 (h : sh i = 9) : Ev sh 188 21 [a0, a1, a2, a3] (.ref i :: st) σ Q = Ev sh 188 24 [a0, a1, a2, a3] (.ref 4 :: st) σ Q := Ev_h h rfl
theorem s_M_adds_24 : Ev sh 188 24 [some (.ref i), a1, a2, a3] st σ Q = Ev sh 188 25 [some (.ref i), a1, a2, a3] (.ref i :: st) σ Q := Ev_step rfl
theorem s_M_adds_25 (h : sh i = 9) : Ev sh 188 25 [a0, a1, a2, a3] (.ref i :: st) σ Q = Ev sh 188 28 [a0, a1, a2, a3] (.int (σ i 7) :: st) σ Q := Ev_h h rfl
theorem s_M_adds_28 : Ev sh 188 28 [a0, a1, a2, some (.int x)] st σ Q = Ev sh 188 29 [a0, a1, a2, some (.int x)] (.int x :: st) σ Q := Ev_step rfl
theorem s_M_adds_29 (h : zin x (sh i) = true) : Ev sh 188 29 [a0, a1, a2, a3] (.int y :: .int x :: .ref i :: st) σ Q = Ev sh 188 30 [a0, a1, a2, a3] st (zup σ i x.toNatClampNeg y) Q := Ev_h h rfl
theorem s_M_adds_30 : Ev sh 188 30 [some (.ref i), a1, a2, a3] st σ Q = Ev sh 188 31 [some (.ref i), a1, a2, a3] (.ref i :: st) σ Q := Ev_step rfl
theorem s_M_adds_31 : Ev sh 188 31 [a0, a1, a2, a3] (.ref i :: st) σ Q = Ev sh 188 32 [a0, a1, a2, a3] (.ref i :: .ref i :: st) σ Q := Ev_step rfl
theorem s_M_adds_32 (h : sh i = 9) : Ev sh 188 32 [a0, a1, a2, a3] (.ref i :: st) σ Q = Ev sh 188 35 [a0, a1, a2, a3] (.int (σ i 7) :: st) σ Q := Ev_h h rfl
theorem s_M_adds_35 : Ev sh 188 35 [a0, a1, a2, a3] st σ Q = Ev sh 188 36 [a0, a1, a2, a3] (.int 1 :: st) σ Q := Ev_step rfl
theorem s_M_adds_36 : Ev sh 188 36 [a0, a1, a2, a3] (.int y :: .int x :: st) σ Q = Ev sh 188 37 [a0, a1, a2, a3] (.int (x + y) :: st) σ Q := Ev_step rfl
theorem s_M_adds_37 (h : sh i = 9) : Ev sh 188 37 [a0, a1, a2, a3] (.int x :: .ref i :: st) σ Q = Ev sh 188 40 [a0, a1, a2, a3] st (zup σ i 7 x) Q := Ev_h h rfl
theorem s_M_adds_40 : Ev sh 188 40 [a0, a1, a2, a3] [] σ Q = Q none σ := Ev_ret rfl
theorem s_M_becomes_0 : Ev sh 189 0 [some (.ref i), a1, a2, a3] st σ Q = Ev sh 189 1 [some (.ref i), a1, a2, a3] (.ref i :: st) σ Q := Ev_step rfl
theorem s_M_becomes_1 (h : sh i = 9) : Ev sh 189 1 [a0, a1, a2, a3] (.ref i :: st) σ Q = Ev sh 189 4 [a0, a1, a2, a3] (.ref 2 :: st) σ Q := Ev_h h rfl
theorem s_M_becomes_4 : Ev sh 189 4 [a0, some (.int x), a2, a3] st σ Q = Ev sh 189 5 [a0, some (.int x), a2, a3] (.int x :: st) σ Q := Ev_step rfl
theorem s_M_becomes_5 : Ev sh 189 5 [a0, a1, some (.int x), a3] st σ Q = Ev sh 189 6 [a0, a1, some (.int x), a3] (.int x :: st) σ Q := Ev_step rfl
theorem s_M_becomes_6 (h : zin x (sh i) = true) : Ev sh 189 6 [a0, a1, a2, a3] (.int y :: .int x :: .ref i :: st) σ Q = Ev sh 189 7 [a0, a1, a2, a3] st (zup σ i x.toNatClampNeg y) Q := Ev_h h rfl
theorem s_M_becomes_7 : Ev sh 189 7 [some (.ref i), a1, a2, a3] st σ Q = Ev sh 189 8 [some (.ref i), a1, a2, a3] (.ref i :: st) σ Q := Ev_step rfl
theorem s_M_becomes_8 (h : sh i = 9) : Ev sh 189 8 [a0, a1, a2, a3] (.ref i :: st) σ Q = Ev sh 189 11 [a0, a1, a2, a3] (.ref 3 :: st) σ Q := Ev_h h rfl
theorem s_M_becomes_11 : Ev sh 189 11 [a0, some (.int x), a2, a3] st σ Q = Ev sh 189 12 [a0, some (.int x), a2, a3] (.int x :: st) σ Q := Ev_step rfl
theorem s_M_becomes_12 : Ev sh 189 12 [a0, a1, a2, some (.int x)] st σ Q = Ev sh 189 13 [a0, a1, a2, some (.int x)] (.int x :: st) σ Q := Ev_step rfl
theorem s_M_becomes_13 (h : zin x (sh i) = true) : Ev sh 189 13 [a0, a1, a2, a3] (.int y :: .int x :: .ref i :: st) σ Q = Ev sh 189 14 [a0, a1, a2, a3] st (zup σ i x.toNatClampNeg y) Q := Ev_h h rfl
theorem s_M_becomes_14 : Ev sh 189 14 [a0, a1, a2, a3] [] σ Q = Q none σ := Ev_ret rfl
theorem s_M_holdsOf_0 : Ev sh 190 0 [some (.ref i), a1, a2] st σ Q = Ev sh 190 1 [some (.ref i), a1, a2] (.ref i :: st) σ Q := Ev_step rfl
theorem s_M_holdsOf_1 (h : sh i = 9) : Ev sh 190 1 [a0, a1, a2] (.ref i :: st) σ Q = Ev sh 190 4 [a0, a1, a2] (.ref 3 :: st) σ Q := Ev_h h rfl
theorem s_M_holdsOf_4 : Ev sh 190 4 [a0, some (.int x), a2] st σ Q = Ev sh 190 5 [a0, some (.int x), a2] (.int x :: st) σ Q := Ev_step rfl
theorem s_M_holdsOf_5 (h : zin x (sh i) = true) : Ev sh 190 5 [a0, a1, a2] (.int x :: .ref i :: st) σ Q = Ev sh 190 6 [a0, a1, a2] (.int (σ i x.toNatClampNeg) :: st) σ Q := Ev_h h rfl
theorem s_M_holdsOf_6 : Ev sh 190 6 [a0, a1, a2] st σ Q = Ev sh 190 7 [a0, a1, a2] (.int 1 :: st) σ Q := Ev_step rfl
theorem s_M_holdsOf_7 : Ev sh 190 7 [a0, a1, a2] (.int y :: .int x :: st) σ Q = Ev sh 190 8 [a0, a1, a2] (.int (x + y) :: st) σ Q := Ev_step rfl
theorem s_M_holdsOf_8 : Ev sh 190 8 [a0, a1, a2] (.int x :: st) σ Q = Ev sh 190 9 [a0, zdrop2 a1, some (.int x)] st σ Q := Ev_step rfl
theorem s_M_holdsOf_9 : Ev sh 190 9 [some (.ref i), a1, a2] st σ Q = Ev sh 190 10 [some (.ref i), a1, a2] (.ref i :: st) σ Q := Ev_step rfl
theorem s_M_holdsOf_10 (h : sh i = 9) : Ev sh 190 10 [a0, a1, a2] (.ref i :: st) σ Q = Ev sh 190 13 [a0, a1, a2] (.ref 2 :: st) σ Q := Ev_h h rfl
theorem s_M_holdsOf_13 : Ev sh 190 13 [a0, some (.int x), a2] st σ Q = Ev sh 190 14 [a0, some (.int x), a2] (.int x :: st) σ Q := Ev_step rfl
theorem s_M_holdsOf_14 (h : zin x (sh i) = true) : Ev sh 190 14 [a0, a1, a2] (.int x :: .ref i :: st) σ Q = Ev sh 190 15 [a0, a1, a2] (.int (σ i x.toNatClampNeg) :: st) σ Q := Ev_h h rfl
theorem s_M_holdsOf_15 : Ev sh 190 15 [a0, a1, a2] (.int x :: st) σ Q = if x = 2 then Ev sh 190 44 [a0, a1, a2] st σ Q else if x = 3 then Ev sh 190 48 [a0, a1, a2] st σ Q else if x = 4 then Ev sh 190 52 [a0, a1, a2] st σ Q else if x = 5 then Ev sh 190 58 [a0, a1, a2] st σ Q else Ev sh 190 64 [a0, a1, a2] st σ Q := (Ev_step (pc' := zsw x 64 [(2, 44), (3, 48), (4, 52), (5, 58)]) rfl).trans (by rw [Ev_swc, Ev_swc, Ev_swc, Ev_swc]; rfl)
theorem s_M_holdsOf_44 : Ev sh 190 44 [a0, a1, some (.int x)] st σ Q = Ev sh 190 45 [a0, a1, some (.int x)] (.int x :: st) σ Q := Ev_step rfl
theorem s_M_holdsOf_45 : Ev sh 190 45 [a0, a1, a2] st σ Q = Ev sh 190 46 [a0, a1, a2] (.int 1 :: st) σ Q := Ev_step rfl
theorem s_M_holdsOf_46 : Ev sh 190 46 [a0, a1, a2] (.int y :: .int x :: st) σ Q = Ev sh 190 47 [a0, a1, a2] (.int (x - y) :: st) σ Q := Ev_step rfl
theorem s_M_holdsOf_47 : Ev sh 190 47 [a0, a1, a2] [.int x] σ Q = Q (some (.int x)) σ := Ev_ret rfl
theorem s_M_holdsOf_48 : Ev sh 190 48 [a0, a1, a2] st σ Q = Ev sh 190 49 [a0, a1, a2] (.int 2 :: st) σ Q := Ev_step rfl
theorem s_M_holdsOf_49 : Ev sh 190 49 [a0, a1, some (.int x)] st σ Q = Ev sh 190 50 [a0, a1, some (.int x)] (.int x :: st) σ Q := Ev_step rfl
theorem s_M_holdsOf_50 : Ev sh 190 50 [a0, a1, a2] (.int y :: .int x :: st) σ Q = Ev sh 190 51 [a0, a1, a2] (.int (x * y) :: st) σ Q := Ev_step rfl
theorem s_M_holdsOf_51 : Ev sh 190 51 [a0, a1, a2] [.int x] σ Q = Q (some (.int x)) σ := Ev_ret rfl
theorem s_M_holdsOf_52 : Ev sh 190 52 [a0, a1, a2] st σ Q = Ev sh 190 53 [a0, a1, a2] (.int 2 :: st) σ Q := Ev_step rfl
theorem s_M_holdsOf_53 : Ev sh 190 53 [a0, a1, some (.int x)] st σ Q = Ev sh 190 54 [a0, a1, some (.int x)] (.int x :: st) σ Q := Ev_step rfl
theorem s_M_holdsOf_54 : Ev sh 190 54 [a0, a1, a2] (.int y :: .int x :: st) σ Q = Ev sh 190 55 [a0, a1, a2] (.int (x * y) :: st) σ Q := Ev_step rfl
theorem s_M_holdsOf_55 : Ev sh 190 55 [a0, a1, a2] st σ Q = Ev sh 190 56 [a0, a1, a2] (.int 3 :: st) σ Q := Ev_step rfl
theorem s_M_holdsOf_56 : Ev sh 190 56 [a0, a1, a2] (.int y :: .int x :: st) σ Q = Ev sh 190 57 [a0, a1, a2] (.int (x + y) :: st) σ Q := Ev_step rfl
theorem s_M_holdsOf_57 : Ev sh 190 57 [a0, a1, a2] [.int x] σ Q = Q (some (.int x)) σ := Ev_ret rfl
theorem s_M_holdsOf_58 : Ev sh 190 58 [a0, a1, some (.int x)] st σ Q = Ev sh 190 59 [a0, a1, some (.int x)] (.int x :: st) σ Q := Ev_step rfl
theorem s_M_holdsOf_59 : Ev sh 190 59 [a0, a1, a2] st σ Q = Ev sh 190 60 [a0, a1, a2] (.int 1 :: st) σ Q := Ev_step rfl
theorem s_M_holdsOf_60 : Ev sh 190 60 [a0, a1, a2] (.int y :: .int x :: st) σ Q = Ev sh 190 61 [a0, a1, a2] (.int (x - y) :: st) σ Q := Ev_step rfl
theorem s_M_holdsOf_61 : Ev sh 190 61 [a0, a1, a2] st σ Q = Ev sh 190 62 [a0, a1, a2] (.int 2 :: st) σ Q := Ev_step rfl
theorem s_M_holdsOf_62 (h : ¬ y = 0) : Ev sh 190 62 [a0, a1, a2] (.int y :: .int x :: st) σ Q = Ev sh 190 63 [a0, a1, a2] (.int (x / y) :: st) σ Q := Ev_h h rfl
theorem s_M_holdsOf_63 : Ev sh 190 63 [a0, a1, a2] [.int x] σ Q = Q (some (.int x)) σ := Ev_ret rfl
theorem s_M_holdsOf_64 : Ev sh 190 64 [a0, a1, some (.int x)] st σ Q = Ev sh 190 65 [a0, a1, some (.int x)] (.int x :: st) σ Q := Ev_step rfl
theorem s_M_holdsOf_65 : Ev sh 190 65 [a0, a1, a2] [.int x] σ Q = Q (some (.int x)) σ := Ev_ret rfl
theorem s_M_leansOf_0 : Ev sh 191 0 [some (.ref i), a1, a2] st σ Q = Ev sh 191 1 [some (.ref i), a1, a2] (.ref i :: st) σ Q := Ev_step rfl
theorem s_M_leansOf_1 (h : sh i = 9) : Ev sh 191 1 [a0, a1, a2] (.ref i :: st) σ Q = Ev sh 191 4 [a0, a1, a2] (.ref 3 :: st) σ Q := Ev_h h rfl
theorem s_M_leansOf_4 : Ev sh 191 4 [a0, some (.int x), a2] st σ Q = Ev sh 191 5 [a0, some (.int x), a2] (.int x :: st) σ Q := Ev_step rfl
theorem s_M_leansOf_5 (h : zin x (sh i) = true) : Ev sh 191 5 [a0, a1, a2] (.int x :: .ref i :: st) σ Q = Ev sh 191 6 [a0, a1, a2] (.int (σ i x.toNatClampNeg) :: st) σ Q := Ev_h h rfl
theorem s_M_leansOf_6 : Ev sh 191 6 [a0, a1, a2] st σ Q = Ev sh 191 7 [a0, a1, a2] (.int 5 :: st) σ Q := Ev_step rfl
theorem s_M_leansOf_7 : Ev sh 191 7 [a0, a1, a2] (.int y :: .int x :: st) σ Q = if x ≤ y then Ev sh 191 14 [a0, a1, a2] st σ Q else Ev sh 191 10 [a0, a1, a2] st σ Q := Ev_if rfl
theorem s_M_leansOf_10 : Ev sh 191 10 [a0, a1, a2] st σ Q = Ev sh 191 11 [a0, a1, a2] (.int 2 :: st) σ Q := Ev_step rfl
theorem s_M_leansOf_11 : Ev sh 191 11 [a0, a1, a2] st σ Q = Ev sh 191 15 [a0, a1, a2] st σ Q := Ev_step rfl
theorem s_M_leansOf_14 : Ev sh 191 14 [a0, a1, a2] st σ Q = Ev sh 191 15 [a0, a1, a2] (.int 1 :: st) σ Q := Ev_step rfl
theorem s_M_leansOf_15 : Ev sh 191 15 [a0, a1, a2] (.int x :: st) σ Q = Ev sh 191 16 [a0, zdrop2 a1, some (.int x)] st σ Q := Ev_step rfl
theorem s_M_leansOf_16 : Ev sh 191 16 [some (.ref i), a1, a2] st σ Q = Ev sh 191 17 [some (.ref i), a1, a2] (.ref i :: st) σ Q := Ev_step rfl
theorem s_M_leansOf_17 (h : sh i = 9) : Ev sh 191 17 [a0, a1, a2] (.ref i :: st) σ Q = Ev sh 191 20 [a0, a1, a2] (.ref 2 :: st) σ Q := Ev_h h rfl
theorem s_M_leansOf_20 : Ev sh 191 20 [a0, some (.int x), a2] st σ Q = Ev sh 191 21 [a0, some (.int x), a2] (.int x :: st) σ Q := Ev_step rfl
theorem s_M_leansOf_21 (h : zin x (sh i) = true) : Ev sh 191 21 [a0, a1, a2] (.int x :: .ref i :: st) σ Q = Ev sh 191 22 [a0, a1, a2] (.int (σ i x.toNatClampNeg) :: st) σ Q := Ev_h h rfl
theorem s_M_leansOf_22 : Ev sh 191 22 [a0, a1, a2] st σ Q = Ev sh 191 23 [a0, a1, a2] (.int 1 :: st) σ Q := Ev_step rfl
theorem s_M_leansOf_23 : Ev sh 191 23 [a0, a1, a2] (.int y :: .int x :: st) σ Q = if x ≠ y then Ev sh 191 30 [a0, a1, a2] st σ Q else Ev sh 191 26 [a0, a1, a2] st σ Q := Ev_if rfl
theorem s_M_leansOf_26 : Ev sh 191 26 [a0, a1, some (.int x)] st σ Q = Ev sh 191 27 [a0, a1, some (.int x)] (.int x :: st) σ Q := Ev_step rfl
theorem s_M_leansOf_27 : Ev sh 191 27 [a0, a1, a2] st σ Q = Ev sh 191 63 [a0, a1, a2] st σ Q := Ev_step rfl
theorem s_M_leansOf_30 : Ev sh 191 30 [some (.ref i), a1, a2] st σ Q = Ev sh 191 31 [some (.ref i), a1, a2] (.ref i :: st) σ Q := Ev_step rfl
theorem s_M_leansOf_31 (h : sh i = 9) : Ev sh 191 31 [a0, a1, a2] (.ref i :: st) σ Q = Ev sh 191 34 [a0, a1, a2] (.ref 2 :: st) σ Q := Ev_h h rfl
theorem s_M_leansOf_34 : Ev sh 191 34 [a0, some (.int x), a2] st σ Q = Ev sh 191 35 [a0, some (.int x), a2] (.int x :: st) σ Q := Ev_step rfl
theorem s_M_leansOf_35 (h : zin x (sh i) = true) : Ev sh 191 35 [a0, a1, a2] (.int x :: .ref i :: st) σ Q = Ev sh 191 36 [a0, a1, a2] (.int (σ i x.toNatClampNeg) :: st) σ Q := Ev_h h rfl
theorem s_M_leansOf_36 : Ev sh 191 36 [a0, a1, a2] st σ Q = Ev sh 191 37 [a0, a1, a2] (.int 2 :: st) σ Q := Ev_step rfl
theorem s_M_leansOf_37 : Ev sh 191 37 [a0, a1, a2] (.int y :: .int x :: st) σ Q = if x ≠ y then Ev sh 191 45 [a0, a1, a2] st σ Q else Ev sh 191 40 [a0, a1, a2] st σ Q := Ev_if rfl
theorem s_M_leansOf_40 : Ev sh 191 40 [a0, a1, some (.int x)] st σ Q = Ev sh 191 41 [a0, a1, some (.int x)] (.int x :: st) σ Q := Ev_step rfl
theorem s_M_leansOf_41 : Ev sh 191 41 [a0, a1, a2] (.int x :: st) σ Q = Ev sh 191 42 [a0, a1, a2] (.int (-x) :: st) σ Q := Ev_step rfl
theorem s_M_leansOf_42 : Ev sh 191 42 [a0, a1, a2] st σ Q = Ev sh 191 63 [a0, a1, a2] st σ Q := Ev_step rfl
theorem s_M_leansOf_45 : Ev sh 191 45 [some (.ref i), a1, a2] st σ Q = Ev sh 191 46 [some (.ref i), a1, a2] (.ref i :: st) σ Q := Ev_step rfl
theorem s_M_leansOf_46 (h : sh i = 9) : Ev sh 191 46 [a0, a1, a2] (.ref i :: st) σ Q = Ev sh 191 49 [a0, a1, a2] (.ref 2 :: st) σ Q := Ev_h h rfl
theorem s_M_leansOf_49 : Ev sh 191 49 [a0, some (.int x), a2] st σ Q = Ev sh 191 50 [a0, some (.int x), a2] (.int x :: st) σ Q := Ev_step rfl
theorem s_M_leansOf_50 (h : zin x (sh i) = true) : Ev sh 191 50 [a0, a1, a2] (.int x :: .ref i :: st) σ Q = Ev sh 191 51 [a0, a1, a2] (.int (σ i x.toNatClampNeg) :: st) σ Q := Ev_h h rfl
theorem s_M_leansOf_51 : Ev sh 191 51 [a0, a1, a2] st σ Q = Ev sh 191 52 [a0, a1, a2] (.int 5 :: st) σ Q := Ev_step rfl
theorem s_M_leansOf_52 : Ev sh 191 52 [a0, a1, a2] (.int y :: .int x :: st) σ Q = if x ≠ y then Ev sh 191 62 [a0, a1, a2] st σ Q else Ev sh 191 55 [a0, a1, a2] st σ Q := Ev_if rfl
theorem s_M_leansOf_55 : Ev sh 191 55 [a0, a1, some (.int x)] st σ Q = Ev sh 191 56 [a0, a1, some (.int x)] (.int x :: st) σ Q := Ev_step rfl
theorem s_M_leansOf_56 : Ev sh 191 56 [a0, a1, a2] (.int x :: st) σ Q = Ev sh 191 57 [a0, a1, a2] (.int (-x) :: st) σ Q := Ev_step rfl
theorem s_M_leansOf_57 : Ev sh 191 57 [a0, a1, a2] st σ Q = Ev sh 191 58 [a0, a1, a2] (.int 1 :: st) σ Q := Ev_step rfl
theorem s_M_leansOf_58 : Ev sh 191 58 [a0, a1, a2] (.int y :: .int x :: st) σ Q = Ev sh 191 59 [a0, a1, a2] (.int (x - y) :: st) σ Q := Ev_step rfl
theorem s_M_leansOf_59 : Ev sh 191 59 [a0, a1, a2] st σ Q = Ev sh 191 63 [a0, a1, a2] st σ Q := Ev_step rfl
theorem s_M_leansOf_62 : Ev sh 191 62 [a0, a1, a2] st σ Q = Ev sh 191 63 [a0, a1, a2] (.int 0 :: st) σ Q := Ev_step rfl
theorem s_M_leansOf_63 : Ev sh 191 63 [a0, a1, a2] [.int x] σ Q = Q (some (.int x)) σ := Ev_ret rfl
theorem s_M_leanAt_0 : Ev sh 192 0 [a0, a1, a2, a3] st σ Q = Ev sh 192 1 [a0, a1, a2, a3] (.int 0 :: st) σ Q := Ev_step rfl
theorem s_M_leanAt_1 : Ev sh 192 1 [a0, a1, a2, a3] (.int x :: st) σ Q = Ev sh 192 2 [a0, zdrop2 a1, some (.int x), a3] st σ Q := Ev_step rfl
theorem s_M_leanAt_2 : Ev sh 192 2 [a0, a1, a2, a3] st σ Q = Ev sh 192 3 [a0, a1, a2, a3] (.int 0 :: st) σ Q := Ev_step rfl
theorem s_M_leanAt_3 : Ev sh 192 3 [a0, a1, a2, a3] (.int x :: st) σ Q = Ev sh 192 4 [a0, a1, zdrop2 a2, some (.int x)] st σ Q := Ev_step rfl
theorem s_M_leanAt_4 : Ev sh 192 4 [a0, a1, a2, some (.int x)] st σ Q = Ev sh 192 5 [a0, a1, a2, some (.int x)] (.int x :: st) σ Q := Ev_step rfl
theorem s_M_leanAt_5 : Ev sh 192 5 [a0, some (.int x), a2, a3] st σ Q = Ev sh 192 6 [a0, some (.int x), a2, a3] (.int x :: st) σ Q := Ev_step rfl
theorem s_M_leanAt_6 : Ev sh 192 6 [a0, a1, a2, a3] (.int y :: .int x :: st) σ Q = if y < x then Ev sh 192 23 [a0, a1, a2, a3] st σ Q else Ev sh 192 9 [a0, a1, a2, a3] st σ Q := Ev_if rfl
theorem s_M_leanAt_9 : Ev sh 192 9 [a0, a1, some (.int x), a3] st σ Q = Ev sh 192 10 [a0, a1, some (.int x), a3] (.int x :: st) σ Q := Ev_step rfl
theorem s_M_leanAt_10 : Ev sh 192 10 [some (.ref i), a1, a2, a3] st σ Q = Ev sh 192 11 [some (.ref i), a1, a2, a3] (.ref i :: st) σ Q := Ev_step rfl
theorem s_M_leanAt_11 : Ev sh 192 11 [a0, a1, a2, some (.int x)] st σ Q = Ev sh 192 12 [a0, a1, a2, some (.int x)] (.int x :: st) σ Q := Ev_step rfl
theorem s_M_leanAt_12 (h : sh i1 = 9) : Ev sh 192 12 [a0, a1, a2, a3] [.int x2, .ref i1, .int x0] σ Q = Ev sh 191 0 [some (.ref i1), some (.int x2), none] [] σ (fun r s => Ev sh 192 15 [a0, a1, a2, a3] (zpush r [.int x0]) s Q) := Ev_callh (zrecv_of (by decide) h) rfl
theorem s_M_leanAt_15 : Ev sh 192 15 [a0, a1, a2, a3] (.int y :: .int x :: st) σ Q = Ev sh 192 16 [a0, a1, a2, a3] (.int (x + y) :: st) σ Q := Ev_step rfl
theorem s_M_leanAt_16 : Ev sh 192 16 [a0, a1, a2, a3] (.int x :: st) σ Q = Ev sh 192 17 [a0, zdrop2 a1, some (.int x), a3] st σ Q := Ev_step rfl
theorem s_M_leanAt_17 : Ev sh 192 17 [a0, a1, a2, some (.int x)] st σ Q = Ev sh 192 20 [a0, a1, a2, some (.int (x + 1))] st σ Q := Ev_step rfl
theorem s_M_leanAt_20 : Ev sh 192 20 [a0, a1, a2, a3] st σ Q = Ev sh 192 4 [a0, a1, a2, a3] st σ Q := Ev_step rfl
theorem s_M_leanAt_23 : Ev sh 192 23 [a0, a1, some (.int x), a3] st σ Q = Ev sh 192 24 [a0, a1, some (.int x), a3] (.int x :: st) σ Q := Ev_step rfl
theorem s_M_leanAt_24 : Ev sh 192 24 [a0, a1, a2, a3] [.int x] σ Q = Q (some (.int x)) σ := Ev_ret rfl
theorem s_M_jointHolds_0 : Ev sh 193 0 [some (.ref i), a1, a2] st σ Q = Ev sh 193 1 [some (.ref i), a1, a2] (.ref i :: st) σ Q := Ev_step rfl
theorem s_M_jointHolds_1 : Ev sh 193 1 [a0, some (.int x), a2] st σ Q = Ev sh 193 2 [a0, some (.int x), a2] (.int x :: st) σ Q := Ev_step rfl
theorem s_M_jointHolds_2 (h : sh i0 = 9) : Ev sh 193 2 [a0, a1, a2] [.int x1, .ref i0] σ Q = Ev sh 190 0 [some (.ref i0), some (.int x1), none] [] σ (fun r s => Ev sh 193 5 [a0, a1, a2] (zpush r []) s Q) := Ev_callh (zrecv_of (by decide) h) rfl
theorem s_M_jointHolds_5 : Ev sh 193 5 [some (.ref i), a1, a2] st σ Q = Ev sh 193 6 [some (.ref i), a1, a2] (.ref i :: st) σ Q := Ev_step rfl
theorem s_M_jointHolds_6 : Ev sh 193 6 [a0, some (.int x), a2] st σ Q = Ev sh 193 7 [a0, some (.int x), a2] (.int x :: st) σ Q := Ev_step rfl
theorem s_M_jointHolds_7 : Ev sh 193 7 [a0, a1, a2] st σ Q = Ev sh 193 8 [a0, a1, a2] (.int 1 :: st) σ Q := Ev_step rfl
theorem s_M_jointHolds_8 : Ev sh 193 8 [a0, a1, a2] (.int y :: .int x :: st) σ Q = Ev sh 193 9 [a0, a1, a2] (.int (x + y) :: st) σ Q := Ev_step rfl
theorem s_M_jointHolds_9 (h : sh i1 = 9) : Ev sh 193 9 [a0, a1, a2] [.int x2, .ref i1, .int x0] σ Q = Ev sh 190 0 [some (.ref i1), some (.int x2), none] [] σ (fun r s => Ev sh 193 12 [a0, a1, a2] (zpush r [.int x0]) s Q) := Ev_callh (zrecv_of (by decide) h) rfl
theorem s_M_jointHolds_12 : Ev sh 193 12 [a0, a1, a2] (.int y :: .int x :: st) σ Q = if y ≤ x then Ev sh 193 23 [a0, a1, a2] st σ Q else Ev sh 193 15 [a0, a1, a2] st σ Q := Ev_if rfl
theorem s_M_jointHolds_15 : Ev sh 193 15 [some (.ref i), a1, a2] st σ Q = Ev sh 193 16 [some (.ref i), a1, a2] (.ref i :: st) σ Q := Ev_step rfl
theorem s_M_jointHolds_16 : Ev sh 193 16 [a0, some (.int x), a2] st σ Q = Ev sh 193 17 [a0, some (.int x), a2] (.int x :: st) σ Q := Ev_step rfl
theorem s_M_jointHolds_17 (h : sh i0 = 9) : Ev sh 193 17 [a0, a1, a2] [.int x1, .ref i0] σ Q = Ev sh 190 0 [some (.ref i0), some (.int x1), none] [] σ (fun r s => Ev sh 193 20 [a0, a1, a2] (zpush r []) s Q) := Ev_callh (zrecv_of (by decide) h) rfl
theorem s_M_jointHolds_20 : Ev sh 193 20 [a0, a1, a2] st σ Q = Ev sh 193 30 [a0, a1, a2] st σ Q := Ev_step rfl
theorem s_M_jointHolds_23 : Ev sh 193 23 [some (.ref i), a1, a2] st σ Q = Ev sh 193 24 [some (.ref i), a1, a2] (.ref i :: st) σ Q := Ev_step rfl
theorem s_M_jointHolds_24 : Ev sh 193 24 [a0, some (.int x), a2] st σ Q = Ev sh 193 25 [a0, some (.int x), a2] (.int x :: st) σ Q := Ev_step rfl
theorem s_M_jointHolds_25 : Ev sh 193 25 [a0, a1, a2] st σ Q = Ev sh 193 26 [a0, a1, a2] (.int 1 :: st) σ Q := Ev_step rfl
theorem s_M_jointHolds_26 : Ev sh 193 26 [a0, a1, a2] (.int y :: .int x :: st) σ Q = Ev sh 193 27 [a0, a1, a2] (.int (x + y) :: st) σ Q := Ev_step rfl
theorem s_M_jointHolds_27 (h : sh i0 = 9) : Ev sh 193 27 [a0, a1, a2] [.int x1, .ref i0] σ Q = Ev sh 190 0 [some (.ref i0), some (.int x1), none] [] σ (fun r s => Ev sh 193 30 [a0, a1, a2] (zpush r []) s Q) := Ev_callh (zrecv_of (by decide) h) rfl
theorem s_M_jointHolds_30 : Ev sh 193 30 [a0, a1, a2] (.int x :: st) σ Q = Ev sh 193 31 [a0, zdrop2 a1, some (.int x)] st σ Q := Ev_step rfl
theorem s_M_jointHolds_31 : Ev sh 193 31 [some (.ref i), a1, a2] st σ Q = Ev sh 193 32 [some (.ref i), a1, a2] (.ref i :: st) σ Q := Ev_step rfl
theorem s_M_jointHolds_32 (h : sh i = 9) : Ev sh 193 32 [a0, a1, a2] (.ref i :: st) σ Q = Ev sh 193 35 [a0, a1, a2] (.ref 2 :: st) σ Q := Ev_h h rfl
theorem s_M_jointHolds_35 : Ev sh 193 35 [a0, some (.int x), a2] st σ Q = Ev sh 193 36 [a0, some (.int x), a2] (.int x :: st) σ Q := Ev_step rfl
theorem s_M_jointHolds_36 (h : zin x (sh i) = true) : Ev sh 193 36 [a0, a1, a2] (.int x :: .ref i :: st) σ Q = Ev sh 193 37 [a0, a1, a2] (.int (σ i x.toNatClampNeg) :: st) σ Q := Ev_h h rfl
theorem s_M_jointHolds_37 : Ev sh 193 37 [some (.ref i), a1, a2] st σ Q = Ev sh 193 38 [some (.ref i), a1, a2] (.ref i :: st) σ Q := Ev_step rfl
theorem s_M_jointHolds_38 (h : sh i = 9) : Ev sh 193 38 [a0, a1, a2] (.ref i :: st) σ Q = Ev sh 193 41 [a0, a1, a2] (.ref 2 :: st) σ Q := Ev_h h rfl
theorem s_M_jointHolds_41 : Ev sh 193 41 [a0, some (.int x), a2] st σ Q = Ev sh 193 42 [a0, some (.int x), a2] (.int x :: st) σ Q := Ev_step rfl
theorem s_M_jointHolds_42 : Ev sh 193 42 [a0, a1, a2] st σ Q = Ev sh 193 43 [a0, a1, a2] (.int 1 :: st) σ Q := Ev_step rfl
theorem s_M_jointHolds_43 : Ev sh 193 43 [a0, a1, a2] (.int y :: .int x :: st) σ Q = Ev sh 193 44 [a0, a1, a2] (.int (x + y) :: st) σ Q := Ev_step rfl
theorem s_M_jointHolds_44 (h : zin x (sh i) = true) : Ev sh 193 44 [a0, a1, a2] (.int x :: .ref i :: st) σ Q = Ev sh 193 45 [a0, a1, a2] (.int (σ i x.toNatClampNeg) :: st) σ Q := Ev_h h rfl
theorem s_M_jointHolds_45 : Ev sh 193 45 [a0, a1, a2] (.int y :: .int x :: st) σ Q = if x ≠ y then Ev sh 193 54 [a0, a1, a2] st σ Q else Ev sh 193 48 [a0, a1, a2] st σ Q := Ev_if rfl
theorem s_M_jointHolds_48 : Ev sh 193 48 [a0, a1, some (.int x)] st σ Q = Ev sh 193 51 [a0, a1, some (.int (x + 3))] st σ Q := Ev_step rfl
theorem s_M_jointHolds_51 : Ev sh 193 51 [a0, a1, a2] st σ Q = Ev sh 193 74 [a0, a1, a2] st σ Q := Ev_step rfl
theorem s_M_jointHolds_54 : Ev sh 193 54 [some (.ref i), a1, a2] st σ Q = Ev sh 193 55 [some (.ref i), a1, a2] (.ref i :: st) σ Q := Ev_step rfl
theorem s_M_jointHolds_55 (h : sh i = 9) : Ev sh 193 55 [a0, a1, a2] (.ref i :: st) σ Q = Ev sh 193 58 [a0, a1, a2] (.ref 4 :: st) σ Q := Ev_h h rfl
theorem s_M_jointHolds_58 : Ev sh 193 58 [a0, some (.int x), a2] st σ Q = Ev sh 193 59 [a0, some (.int x), a2] (.int x :: st) σ Q := Ev_step rfl
theorem s_M_jointHolds_59 (h : zin x (sh i) = true) : Ev sh 193 59 [a0, a1, a2] (.int x :: .ref i :: st) σ Q = Ev sh 193 60 [a0, a1, a2] (.int (σ i x.toNatClampNeg) :: st) σ Q := Ev_h h rfl
theorem s_M_jointHolds_60 : Ev sh 193 60 [some (.ref i), a1, a2] st σ Q = Ev sh 193 61 [some (.ref i), a1, a2] (.ref i :: st) σ Q := Ev_step rfl
theorem s_M_jointHolds_61 (h : sh i = 9) : Ev sh 193 61 [a0, a1, a2] (.ref i :: st) σ Q = Ev sh 193 64 [a0, a1, a2] (.ref 4 :: st) σ Q := Ev_h h rfl
theorem s_M_jointHolds_64 : Ev sh 193 64 [a0, some (.int x), a2] st σ Q = Ev sh 193 65 [a0, some (.int x), a2] (.int x :: st) σ Q := Ev_step rfl
theorem s_M_jointHolds_65 : Ev sh 193 65 [a0, a1, a2] st σ Q = Ev sh 193 66 [a0, a1, a2] (.int 1 :: st) σ Q := Ev_step rfl
theorem s_M_jointHolds_66 : Ev sh 193 66 [a0, a1, a2] (.int y :: .int x :: st) σ Q = Ev sh 193 67 [a0, a1, a2] (.int (x + y) :: st) σ Q := Ev_step rfl
theorem s_M_jointHolds_67 (h : zin x (sh i) = true) : Ev sh 193 67 [a0, a1, a2] (.int x :: .ref i :: st) σ Q = Ev sh 193 68 [a0, a1, a2] (.int (σ i x.toNatClampNeg) :: st) σ Q := Ev_h h rfl
theorem s_M_jointHolds_68 : Ev sh 193 68 [a0, a1, a2] (.int y :: .int x :: st) σ Q = if x = y then Ev sh 193 74 [a0, a1, a2] st σ Q else Ev sh 193 71 [a0, a1, a2] st σ Q := Ev_if rfl
theorem s_M_jointHolds_71 : Ev sh 193 71 [a0, a1, some (.int x)] st σ Q = Ev sh 193 74 [a0, a1, some (.int (x + (-1)))] st σ Q := Ev_step rfl
theorem s_M_jointHolds_74 : Ev sh 193 74 [a0, a1, some (.int x)] st σ Q = Ev sh 193 75 [a0, a1, some (.int x)] (.int x :: st) σ Q := Ev_step rfl
theorem s_M_jointHolds_75 : Ev sh 193 75 [a0, a1, a2] (.int x :: st) σ Q = if 0 ≤ x then Ev sh 193 82 [a0, a1, a2] st σ Q else Ev sh 193 78 [a0, a1, a2] st σ Q := Ev_if rfl
theorem s_M_jointHolds_78 : Ev sh 193 78 [a0, a1, a2] st σ Q = Ev sh 193 79 [a0, a1, a2] (.int 0 :: st) σ Q := Ev_step rfl
theorem s_M_jointHolds_79 : Ev sh 193 79 [a0, a1, a2] st σ Q = Ev sh 193 83 [a0, a1, a2] st σ Q := Ev_step rfl
theorem s_M_jointHolds_82 : Ev sh 193 82 [a0, a1, some (.int x)] st σ Q = Ev sh 193 83 [a0, a1, some (.int x)] (.int x :: st) σ Q := Ev_step rfl
theorem s_M_jointHolds_83 : Ev sh 193 83 [a0, a1, a2] [.int x] σ Q = Q (some (.int x)) σ := Ev_ret rfl
theorem s_M_loadOf_0 : Ev sh 194 0 [some (.ref i), a1] st σ Q = Ev sh 194 1 [some (.ref i), a1] (.ref i :: st) σ Q := Ev_step rfl
theorem s_M_loadOf_1 (h : sh i = 9) : Ev sh 194 1 [a0, a1] (.ref i :: st) σ Q = Ev sh 194 4 [a0, a1] (.int (σ i 7) :: st) σ Q := Ev_h h rfl
theorem s_M_loadOf_4 : Ev sh 194 4 [a0, a1] st σ Q = Ev sh 194 5 [a0, a1] (.int 1 :: st) σ Q := Ev_step rfl
theorem s_M_loadOf_5 : Ev sh 194 5 [a0, a1] (.int y :: .int x :: st) σ Q = Ev sh 194 6 [a0, a1] (.int (x - y) :: st) σ Q := Ev_step rfl
theorem s_M_loadOf_6 : Ev sh 194 6 [a0, some (.int x)] st σ Q = Ev sh 194 7 [a0, some (.int x)] (.int x :: st) σ Q := Ev_step rfl
theorem s_M_loadOf_7 : Ev sh 194 7 [a0, a1] (.int y :: .int x :: st) σ Q = Ev sh 194 8 [a0, a1] (.int (x - y) :: st) σ Q := Ev_step rfl
theorem s_M_loadOf_8 : Ev sh 194 8 [a0, a1] st σ Q = Ev sh 194 9 [a0, a1] (.int 2 :: st) σ Q := Ev_step rfl
theorem s_M_loadOf_9 (h : ¬ y = 0) : Ev sh 194 9 [a0, a1] (.int y :: .int x :: st) σ Q = Ev sh 194 10 [a0, a1] (.int (x / y) :: st) σ Q := Ev_h h rfl
theorem s_M_loadOf_10 : Ev sh 194 10 [a0, a1] st σ Q = Ev sh 194 11 [a0, a1] (.int 1 :: st) σ Q := Ev_step rfl
theorem s_M_loadOf_11 : Ev sh 194 11 [a0, a1] (.int y :: .int x :: st) σ Q = Ev sh 194 12 [a0, a1] (.int (x + y) :: st) σ Q := Ev_step rfl
theorem s_M_loadOf_12 : Ev sh 194 12 [a0, a1] [.int x] σ Q = Q (some (.int x)) σ := Ev_ret rfl
theorem s_M_beyond_0 : Ev sh 195 0 [some (.ref i), a1] st σ Q = Ev sh 195 1 [some (.ref i), a1] (.ref i :: st) σ Q := Ev_step rfl
theorem s_M_beyond_1 : Ev sh 195 1 [a0, some (.int x)] st σ Q = Ev sh 195 2 [a0, some (.int x)] (.int x :: st) σ Q := Ev_step rfl
theorem s_M_beyond_2 (h : sh i0 = 9) : Ev sh 195 2 [a0, a1] [.int x1, .ref i0] σ Q = Ev sh 193 0 [some (.ref i0), some (.int x1), none] [] σ (fun r s => Ev sh 195 5 [a0, a1] (zpush r []) s Q) := Ev_callh (zrecv_of (by decide) h) rfl
theorem s_M_beyond_5 : Ev sh 195 5 [some (.ref i), a1] st σ Q = Ev sh 195 6 [some (.ref i), a1] (.ref i :: st) σ Q := Ev_step rfl
theorem s_M_beyond_6 : Ev sh 195 6 [a0, some (.int x)] st σ Q = Ev sh 195 7 [a0, some (.int x)] (.int x :: st) σ Q := Ev_step rfl
theorem s_M_beyond_7 (h : sh i1 = 9) : Ev sh 195 7 [a0, a1] [.int x2, .ref i1, .int x0] σ Q = Ev sh 194 0 [some (.ref i1), some (.int x2)] [] σ (fun r s => Ev sh 195 10 [a0, a1] (zpush r [.int x0]) s Q) := Ev_callh (zrecv_of (by decide) h) rfl
theorem s_M_beyond_10 : Ev sh 195 10 [a0, a1] (.int y :: .int x :: st) σ Q = Ev sh 195 11 [a0, a1] (.int (x - y) :: st) σ Q := Ev_step rfl
theorem s_M_beyond_11 : Ev sh 195 11 [a0, a1] [.int x] σ Q = Q (some (.int x)) σ := Ev_ret rfl
theorem s_M_breaksAt_0 : Ev sh 196 0 [a0, a1] st σ Q = Ev sh 196 1 [a0, a1] (.int 0 :: st) σ Q := Ev_step rfl
theorem s_M_breaksAt_1 : Ev sh 196 1 [a0, a1] (.int x :: st) σ Q = Ev sh 196 2 [zdrop2 a0, some (.int x)] st σ Q := Ev_step rfl
theorem s_M_breaksAt_2 : Ev sh 196 2 [a0, some (.int x)] st σ Q = Ev sh 196 3 [a0, some (.int x)] (.int x :: st) σ Q := Ev_step rfl
theorem s_M_breaksAt_3 : Ev sh 196 3 [a0, a1] st σ Q = Ev sh 196 4 [a0, a1] (.int 1 :: st) σ Q := Ev_step rfl
theorem s_M_breaksAt_4 : Ev sh 196 4 [a0, a1] (.int y :: .int x :: st) σ Q = Ev sh 196 5 [a0, a1] (.int (x + y) :: st) σ Q := Ev_step rfl
theorem s_M_breaksAt_5 : Ev sh 196 5 [some (.ref i), a1] st σ Q = Ev sh 196 6 [some (.ref i), a1] (.ref i :: st) σ Q := Ev_step rfl
theorem s_M_breaksAt_6 (h : sh i = 9) : Ev sh 196 6 [a0, a1] (.ref i :: st) σ Q = Ev sh 196 9 [a0, a1] (.int (σ i 7) :: st) σ Q := Ev_h h rfl
theorem s_M_breaksAt_9 : Ev sh 196 9 [a0, a1] (.int y :: .int x :: st) σ Q = if y ≤ x then Ev sh 196 28 [a0, a1] st σ Q else Ev sh 196 12 [a0, a1] st σ Q := Ev_if rfl
theorem s_M_breaksAt_12 : Ev sh 196 12 [some (.ref i), a1] st σ Q = Ev sh 196 13 [some (.ref i), a1] (.ref i :: st) σ Q := Ev_step rfl
theorem s_M_breaksAt_13 : Ev sh 196 13 [a0, some (.int x)] st σ Q = Ev sh 196 14 [a0, some (.int x)] (.int x :: st) σ Q := Ev_step rfl
theorem s_M_breaksAt_14 (h : sh i0 = 9) : Ev sh 196 14 [a0, a1] [.int x1, .ref i0] σ Q = Ev sh 195 0 [some (.ref i0), some (.int x1)] [] σ (fun r s => Ev sh 196 17 [a0, a1] (zpush r []) s Q) := Ev_callh (zrecv_of (by decide) h) rfl
theorem s_M_breaksAt_17 : Ev sh 196 17 [a0, a1] (.int x :: st) σ Q = if 0 ≤ x then Ev sh 196 22 [a0, a1] st σ Q else Ev sh 196 20 [a0, a1] st σ Q := Ev_if rfl
theorem s_M_breaksAt_20 : Ev sh 196 20 [a0, some (.int x)] st σ Q = Ev sh 196 21 [a0, some (.int x)] (.int x :: st) σ Q := Ev_step rfl
theorem s_M_breaksAt_21 : Ev sh 196 21 [a0, a1] [.int x] σ Q = Q (some (.int x)) σ := Ev_ret rfl
theorem s_M_breaksAt_22 : Ev sh 196 22 [a0, some (.int x)] st σ Q = Ev sh 196 25 [a0, some (.int (x + 1))] st σ Q := Ev_step rfl
theorem s_M_breaksAt_25 : Ev sh 196 25 [a0, a1] st σ Q = Ev sh 196 2 [a0, a1] st σ Q := Ev_step rfl
theorem s_M_breaksAt_28 : Ev sh 196 28 [a0, a1] st σ Q = Ev sh 196 30 [a0, a1] (.int (-9) :: st) σ Q := Ev_step rfl
theorem s_M_breaksAt_30 : Ev sh 196 30 [a0, a1] [.int x] σ Q = Q (some (.int x)) σ := Ev_ret rfl
theorem s_M_leansAt_0 : Ev sh 197 0 [a0, a1, a2] st σ Q = Ev sh 197 1 [a0, a1, a2] (.int 0 :: st) σ Q := Ev_step rfl
theorem s_M_leansAt_1 : Ev sh 197 1 [a0, a1, a2] (.int x :: st) σ Q = Ev sh 197 2 [zdrop2 a0, some (.int x), a2] st σ Q := Ev_step rfl
theorem s_M_leansAt_2 : Ev sh 197 2 [a0, a1, a2] st σ Q = Ev sh 197 3 [a0, a1, a2] (.int 0 :: st) σ Q := Ev_step rfl
theorem s_M_leansAt_3 : Ev sh 197 3 [a0, a1, a2] (.int x :: st) σ Q = Ev sh 197 4 [a0, zdrop2 a1, some (.int x)] st σ Q := Ev_step rfl
theorem s_M_leansAt_4 : Ev sh 197 4 [a0, a1, some (.int x)] st σ Q = Ev sh 197 5 [a0, a1, some (.int x)] (.int x :: st) σ Q := Ev_step rfl
theorem s_M_leansAt_5 : Ev sh 197 5 [some (.ref i), a1, a2] st σ Q = Ev sh 197 6 [some (.ref i), a1, a2] (.ref i :: st) σ Q := Ev_step rfl
theorem s_M_leansAt_6 (h : sh i = 9) : Ev sh 197 6 [a0, a1, a2] (.ref i :: st) σ Q = Ev sh 197 9 [a0, a1, a2] (.int (σ i 7) :: st) σ Q := Ev_h h rfl
theorem s_M_leansAt_9 : Ev sh 197 9 [a0, a1, a2] (.int y :: .int x :: st) σ Q = if y ≤ x then Ev sh 197 37 [a0, a1, a2] st σ Q else Ev sh 197 12 [a0, a1, a2] st σ Q := Ev_if rfl
theorem s_M_leansAt_12 : Ev sh 197 12 [a0, some (.int x), a2] st σ Q = Ev sh 197 13 [a0, some (.int x), a2] (.int x :: st) σ Q := Ev_step rfl
theorem s_M_leansAt_13 : Ev sh 197 13 [some (.ref i), a1, a2] st σ Q = Ev sh 197 14 [some (.ref i), a1, a2] (.ref i :: st) σ Q := Ev_step rfl
theorem s_M_leansAt_14 : Ev sh 197 14 [a0, a1, some (.int x)] st σ Q = Ev sh 197 15 [a0, a1, some (.int x)] (.int x :: st) σ Q := Ev_step rfl
theorem s_M_leansAt_15 (h : sh i1 = 9) : Ev sh 197 15 [a0, a1, a2] [.int x2, .ref i1, .int x0] σ Q = Ev sh 191 0 [some (.ref i1), some (.int x2), none] [] σ (fun r s => Ev sh 197 18 [a0, a1, a2] (zpush r [.int x0]) s Q) := Ev_callh (zrecv_of (by decide) h) rfl
theorem s_M_leansAt_18 : Ev sh 197 18 [a0, a1, a2] (.int y :: .int x :: st) σ Q = Ev sh 197 19 [a0, a1, a2] (.int (x + y) :: st) σ Q := Ev_step rfl
theorem s_M_leansAt_19 : Ev sh 197 19 [a0, a1, a2] (.int x :: st) σ Q = Ev sh 197 20 [zdrop2 a0, some (.int x), a2] st σ Q := Ev_step rfl
theorem s_M_leansAt_20 : Ev sh 197 20 [a0, some (.int x), a2] st σ Q = Ev sh 197 21 [a0, some (.int x), a2] (.int x :: st) σ Q := Ev_step rfl
theorem s_M_leansAt_21 : Ev sh 197 21 [a0, a1, a2] [.int x0] σ Q = Ev sh 166 0 [some (.int x0)] [] σ (fun r s => Ev sh 197 24 [a0, a1, a2] (zpush r []) s Q) := Ev_call rfl
theorem s_M_leansAt_24 : Ev sh 197 24 [a0, a1, a2] st σ Q = Ev sh 197 26 [a0, a1, a2] (.int 6 :: st) σ Q := Ev_step rfl
theorem s_M_leansAt_26 : Ev sh 197 26 [a0, a1, a2] (.int y :: .int x :: st) σ Q = if x ≤ y then Ev sh 197 31 [a0, a1, a2] st σ Q else Ev sh 197 29 [a0, a1, a2] st σ Q := Ev_if rfl
theorem s_M_leansAt_29 : Ev sh 197 29 [a0, a1, some (.int x)] st σ Q = Ev sh 197 30 [a0, a1, some (.int x)] (.int x :: st) σ Q := Ev_step rfl
theorem s_M_leansAt_30 : Ev sh 197 30 [a0, a1, a2] [.int x] σ Q = Q (some (.int x)) σ := Ev_ret rfl
theorem s_M_leansAt_31 : Ev sh 197 31 [a0, a1, some (.int x)] st σ Q = Ev sh 197 34 [a0, a1, some (.int (x + 1))] st σ Q := Ev_step rfl
theorem s_M_leansAt_34 : Ev sh 197 34 [a0, a1, a2] st σ Q = Ev sh 197 4 [a0, a1, a2] st σ Q := Ev_step rfl
theorem s_M_leansAt_37 : Ev sh 197 37 [a0, a1, a2] st σ Q = Ev sh 197 39 [a0, a1, a2] (.int (-9) :: st) σ Q := Ev_step rfl
theorem s_M_leansAt_39 : Ev sh 197 39 [a0, a1, a2] [.int x] σ Q = Q (some (.int x)) σ := Ev_ret rfl
theorem s_M_isUpright_0 : Ev sh 198 0 [some (.ref i)] st σ Q = Ev sh 198 1 [some (.ref i)] (.ref i :: st) σ Q := Ev_step rfl
theorem s_M_isUpright_1 (h : sh i0 = 9) : Ev sh 198 1 [a0] [.ref i0] σ Q = Ev sh 196 0 [some (.ref i0), none] [] σ (fun r s => Ev sh 198 4 [a0] (zpush r []) s Q) := Ev_callh (zrecv_of (by decide) h) rfl
theorem s_M_isUpright_4 : Ev sh 198 4 [a0] (.int x :: st) σ Q = if 0 ≤ x then Ev sh 198 18 [a0] st σ Q else Ev sh 198 7 [a0] st σ Q := Ev_if rfl
theorem s_M_isUpright_7 : Ev sh 198 7 [some (.ref i)] st σ Q = Ev sh 198 8 [some (.ref i)] (.ref i :: st) σ Q := Ev_step rfl
theorem s_M_isUpright_8 (h : sh i0 = 9) : Ev sh 198 8 [a0] [.ref i0] σ Q = Ev sh 197 0 [some (.ref i0), none, none] [] σ (fun r s => Ev sh 198 11 [a0] (zpush r []) s Q) := Ev_callh (zrecv_of (by decide) h) rfl
theorem s_M_isUpright_11 : Ev sh 198 11 [a0] (.int x :: st) σ Q = if 0 ≤ x then Ev sh 198 18 [a0] st σ Q else Ev sh 198 14 [a0] st σ Q := Ev_if rfl
theorem s_M_isUpright_14 : Ev sh 198 14 [a0] st σ Q = Ev sh 198 15 [a0] (.int 1 :: st) σ Q := Ev_step rfl
theorem s_M_isUpright_15 : Ev sh 198 15 [a0] st σ Q = Ev sh 198 19 [a0] st σ Q := Ev_step rfl
theorem s_M_isUpright_18 : Ev sh 198 18 [a0] st σ Q = Ev sh 198 19 [a0] (.int 0 :: st) σ Q := Ev_step rfl
theorem s_M_isUpright_19 (h : x = 0 ∨ x = 1) : Ev sh 198 19 [a0] [.int x] σ Q = Q (some (.int x)) σ := Ev_rh h rfl
theorem s_M_weakest_0 : Ev sh 199 0 [a0, a1, a2] st σ Q = Ev sh 199 2 [a0, a1, a2] (.int (-9) :: st) σ Q := Ev_step rfl
theorem s_M_weakest_2 : Ev sh 199 2 [a0, a1, a2] (.int x :: st) σ Q = Ev sh 199 3 [zdrop2 a0, some (.int x), a2] st σ Q := Ev_step rfl
theorem s_M_weakest_3 : Ev sh 199 3 [a0, a1, a2] st σ Q = Ev sh 199 4 [a0, a1, a2] (.int 0 :: st) σ Q := Ev_step rfl
theorem s_M_weakest_4 : Ev sh 199 4 [a0, a1, a2] (.int x :: st) σ Q = Ev sh 199 5 [a0, zdrop2 a1, some (.int x)] st σ Q := Ev_step rfl
theorem s_M_weakest_5 : Ev sh 199 5 [a0, a1, some (.int x)] st σ Q = Ev sh 199 6 [a0, a1, some (.int x)] (.int x :: st) σ Q := Ev_step rfl
theorem s_M_weakest_6 : Ev sh 199 6 [a0, a1, a2] st σ Q = Ev sh 199 7 [a0, a1, a2] (.int 1 :: st) σ Q := Ev_step rfl
theorem s_M_weakest_7 : Ev sh 199 7 [a0, a1, a2] (.int y :: .int x :: st) σ Q = Ev sh 199 8 [a0, a1, a2] (.int (x + y) :: st) σ Q := Ev_step rfl
theorem s_M_weakest_8 : Ev sh 199 8 [some (.ref i), a1, a2] st σ Q = Ev sh 199 9 [some (.ref i), a1, a2] (.ref i :: st) σ Q := Ev_step rfl
theorem s_M_weakest_9 (h : sh i = 9) : Ev sh 199 9 [a0, a1, a2] (.ref i :: st) σ Q = Ev sh 199 12 [a0, a1, a2] (.int (σ i 7) :: st) σ Q := Ev_h h rfl
theorem s_M_weakest_12 : Ev sh 199 12 [a0, a1, a2] (.int y :: .int x :: st) σ Q = if y ≤ x then Ev sh 199 44 [a0, a1, a2] st σ Q else Ev sh 199 15 [a0, a1, a2] st σ Q := Ev_if rfl
theorem s_M_weakest_15 : Ev sh 199 15 [a0, some (.int x), a2] st σ Q = Ev sh 199 16 [a0, some (.int x), a2] (.int x :: st) σ Q := Ev_step rfl
theorem s_M_weakest_16 : Ev sh 199 16 [a0, a1, a2] (.int x :: st) σ Q = if x < 0 then Ev sh 199 32 [a0, a1, a2] st σ Q else Ev sh 199 19 [a0, a1, a2] st σ Q := Ev_if rfl
theorem s_M_weakest_19 : Ev sh 199 19 [some (.ref i), a1, a2] st σ Q = Ev sh 199 20 [some (.ref i), a1, a2] (.ref i :: st) σ Q := Ev_step rfl
theorem s_M_weakest_20 : Ev sh 199 20 [a0, a1, some (.int x)] st σ Q = Ev sh 199 21 [a0, a1, some (.int x)] (.int x :: st) σ Q := Ev_step rfl
theorem s_M_weakest_21 (h : sh i0 = 9) : Ev sh 199 21 [a0, a1, a2] [.int x1, .ref i0] σ Q = Ev sh 195 0 [some (.ref i0), some (.int x1)] [] σ (fun r s => Ev sh 199 24 [a0, a1, a2] (zpush r []) s Q) := Ev_callh (zrecv_of (by decide) h) rfl
theorem s_M_weakest_24 : Ev sh 199 24 [some (.ref i), a1, a2] st σ Q = Ev sh 199 25 [some (.ref i), a1, a2] (.ref i :: st) σ Q := Ev_step rfl
theorem s_M_weakest_25 : Ev sh 199 25 [a0, some (.int x), a2] st σ Q = Ev sh 199 26 [a0, some (.int x), a2] (.int x :: st) σ Q := Ev_step rfl
theorem s_M_weakest_26 (h : sh i1 = 9) : Ev sh 199 26 [a0, a1, a2] [.int x2, .ref i1, .int x0] σ Q = Ev sh 195 0 [some (.ref i1), some (.int x2)] [] σ (fun r s => Ev sh 199 29 [a0, a1, a2] (zpush r [.int x0]) s Q) := Ev_callh (zrecv_of (by decide) h) rfl
theorem s_M_weakest_29 : Ev sh 199 29 [a0, a1, a2] (.int y :: .int x :: st) σ Q = if y ≤ x then Ev sh 199 36 [a0, a1, a2] st σ Q else Ev sh 199 32 [a0, a1, a2] st σ Q := Ev_if rfl
theorem s_M_weakest_32 : Ev sh 199 32 [a0, a1, some (.int x)] st σ Q = Ev sh 199 33 [a0, a1, some (.int x)] (.int x :: st) σ Q := Ev_step rfl
theorem s_M_weakest_33 : Ev sh 199 33 [a0, a1, a2] st σ Q = Ev sh 199 37 [a0, a1, a2] st σ Q := Ev_step rfl
theorem s_M_weakest_36 : Ev sh 199 36 [a0, some (.int x), a2] st σ Q = Ev sh 199 37 [a0, some (.int x), a2] (.int x :: st) σ Q := Ev_step rfl
theorem s_M_weakest_37 : Ev sh 199 37 [a0, a1, a2] (.int x :: st) σ Q = Ev sh 199 38 [zdrop2 a0, some (.int x), a2] st σ Q := Ev_step rfl
theorem s_M_weakest_38 : Ev sh 199 38 [a0, a1, some (.int x)] st σ Q = Ev sh 199 41 [a0, a1, some (.int (x + 1))] st σ Q := Ev_step rfl
theorem s_M_weakest_41 : Ev sh 199 41 [a0, a1, a2] st σ Q = Ev sh 199 5 [a0, a1, a2] st σ Q := Ev_step rfl
theorem s_M_weakest_44 : Ev sh 199 44 [a0, some (.int x), a2] st σ Q = Ev sh 199 45 [a0, some (.int x), a2] (.int x :: st) σ Q := Ev_step rfl
theorem s_M_weakest_45 : Ev sh 199 45 [a0, a1, a2] [.int x] σ Q = Q (some (.int x)) σ := Ev_ret rfl
theorem s_M_spareNow_0 : Ev sh 200 0 [some (.ref i)] st σ Q = Ev sh 200 1 [some (.ref i)] (.ref i :: st) σ Q := Ev_step rfl
theorem s_M_spareNow_1 (h : sh i = 9) : Ev sh 200 1 [a0] (.ref i :: st) σ Q = Ev sh 200 4 [a0] (.int (σ i 7) :: st) σ Q := Ev_h h rfl
theorem s_M_spareNow_4 : Ev sh 200 4 [a0] st σ Q = Ev sh 200 5 [a0] (.int 2 :: st) σ Q := Ev_step rfl
theorem s_M_spareNow_5 : Ev sh 200 5 [a0] (.int y :: .int x :: st) σ Q = if y ≤ x then Ev sh 200 12 [a0] st σ Q else Ev sh 200 8 [a0] st σ Q := Ev_if rfl
theorem s_M_spareNow_8 : Ev sh 200 8 [a0] st σ Q = Ev sh 200 9 [a0] (.int 0 :: st) σ Q := Ev_step rfl
theorem s_M_spareNow_9 : Ev sh 200 9 [a0] st σ Q = Ev sh 200 20 [a0] st σ Q := Ev_step rfl
theorem s_M_spareNow_12 : Ev sh 200 12 [some (.ref i)] st σ Q = Ev sh 200 13 [some (.ref i)] (.ref i :: st) σ Q := Ev_step rfl
theorem s_M_spareNow_13 : Ev sh 200 13 [some (.ref i)] st σ Q = Ev sh 200 14 [some (.ref i)] (.ref i :: st) σ Q := Ev_step rfl
theorem s_M_spareNow_14 (h : sh i1 = 9) : Ev sh 200 14 [a0] [.ref i1, .ref i0] σ Q = Ev sh 199 0 [some (.ref i1), none, none] [] σ (fun r s => Ev sh 200 17 [a0] (zpush r [.ref i0]) s Q) := Ev_callh (zrecv_of (by decide) h) rfl
theorem s_M_spareNow_17 (h : sh i0 = 9) : Ev sh 200 17 [a0] [.int x1, .ref i0] σ Q = Ev sh 195 0 [some (.ref i0), some (.int x1)] [] σ (fun r s => Ev sh 200 20 [a0] (zpush r []) s Q) := Ev_callh (zrecv_of (by decide) h) rfl
theorem s_M_spareNow_20 : Ev sh 200 20 [a0] [.int x] σ Q = Q (some (.int x)) σ := Ev_ret rfl
theorem s_M_goesMason_0 : Ev sh 201 0 [some (.ref i), a1, a2, a3] st σ Q = Ev sh 201 1 [some (.ref i), a1, a2, a3] (.ref i :: st) σ Q := Ev_step rfl
theorem s_M_goesMason_1 (h : sh i = 9) : Ev sh 201 1 [a0, a1, a2, a3] (.ref i :: st) σ Q = Ev sh 201 4 [a0, a1, a2, a3] (.int (σ i 7) :: st) σ Q := Ev_h h rfl
theorem s_M_goesMason_4 : Ev sh 201 4 [a0, a1, a2, a3] st σ Q = Ev sh 201 5 [a0, a1, a2, a3] (.int 1 :: st) σ Q := Ev_step rfl
theorem s_M_goesMason_5 : Ev sh 201 5 [a0, a1, a2, a3] (.int y :: .int x :: st) σ Q = Ev sh 201 6 [a0, a1, a2, a3] (.int (x - y) :: st) σ Q := Ev_step rfl
theorem s_M_goesMason_6 : Ev sh 201 6 [a0, a1, a2, a3] (.int x :: st) σ Q = Ev sh 201 7 [a0, zdrop2 a1, some (.int x), a3] st σ Q := Ev_step rfl
theorem s_M_goesMason_7 : Ev sh 201 7 [a0, a1, some (.int x), a3] st σ Q = Ev sh 201 8 [a0, a1, some (.int x), a3] (.int x :: st) σ Q := Ev_step rfl
theorem s_M_goesMason_8 : Ev sh 201 8 [a0, a1, a2, a3] (.int x :: st) σ Q = if x < 0 then Ev sh 201 40 [a0, a1, a2, a3] st σ Q else Ev sh 201 11 [a0, a1, a2, a3] st σ Q := Ev_if rfl
theorem s_M_goesMason_11 : Ev sh 201 11 [some (.ref i), a1, a2, a3] st σ Q = Ev sh 201 12 [some (.ref i), a1, a2, a3] (.ref i :: st) σ Q := Ev_step rfl
theorem s_M_goesMason_12 (h : sh i = 9) : Ev sh 201 12 [a0, a1, a2, a3] (.ref i :: st) σ Q = Ev sh 201 15 [a0, a1, a2, a3] (.ref 4 :: st) σ Q := Ev_h h rfl
theorem s_M_goesMason_15 : Ev sh 201 15 [a0, a1, some (.int x), a3] st σ Q = Ev sh 201 16 [a0, a1, some (.int x), a3] (.int x :: st) σ Q := Ev_step rfl
theorem s_M_goesMason_16 (h : zin x (sh i) = true) : Ev sh 201 16 [a0, a1, a2, a3] (.int x :: .ref i :: st) σ Q = Ev sh 201 17 [a0, a1, a2, a3] (.int (σ i x.toNatClampNeg) :: st) σ Q := Ev_h h rfl
theorem s_M_goesMason_17 : Ev sh 201 17 [a0, some (.int x), a2, a3] st σ Q = Ev sh 201 18 [a0, some (.int x), a2, a3] (.int x :: st) σ Q := Ev_step rfl
theorem s_M_goesMason_18 : Ev sh 201 18 [a0, a1, a2, a3] (.int y :: .int x :: st) σ Q = if x = y then Ev sh 201 40 [a0, a1, a2, a3] st σ Q else Ev sh 201 21 [a0, a1, a2, a3] st σ Q := Ev_if rfl
theorem s_M_goesMason_21 : Ev sh 201 21 [some (.ref i), a1, a2, a3] st σ Q = Ev sh 201 22 [some (.ref i), a1, a2, a3] (.ref i :: st) σ Q := Ev_step rfl
theorem s_M_goesMason_22 (h : sh i = 9) : Ev sh 201 22 [a0, a1, a2, a3] (.ref i :: st) σ Q = Ev sh 201 25 [a0, a1, a2, a3] (.ref 2 :: st) σ Q := Ev_h h rfl
theorem s_M_goesMason_25 : Ev sh 201 25 [a0, a1, some (.int x), a3] st σ Q = Ev sh 201 26 [a0, a1, some (.int x), a3] (.int x :: st) σ Q := Ev_step rfl
theorem s_M_goesMason_26 (h : zin x (sh i) = true) : Ev sh 201 26 [a0, a1, a2, a3] (.int x :: .ref i :: st) σ Q = Ev sh 201 27 [a0, a1, a2, a3] (.int (σ i x.toNatClampNeg) :: st) σ Q := Ev_h h rfl
theorem s_M_goesMason_27 : Ev sh 201 27 [some (.ref i), a1, a2, a3] st σ Q = Ev sh 201 28 [some (.ref i), a1, a2, a3] (.ref i :: st) σ Q := Ev_step rfl
theorem s_M_goesMason_28 (h : sh i = 9) : Ev sh 201 28 [a0, a1, a2, a3] (.ref i :: st) σ Q = Ev sh 201 31 [a0, a1, a2, a3] (.ref 5 :: st) σ Q := Ev_h h rfl
theorem s_M_goesMason_31 : Ev sh 201 31 [a0, some (.int x), a2, a3] st σ Q = Ev sh 201 32 [a0, some (.int x), a2, a3] (.int x :: st) σ Q := Ev_step rfl
theorem s_M_goesMason_32 (h : zin x (sh i) = true) : Ev sh 201 32 [a0, a1, a2, a3] (.int x :: .ref i :: st) σ Q = Ev sh 201 33 [a0, a1, a2, a3] (.int (σ i x.toNatClampNeg) :: st) σ Q := Ev_h h rfl
theorem s_M_goesMason_33 : Ev sh 201 33 [a0, a1, a2, a3] (.int y :: .int x :: st) σ Q = if x = y then Ev sh 201 40 [a0, a1, a2, a3] st σ Q else Ev sh 201 36 [a0, a1, a2, a3] st σ Q := Ev_if rfl
theorem s_M_goesMason_36 : Ev sh 201 36 [a0, a1, a2, a3] st σ Q = Ev sh 201 37 [a0, a1, a2, a3] (.int 1 :: st) σ Q := Ev_step rfl
theorem s_M_goesMason_37 : Ev sh 201 37 [a0, a1, a2, a3] st σ Q = Ev sh 201 41 [a0, a1, a2, a3] st σ Q := Ev_step rfl
theorem s_M_goesMason_40 : Ev sh 201 40 [a0, a1, a2, a3] st σ Q = Ev sh 201 41 [a0, a1, a2, a3] (.int 0 :: st) σ Q := Ev_step rfl
theorem s_M_goesMason_41 : Ev sh 201 41 [a0, a1, a2, a3] (.int x :: st) σ Q = Ev sh 201 42 [a0, a1, zdrop2 a2, some (.int x)] st σ Q := Ev_step rfl
theorem s_M_goesMason_42 : Ev sh 201 42 [a0, a1, a2, some (.int x)] st σ Q = Ev sh 201 43 [a0, a1, a2, some (.int x)] (.int x :: st) σ Q := Ev_step rfl
theorem s_M_goesMason_43 : Ev sh 201 43 [a0, a1, a2, a3] (.int x :: st) σ Q = if x = 0 then Ev sh 201 118 [a0, a1, a2, a3] st σ Q else Ev sh 201 46 [a0, a1, a2, a3] st σ Q := Ev_if rfl
theorem s_M_goesMason_46 : Ev sh 201 46 [some (.ref i), a1, a2, a3] st σ Q = Ev sh 201 47 [some (.ref i), a1, a2, a3] (.ref i :: st) σ Q := Ev_step rfl
theorem s_M_goesMason_47 (h : sh i = 9) : Ev sh 201 47 [a0, a1, a2, a3] (.ref i :: st) σ Q = Ev sh 201 50 [a0, a1, a2, a3] (.ref 7 :: st) σ Q := Ev_h h rfl
theorem s_M_goesMason_50 : Ev sh 201 50 [a0, some (.int x), a2, a3] st σ Q = Ev sh 201 51 [a0, some (.int x), a2, a3] (.int x :: st) σ Q := Ev_step rfl
theorem s_M_goesMason_51 (h : zin x (sh i) = true) : Ev sh 201 51 [a0, a1, a2, a3] (.int x :: .ref i :: st) σ Q = Ev sh 201 52 [a0, a1, a2, a3] (.int (σ i x.toNatClampNeg) :: st) σ Q := Ev_h h rfl
theorem s_M_goesMason_52 : Ev sh 201 52 [some (.ref i), a1, a2, a3] st σ Q = Ev sh 201 53 [some (.ref i), a1, a2, a3] (.ref i :: st) σ Q := Ev_step rfl
theorem s_M_goesMason_53 (h : sh i = 9) : Ev sh 201 53 [a0, a1, a2, a3] (.ref i :: st) σ Q = Ev sh 201 56 [a0, a1, a2, a3] (.int (σ i 8) :: st) σ Q := Ev_h h rfl
theorem s_M_goesMason_56 : Ev sh 201 56 [a0, a1, a2, a3] (.int y :: .int x :: st) σ Q = Ev sh 201 57 [a0, a1, a2, a3] (.int (x + y) :: st) σ Q := Ev_step rfl
theorem s_M_goesMason_57 : Ev sh 201 57 [a0, a1, a2, a3] st σ Q = Ev sh 201 59 [a0, a1, a2, a3] (.int 10 :: st) σ Q := Ev_step rfl
theorem s_M_goesMason_59 (h : ¬ y = 0) : Ev sh 201 59 [a0, a1, a2, a3] (.int y :: .int x :: st) σ Q = Ev sh 201 60 [a0, a1, a2, a3] (.int (x - x / y * y) :: st) σ Q := Ev_h h rfl
theorem s_M_goesMason_60 : Ev sh 201 60 [a0, a1, a2, a3] st σ Q = Ev sh 201 61 [a0, a1, a2, a3] (.int 5 :: st) σ Q := Ev_step rfl
theorem s_M_goesMason_61 : Ev sh 201 61 [a0, a1, a2, a3] (.int y :: .int x :: st) σ Q = if x < y then Ev sh 201 118 [a0, a1, a2, a3] st σ Q else Ev sh 201 64 [a0, a1, a2, a3] st σ Q := Ev_if rfl
theorem s_M_goesMason_64 : Ev sh 201 64 [some (.ref i), a1, a2, a3] st σ Q = Ev sh 201 65 [some (.ref i), a1, a2, a3] (.ref i :: st) σ Q := Ev_step rfl
theorem s_M_goesMason_65 : Ev sh 201 65 [a0, a1, some (.int x), a3] st σ Q = Ev sh 201 66 [a0, a1, some (.int x), a3] (.int x :: st) σ Q := Ev_step rfl
theorem s_M_goesMason_66 : Ev sh 201 66 [some (.ref i), a1, a2, a3] st σ Q = Ev sh 201 67 [some (.ref i), a1, a2, a3] (.ref i :: st) σ Q := Ev_step rfl
theorem s_M_goesMason_67 (h : sh i = 9) : Ev sh 201 67 [a0, a1, a2, a3] (.ref i :: st) σ Q = Ev sh 201 70 [a0, a1, a2, a3] (.ref 5 :: st) σ Q := Ev_h h rfl
theorem s_M_goesMason_70 : Ev sh 201 70 [a0, some (.int x), a2, a3] st σ Q = Ev sh 201 71 [a0, some (.int x), a2, a3] (.int x :: st) σ Q := Ev_step rfl
theorem s_M_goesMason_71 (h : zin x (sh i) = true) : Ev sh 201 71 [a0, a1, a2, a3] (.int x :: .ref i :: st) σ Q = Ev sh 201 72 [a0, a1, a2, a3] (.int (σ i x.toNatClampNeg) :: st) σ Q := Ev_h h rfl
theorem s_M_goesMason_72 : Ev sh 201 72 [some (.ref i), a1, a2, a3] st σ Q = Ev sh 201 73 [some (.ref i), a1, a2, a3] (.ref i :: st) σ Q := Ev_step rfl
theorem s_M_goesMason_73 (h : sh i = 9) : Ev sh 201 73 [a0, a1, a2, a3] (.ref i :: st) σ Q = Ev sh 201 76 [a0, a1, a2, a3] (.ref 6 :: st) σ Q := Ev_h h rfl
theorem s_M_goesMason_76 : Ev sh 201 76 [a0, some (.int x), a2, a3] st σ Q = Ev sh 201 77 [a0, some (.int x), a2, a3] (.int x :: st) σ Q := Ev_step rfl
theorem s_M_goesMason_77 (h : zin x (sh i) = true) : Ev sh 201 77 [a0, a1, a2, a3] (.int x :: .ref i :: st) σ Q = Ev sh 201 78 [a0, a1, a2, a3] (.int (σ i x.toNatClampNeg) :: st) σ Q := Ev_h h rfl
theorem s_M_goesMason_78 (h : sh i0 = 9) : Ev sh 201 78 [a0, a1, a2, a3] [.int x3, .int x2, .int x1, .ref i0] σ Q = Ev sh 189 0 [some (.ref i0), some (.int x1), some (.int x2), some (.int x3)] [] σ (fun r s => Ev sh 201 81 [a0, a1, a2, a3] (zpush r []) s Q) := Ev_callh (zrecv_of (by decide) h) rfl
theorem s_M_goesMason_81 : Ev sh 201 81 [some (.ref i), a1, a2, a3] st σ Q = Ev sh 201 82 [some (.ref i), a1, a2, a3] (.ref i :: st) σ Q := Ev_step rfl
theorem s_M_goesMason_82 (h : sh i = 9) : Ev sh 201 82 [a0, a1, a2, a3] (.ref i :: st) σ Q = Ev sh 201 85 [a0, a1, a2, a3] (.ref 4 :: st) σ Q := Ev_h h rfl
theorem s_M_goesMason_85 : Ev sh 201 85 [a0, a1, some (.int x), a3] st σ Q = Ev sh 201 86 [a0, a1, some (.int x), a3] (.int x :: st) σ Q := Ev_step rfl
theorem s_M_goesMason_86 : Ev sh 201 86 [a0, some (.int x), a2, a3] st σ Q = Ev sh 201 87 [a0, some (.int x), a2, a3] (.int x :: st) σ Q := Ev_step rfl
theorem s_M_goesMason_87 (h : zin x (sh i) = true) : Ev sh 201 87 [a0, a1, a2, a3] (.int y :: .int x :: .ref i :: st) σ Q = Ev sh 201 88 [a0, a1, a2, a3] st (zup σ i x.toNatClampNeg y) Q := Ev_h h rfl
theorem s_M_goesMason_88 : Ev sh 201 88 [some (.ref i), a1, a2, a3] st σ Q = Ev sh 201 89 [some (.ref i), a1, a2, a3] (.ref i :: st) σ Q := Ev_step rfl
theorem s_M_goesMason_89 : Ev sh 201 89 [some (.ref i), a1, a2, a3] st σ Q = Ev sh 201 90 [some (.ref i), a1, a2, a3] (.ref i :: st) σ Q := Ev_step rfl
theorem s_M_goesMason_90 (h : sh i = 9) : Ev sh 201 90 [a0, a1, a2, a3] (.ref i :: st) σ Q = Ev sh 201 93 [a0, a1, a2, a3] (.int (σ i 8) :: st) σ Q := Ev_h h rfl
theorem s_M_goesMason_93 : Ev sh 201 93 [a0, a1, a2, a3] st σ Q = Ev sh 201 96 [a0, a1, a2, a3] (.int 999 :: st) σ Q := Ev_step rfl
theorem s_M_goesMason_96 : Ev sh 201 96 [a0, a1, a2, a3] (.int y :: .int x :: st) σ Q = if y ≤ x then Ev sh 201 108 [a0, a1, a2, a3] st σ Q else Ev sh 201 99 [a0, a1, a2, a3] st σ Q := Ev_if rfl
theorem s_M_goesMason_99 : Ev sh 201 99 [some (.ref i), a1, a2, a3] st σ Q = Ev sh 201 100 [some (.ref i), a1, a2, a3] (.ref i :: st) σ Q := Ev_step rfl
theorem s_M_goesMason_100 (h : sh i = 9) : Ev sh 201 100 [a0, a1, a2, a3] (.ref i :: st) σ Q = Ev sh 201 103 [a0, a1, a2, a3] (.int (σ i 8) :: st) σ Q := Ev_h h rfl
theorem s_M_goesMason_103 : Ev sh 201 103 [a0, a1, a2, a3] st σ Q = Ev sh 201 104 [a0, a1, a2, a3] (.int 1 :: st) σ Q := Ev_step rfl
theorem s_M_goesMason_104 : Ev sh 201 104 [a0, a1, a2, a3] (.int y :: .int x :: st) σ Q = Ev sh 201 105 [a0, a1, a2, a3] (.int (x + y) :: st) σ Q := Ev_step rfl
theorem s_M_goesMason_105 : Ev sh 201 105 [a0, a1, a2, a3] st σ Q = Ev sh 201 112 [a0, a1, a2, a3] st σ Q := Ev_step rfl
theorem s_M_goesMason_108 : Ev sh 201 108 [some (.ref i), a1, a2, a3] st σ Q = Ev sh 201 109 [some (.ref i), a1, a2, a3] (.ref i :: st) σ Q := Ev_step rfl
theorem s_M_goesMason_109 (h : sh i = 9) : Ev sh 201 109 [a0, a1, a2, a3] (.ref i :: st) σ Q = Ev sh 201 112 [a0, a1, a2, a3] (.int (σ i 8) :: st) σ Q := Ev_h h rfl
theorem s_M_goesMason_112 (h : sh i = 9) : Ev sh 201 112 [a0, a1, a2, a3] (.int x :: .ref i :: st) σ Q = Ev sh 201 115 [a0, a1, a2, a3] st (zup σ i 8 x) Q := Ev_h h rfl
theorem s_M_goesMason_115 : Ev sh 201 115 [a0, a1, a2, a3] st σ Q = Ev sh 201 144 [a0, a1, a2, a3] st σ Q := Ev_step rfl
theorem s_M_goesMason_118 : Ev sh 201 118 [some (.ref i), a1, a2, a3] st σ Q = Ev sh 201 119 [some (.ref i), a1, a2, a3] (.ref i :: st) σ Q := Ev_step rfl
theorem s_M_goesMason_119 (h : sh i = 9) : Ev sh 201 119 [a0, a1, a2, a3] (.ref i :: st) σ Q = Ev sh 201 122 [a0, a1, a2, a3] (.int (σ i 7) :: st) σ Q := Ev_h h rfl
theorem s_M_goesMason_122 : Ev sh 201 122 [a0, a1, a2, a3] st σ Q = Ev sh 201 124 [a0, a1, a2, a3] (.int 12 :: st) σ Q := Ev_step rfl
theorem s_M_goesMason_124 : Ev sh 201 124 [a0, a1, a2, a3] (.int y :: .int x :: st) σ Q = if y ≤ x then Ev sh 201 144 [a0, a1, a2, a3] st σ Q else Ev sh 201 127 [a0, a1, a2, a3] st σ Q := Ev_if rfl
theorem s_M_goesMason_127 : Ev sh 201 127 [some (.ref i), a1, a2, a3] st σ Q = Ev sh 201 128 [some (.ref i), a1, a2, a3] (.ref i :: st) σ Q := Ev_step rfl
theorem s_M_goesMason_128 : Ev sh 201 128 [some (.ref i), a1, a2, a3] st σ Q = Ev sh 201 129 [some (.ref i), a1, a2, a3] (.ref i :: st) σ Q := Ev_step rfl
theorem s_M_goesMason_129 (h : sh i = 9) : Ev sh 201 129 [a0, a1, a2, a3] (.ref i :: st) σ Q = Ev sh 201 132 [a0, a1, a2, a3] (.ref 5 :: st) σ Q := Ev_h h rfl
theorem s_M_goesMason_132 : Ev sh 201 132 [a0, some (.int x), a2, a3] st σ Q = Ev sh 201 133 [a0, some (.int x), a2, a3] (.int x :: st) σ Q := Ev_step rfl
theorem s_M_goesMason_133 (h : zin x (sh i) = true) : Ev sh 201 133 [a0, a1, a2, a3] (.int x :: .ref i :: st) σ Q = Ev sh 201 134 [a0, a1, a2, a3] (.int (σ i x.toNatClampNeg) :: st) σ Q := Ev_h h rfl
theorem s_M_goesMason_134 : Ev sh 201 134 [some (.ref i), a1, a2, a3] st σ Q = Ev sh 201 135 [some (.ref i), a1, a2, a3] (.ref i :: st) σ Q := Ev_step rfl
theorem s_M_goesMason_135 (h : sh i = 9) : Ev sh 201 135 [a0, a1, a2, a3] (.ref i :: st) σ Q = Ev sh 201 138 [a0, a1, a2, a3] (.ref 6 :: st) σ Q := Ev_h h rfl
theorem s_M_goesMason_138 : Ev sh 201 138 [a0, some (.int x), a2, a3] st σ Q = Ev sh 201 139 [a0, some (.int x), a2, a3] (.int x :: st) σ Q := Ev_step rfl
theorem s_M_goesMason_139 (h : zin x (sh i) = true) : Ev sh 201 139 [a0, a1, a2, a3] (.int x :: .ref i :: st) σ Q = Ev sh 201 140 [a0, a1, a2, a3] (.int (σ i x.toNatClampNeg) :: st) σ Q := Ev_h h rfl
theorem s_M_goesMason_140 : Ev sh 201 140 [a0, some (.int x), a2, a3] st σ Q = Ev sh 201 141 [a0, some (.int x), a2, a3] (.int x :: st) σ Q := Ev_step rfl
theorem s_M_goesMason_141 (h : sh i0 = 9) : Ev sh 201 141 [a0, a1, a2, a3] [.int x3, .int x2, .int x1, .ref i0] σ Q = Ev sh 188 0 [some (.ref i0), some (.int x1), some (.int x2), some (.int x3)] [] σ (fun r s => Ev sh 201 144 [a0, a1, a2, a3] (zpush r []) s Q) := Ev_callh (zrecv_of (by decide) h) rfl
theorem s_M_goesMason_144 : Ev sh 201 144 [a0, a1, a2, a3] [] σ Q = Q none σ := Ev_ret rfl
theorem s_M_goesDay_0 : Ev sh 202 0 [some (.ref i), a1] st σ Q = Ev sh 202 1 [some (.ref i), a1] (.ref i :: st) σ Q := Ev_step rfl
theorem s_M_goesDay_1 : Ev sh 202 1 [a0, a1] (.ref i :: st) σ Q = Ev sh 202 2 [a0, a1] (.ref i :: .ref i :: st) σ Q := Ev_step rfl
theorem s_M_goesDay_2 (h : sh i = 9) : Ev sh 202 2 [a0, a1] (.ref i :: st) σ Q = Ev sh 202 5 [a0, a1] (.int (σ i 9) :: st) σ Q := Ev_h h rfl
theorem s_M_goesDay_5 : Ev sh 202 5 [a0, a1] st σ Q = Ev sh 202 6 [a0, a1] (.int 1 :: st) σ Q := Ev_step rfl
theorem s_M_goesDay_6 : Ev sh 202 6 [a0, a1] (.int y :: .int x :: st) σ Q = Ev sh 202 7 [a0, a1] (.int (x + y) :: st) σ Q := Ev_step rfl
theorem s_M_goesDay_7 (h : sh i = 9) : Ev sh 202 7 [a0, a1] (.int x :: .ref i :: st) σ Q = Ev sh 202 10 [a0, a1] st (zup σ i 9 x) Q := Ev_h h rfl
theorem s_M_goesDay_10 : Ev sh 202 10 [some (.ref i), a1] st σ Q = Ev sh 202 11 [some (.ref i), a1] (.ref i :: st) σ Q := Ev_step rfl
theorem s_M_goesDay_11 : Ev sh 202 11 [a0, a1] st σ Q = Ev sh 202 12 [a0, a1] (.int 0 :: st) σ Q := Ev_step rfl
theorem s_M_goesDay_12 (h : sh i0 = 9) : Ev sh 202 12 [a0, a1] [.int x1, .ref i0] σ Q = Ev sh 201 0 [some (.ref i0), some (.int x1), none, none] [] σ (fun r s => Ev sh 202 15 [a0, a1] (zpush r []) s Q) := Ev_callh (zrecv_of (by decide) h) rfl
theorem s_M_goesDay_15 : Ev sh 202 15 [a0, some (.int x)] st σ Q = Ev sh 202 16 [a0, some (.int x)] (.int x :: st) σ Q := Ev_step rfl
theorem s_M_goesDay_16 : Ev sh 202 16 [a0, a1] (.int x :: st) σ Q = if x ≠ 0 then Ev sh 202 24 [a0, a1] st σ Q else Ev sh 202 19 [a0, a1] st σ Q := Ev_if rfl
theorem s_M_goesDay_19 : Ev sh 202 19 [some (.ref i), a1] st σ Q = Ev sh 202 20 [some (.ref i), a1] (.ref i :: st) σ Q := Ev_step rfl
theorem s_M_goesDay_20 : Ev sh 202 20 [a0, a1] st σ Q = Ev sh 202 21 [a0, a1] (.int 1 :: st) σ Q := Ev_step rfl
theorem s_M_goesDay_21 (h : sh i0 = 9) : Ev sh 202 21 [a0, a1] [.int x1, .ref i0] σ Q = Ev sh 201 0 [some (.ref i0), some (.int x1), none, none] [] σ (fun r s => Ev sh 202 24 [a0, a1] (zpush r []) s Q) := Ev_callh (zrecv_of (by decide) h) rfl
theorem s_M_goesDay_24 : Ev sh 202 24 [a0, a1] [] σ Q = Q none σ := Ev_ret rfl
theorem s_M_goes_0 : Ev sh 203 0 [a0, a1, a2] st σ Q = Ev sh 203 1 [a0, a1, a2] (.int 0 :: st) σ Q := Ev_step rfl
theorem s_M_goes_1 : Ev sh 203 1 [a0, a1, a2] (.int x :: st) σ Q = Ev sh 203 2 [a0, zdrop2 a1, some (.int x)] st σ Q := Ev_step rfl
theorem s_M_goes_2 : Ev sh 203 2 [a0, a1, some (.int x)] st σ Q = Ev sh 203 3 [a0, a1, some (.int x)] (.int x :: st) σ Q := Ev_step rfl
theorem s_M_goes_3 : Ev sh 203 3 [a0, some (.int x), a2] st σ Q = Ev sh 203 4 [a0, some (.int x), a2] (.int x :: st) σ Q := Ev_step rfl
theorem s_M_goes_4 : Ev sh 203 4 [a0, a1, a2] (.int y :: .int x :: st) σ Q = if y ≤ x then Ev sh 203 18 [a0, a1, a2] st σ Q else Ev sh 203 7 [a0, a1, a2] st σ Q := Ev_if rfl
theorem s_M_goes_7 : Ev sh 203 7 [some (.ref i), a1, a2] st σ Q = Ev sh 203 8 [some (.ref i), a1, a2] (.ref i :: st) σ Q := Ev_step rfl
theorem s_M_goes_8 : Ev sh 203 8 [a0, a1, a2] st σ Q = Ev sh 203 9 [a0, a1, a2] (.int 0 :: st) σ Q := Ev_step rfl
theorem s_M_goes_9 (h : sh i0 = 9) : Ev sh 203 9 [a0, a1, a2] [.int x1, .ref i0] σ Q = Ev sh 202 0 [some (.ref i0), some (.int x1)] [] σ (fun r s => Ev sh 203 12 [a0, a1, a2] (zpush r []) s Q) := Ev_callh (zrecv_of (by decide) h) rfl
theorem s_M_goes_12 : Ev sh 203 12 [a0, a1, some (.int x)] st σ Q = Ev sh 203 15 [a0, a1, some (.int (x + 1))] st σ Q := Ev_step rfl
theorem s_M_goes_15 : Ev sh 203 15 [a0, a1, a2] st σ Q = Ev sh 203 2 [a0, a1, a2] st σ Q := Ev_step rfl
theorem s_M_goes_18 : Ev sh 203 18 [a0, a1, a2] [] σ Q = Q none σ := Ev_ret rfl
theorem s_M_laidBy_0 : Ev sh 204 0 [a0, a1, a2, a3] st σ Q = Ev sh 204 1 [a0, a1, a2, a3] (.int 0 :: st) σ Q := Ev_step rfl
theorem s_M_laidBy_1 : Ev sh 204 1 [a0, a1, a2, a3] (.int x :: st) σ Q = Ev sh 204 2 [a0, zdrop2 a1, some (.int x), a3] st σ Q := Ev_step rfl
theorem s_M_laidBy_2 : Ev sh 204 2 [a0, a1, a2, a3] st σ Q = Ev sh 204 3 [a0, a1, a2, a3] (.int 0 :: st) σ Q := Ev_step rfl
theorem s_M_laidBy_3 : Ev sh 204 3 [a0, a1, a2, a3] (.int x :: st) σ Q = Ev sh 204 4 [a0, a1, zdrop2 a2, some (.int x)] st σ Q := Ev_step rfl
theorem s_M_laidBy_4 : Ev sh 204 4 [a0, a1, a2, some (.int x)] st σ Q = Ev sh 204 5 [a0, a1, a2, some (.int x)] (.int x :: st) σ Q := Ev_step rfl
theorem s_M_laidBy_5 : Ev sh 204 5 [some (.ref i), a1, a2, a3] st σ Q = Ev sh 204 6 [some (.ref i), a1, a2, a3] (.ref i :: st) σ Q := Ev_step rfl
theorem s_M_laidBy_6 (h : sh i = 9) : Ev sh 204 6 [a0, a1, a2, a3] (.ref i :: st) σ Q = Ev sh 204 9 [a0, a1, a2, a3] (.int (σ i 7) :: st) σ Q := Ev_h h rfl
theorem s_M_laidBy_9 : Ev sh 204 9 [a0, a1, a2, a3] (.int y :: .int x :: st) σ Q = if y ≤ x then Ev sh 204 36 [a0, a1, a2, a3] st σ Q else Ev sh 204 12 [a0, a1, a2, a3] st σ Q := Ev_if rfl
theorem s_M_laidBy_12 : Ev sh 204 12 [a0, a1, some (.int x), a3] st σ Q = Ev sh 204 13 [a0, a1, some (.int x), a3] (.int x :: st) σ Q := Ev_step rfl
theorem s_M_laidBy_13 : Ev sh 204 13 [some (.ref i), a1, a2, a3] st σ Q = Ev sh 204 14 [some (.ref i), a1, a2, a3] (.ref i :: st) σ Q := Ev_step rfl
theorem s_M_laidBy_14 (h : sh i = 9) : Ev sh 204 14 [a0, a1, a2, a3] (.ref i :: st) σ Q = Ev sh 204 17 [a0, a1, a2, a3] (.ref 4 :: st) σ Q := Ev_h h rfl
theorem s_M_laidBy_17 : Ev sh 204 17 [a0, a1, a2, some (.int x)] st σ Q = Ev sh 204 18 [a0, a1, a2, some (.int x)] (.int x :: st) σ Q := Ev_step rfl
theorem s_M_laidBy_18 (h : zin x (sh i) = true) : Ev sh 204 18 [a0, a1, a2, a3] (.int x :: .ref i :: st) σ Q = Ev sh 204 19 [a0, a1, a2, a3] (.int (σ i x.toNatClampNeg) :: st) σ Q := Ev_h h rfl
theorem s_M_laidBy_19 : Ev sh 204 19 [a0, some (.int x), a2, a3] st σ Q = Ev sh 204 20 [a0, some (.int x), a2, a3] (.int x :: st) σ Q := Ev_step rfl
theorem s_M_laidBy_20 : Ev sh 204 20 [a0, a1, a2, a3] (.int y :: .int x :: st) σ Q = if x ≠ y then Ev sh 204 27 [a0, a1, a2, a3] st σ Q else Ev sh 204 23 [a0, a1, a2, a3] st σ Q := Ev_if rfl
theorem s_M_laidBy_23 : Ev sh 204 23 [a0, a1, a2, a3] st σ Q = Ev sh 204 24 [a0, a1, a2, a3] (.int 1 :: st) σ Q := Ev_step rfl
theorem s_M_laidBy_24 : Ev sh 204 24 [a0, a1, a2, a3] st σ Q = Ev sh 204 28 [a0, a1, a2, a3] st σ Q := Ev_step rfl
theorem s_M_laidBy_27 : Ev sh 204 27 [a0, a1, a2, a3] st σ Q = Ev sh 204 28 [a0, a1, a2, a3] (.int 0 :: st) σ Q := Ev_step rfl
theorem s_M_laidBy_28 : Ev sh 204 28 [a0, a1, a2, a3] (.int y :: .int x :: st) σ Q = Ev sh 204 29 [a0, a1, a2, a3] (.int (x + y) :: st) σ Q := Ev_step rfl
theorem s_M_laidBy_29 : Ev sh 204 29 [a0, a1, a2, a3] (.int x :: st) σ Q = Ev sh 204 30 [a0, zdrop2 a1, some (.int x), a3] st σ Q := Ev_step rfl
theorem s_M_laidBy_30 : Ev sh 204 30 [a0, a1, a2, some (.int x)] st σ Q = Ev sh 204 33 [a0, a1, a2, some (.int (x + 1))] st σ Q := Ev_step rfl
theorem s_M_laidBy_33 : Ev sh 204 33 [a0, a1, a2, a3] st σ Q = Ev sh 204 4 [a0, a1, a2, a3] st σ Q := Ev_step rfl
theorem s_M_laidBy_36 : Ev sh 204 36 [a0, a1, some (.int x), a3] st σ Q = Ev sh 204 37 [a0, a1, some (.int x), a3] (.int x :: st) σ Q := Ev_step rfl
theorem s_M_laidBy_37 : Ev sh 204 37 [a0, a1, a2, a3] [.int x] σ Q = Q (some (.int x)) σ := Ev_ret rfl
theorem s_M_stone_0 : Ev sh 205 0 [some (.ref i), a1, a2] st σ Q = Ev sh 205 1 [some (.ref i), a1, a2] (.ref i :: st) σ Q := Ev_step rfl
theorem s_M_stone_1 : Ev sh 205 1 [a0, some (.int x), a2] st σ Q = Ev sh 205 2 [a0, some (.int x), a2] (.int x :: st) σ Q := Ev_step rfl
theorem s_M_stone_2 (h : sh i0 = 9) : Ev sh 205 2 [a0, a1, a2] [.int x1, .ref i0] σ Q = Ev sh 168 0 [some (.ref i0), some (.int x1)] [] σ (fun r s => Ev sh 205 5 [a0, a1, a2] (zpush r []) s Q) := Ev_callh (zrecv_of (by decide) h) rfl
theorem s_M_stone_5 : Ev sh 205 5 [a0, a1, a2] (.int x :: st) σ Q = if x ≠ 0 then Ev sh 205 14 [a0, a1, a2] st σ Q else Ev sh 205 8 [a0, a1, a2] st σ Q := Ev_if rfl
theorem s_M_stone_8 : Ev sh 205 8 [some (.ref i), a1, a2] st σ Q = Ev sh 205 9 [some (.ref i), a1, a2] (.ref i :: st) σ Q := Ev_step rfl
theorem s_M_stone_9 : Ev sh 205 9 [a0, a1, a2] st σ Q = Ev sh 205 10 [a0, a1, a2] (.int (-1) :: st) σ Q := Ev_step rfl
theorem s_M_stone_10 (h : sh i0 = 9) : Ev sh 205 10 [a0, a1, a2] [.int x1, .ref i0] σ Q = Ev sh 161 0 [some (.ref i0), some (.int x1)] [] σ (fun r s => Ev sh 205 13 [a0, a1, a2] (zpush r []) s Q) := Ev_callh (zrecv_of (by decide) h) rfl
theorem s_M_stone_13 : Ev sh 205 13 [a0, a1, a2] [.int x] σ Q = Q (some (.int x)) σ := Ev_ret rfl
theorem s_M_stone_14 : Ev sh 205 14 [a0, a1, some (.int x)] st σ Q = Ev sh 205 15 [a0, a1, some (.int x)] (.int x :: st) σ Q := Ev_step rfl
theorem s_M_stone_15 : Ev sh 205 15 [a0, a1, a2] (.int x :: st) σ Q = if x = 0 then Ev sh 205 52 [a0, a1, a2] st σ Q else if x = 1 then Ev sh 205 59 [a0, a1, a2] st σ Q else if x = 2 then Ev sh 205 66 [a0, a1, a2] st σ Q else if x = 3 then Ev sh 205 73 [a0, a1, a2] st σ Q else if x = 4 then Ev sh 205 79 [a0, a1, a2] st σ Q else if x = 5 then Ev sh 205 85 [a0, a1, a2] st σ Q else Ev sh 205 91 [a0, a1, a2] st σ Q := (Ev_step (pc' := zsw x 91 [(0, 52), (1, 59), (2, 66), (3, 73), (4, 79), (5, 85)]) rfl).trans (by rw [Ev_swc, Ev_swc, Ev_swc, Ev_swc, Ev_swc, Ev_swc]; rfl)
theorem s_M_stone_52 : Ev sh 205 52 [some (.ref i), a1, a2] st σ Q = Ev sh 205 53 [some (.ref i), a1, a2] (.ref i :: st) σ Q := Ev_step rfl
theorem s_M_stone_53 (h : sh i = 9) : Ev sh 205 53 [a0, a1, a2] (.ref i :: st) σ Q = Ev sh 205 56 [a0, a1, a2] (.ref 2 :: st) σ Q := Ev_h h rfl
theorem s_M_stone_56 : Ev sh 205 56 [a0, some (.int x), a2] st σ Q = Ev sh 205 57 [a0, some (.int x), a2] (.int x :: st) σ Q := Ev_step rfl
theorem s_M_stone_57 (h : zin x (sh i) = true) : Ev sh 205 57 [a0, a1, a2] (.int x :: .ref i :: st) σ Q = Ev sh 205 58 [a0, a1, a2] (.int (σ i x.toNatClampNeg) :: st) σ Q := Ev_h h rfl
theorem s_M_stone_58 : Ev sh 205 58 [a0, a1, a2] [.int x] σ Q = Q (some (.int x)) σ := Ev_ret rfl
theorem s_M_stone_59 : Ev sh 205 59 [some (.ref i), a1, a2] st σ Q = Ev sh 205 60 [some (.ref i), a1, a2] (.ref i :: st) σ Q := Ev_step rfl
theorem s_M_stone_60 (h : sh i = 9) : Ev sh 205 60 [a0, a1, a2] (.ref i :: st) σ Q = Ev sh 205 63 [a0, a1, a2] (.ref 3 :: st) σ Q := Ev_h h rfl
theorem s_M_stone_63 : Ev sh 205 63 [a0, some (.int x), a2] st σ Q = Ev sh 205 64 [a0, some (.int x), a2] (.int x :: st) σ Q := Ev_step rfl
theorem s_M_stone_64 (h : zin x (sh i) = true) : Ev sh 205 64 [a0, a1, a2] (.int x :: .ref i :: st) σ Q = Ev sh 205 65 [a0, a1, a2] (.int (σ i x.toNatClampNeg) :: st) σ Q := Ev_h h rfl
theorem s_M_stone_65 : Ev sh 205 65 [a0, a1, a2] [.int x] σ Q = Q (some (.int x)) σ := Ev_ret rfl
theorem s_M_stone_66 : Ev sh 205 66 [some (.ref i), a1, a2] st σ Q = Ev sh 205 67 [some (.ref i), a1, a2] (.ref i :: st) σ Q := Ev_step rfl
theorem s_M_stone_67 (h : sh i = 9) : Ev sh 205 67 [a0, a1, a2] (.ref i :: st) σ Q = Ev sh 205 70 [a0, a1, a2] (.ref 4 :: st) σ Q := Ev_h h rfl
theorem s_M_stone_70 : Ev sh 205 70 [a0, some (.int x), a2] st σ Q = Ev sh 205 71 [a0, some (.int x), a2] (.int x :: st) σ Q := Ev_step rfl
theorem s_M_stone_71 (h : zin x (sh i) = true) : Ev sh 205 71 [a0, a1, a2] (.int x :: .ref i :: st) σ Q = Ev sh 205 72 [a0, a1, a2] (.int (σ i x.toNatClampNeg) :: st) σ Q := Ev_h h rfl
theorem s_M_stone_72 : Ev sh 205 72 [a0, a1, a2] [.int x] σ Q = Q (some (.int x)) σ := Ev_ret rfl
theorem s_M_stone_73 : Ev sh 205 73 [some (.ref i), a1, a2] st σ Q = Ev sh 205 74 [some (.ref i), a1, a2] (.ref i :: st) σ Q := Ev_step rfl
theorem s_M_stone_74 : Ev sh 205 74 [a0, some (.int x), a2] st σ Q = Ev sh 205 75 [a0, some (.int x), a2] (.int x :: st) σ Q := Ev_step rfl
theorem s_M_stone_75 (h : sh i0 = 9) : Ev sh 205 75 [a0, a1, a2] [.int x1, .ref i0] σ Q = Ev sh 190 0 [some (.ref i0), some (.int x1), none] [] σ (fun r s => Ev sh 205 78 [a0, a1, a2] (zpush r []) s Q) := Ev_callh (zrecv_of (by decide) h) rfl
theorem s_M_stone_78 : Ev sh 205 78 [a0, a1, a2] [.int x] σ Q = Q (some (.int x)) σ := Ev_ret rfl
theorem s_M_stone_79 : Ev sh 205 79 [some (.ref i), a1, a2] st σ Q = Ev sh 205 80 [some (.ref i), a1, a2] (.ref i :: st) σ Q := Ev_step rfl
theorem s_M_stone_80 : Ev sh 205 80 [a0, some (.int x), a2] st σ Q = Ev sh 205 81 [a0, some (.int x), a2] (.int x :: st) σ Q := Ev_step rfl
theorem s_M_stone_81 (h : sh i0 = 9) : Ev sh 205 81 [a0, a1, a2] [.int x1, .ref i0] σ Q = Ev sh 191 0 [some (.ref i0), some (.int x1), none] [] σ (fun r s => Ev sh 205 84 [a0, a1, a2] (zpush r []) s Q) := Ev_callh (zrecv_of (by decide) h) rfl
theorem s_M_stone_84 : Ev sh 205 84 [a0, a1, a2] [.int x] σ Q = Q (some (.int x)) σ := Ev_ret rfl
theorem s_M_stone_85 : Ev sh 205 85 [some (.ref i), a1, a2] st σ Q = Ev sh 205 86 [some (.ref i), a1, a2] (.ref i :: st) σ Q := Ev_step rfl
theorem s_M_stone_86 : Ev sh 205 86 [a0, some (.int x), a2] st σ Q = Ev sh 205 87 [a0, some (.int x), a2] (.int x :: st) σ Q := Ev_step rfl
theorem s_M_stone_87 (h : sh i0 = 9) : Ev sh 205 87 [a0, a1, a2] [.int x1, .ref i0] σ Q = Ev sh 192 0 [some (.ref i0), some (.int x1), none, none] [] σ (fun r s => Ev sh 205 90 [a0, a1, a2] (zpush r []) s Q) := Ev_callh (zrecv_of (by decide) h) rfl
theorem s_M_stone_90 : Ev sh 205 90 [a0, a1, a2] [.int x] σ Q = Q (some (.int x)) σ := Ev_ret rfl
theorem s_M_stone_91 : Ev sh 205 91 [some (.ref i), a1, a2] st σ Q = Ev sh 205 92 [some (.ref i), a1, a2] (.ref i :: st) σ Q := Ev_step rfl
theorem s_M_stone_92 : Ev sh 205 92 [a0, a1, a2] st σ Q = Ev sh 205 94 [a0, a1, a2] (.int (-2) :: st) σ Q := Ev_step rfl
theorem s_M_stone_94 (h : sh i0 = 9) : Ev sh 205 94 [a0, a1, a2] [.int x1, .ref i0] σ Q = Ev sh 161 0 [some (.ref i0), some (.int x1)] [] σ (fun r s => Ev sh 205 97 [a0, a1, a2] (zpush r []) s Q) := Ev_callh (zrecv_of (by decide) h) rfl
theorem s_M_stone_97 : Ev sh 205 97 [a0, a1, a2] [.int x] σ Q = Q (some (.int x)) σ := Ev_ret rfl
theorem s_M_joint_0 : Ev sh 206 0 [a0, some (.int x), a2, a3] st σ Q = Ev sh 206 1 [a0, some (.int x), a2, a3] (.int x :: st) σ Q := Ev_step rfl
theorem s_M_joint_1 : Ev sh 206 1 [a0, a1, a2, a3] (.int x :: st) σ Q = if x < 0 then Ev sh 206 14 [a0, a1, a2, a3] st σ Q else Ev sh 206 4 [a0, a1, a2, a3] st σ Q := Ev_if rfl
theorem s_M_joint_4 : Ev sh 206 4 [a0, some (.int x), a2, a3] st σ Q = Ev sh 206 5 [a0, some (.int x), a2, a3] (.int x :: st) σ Q := Ev_step rfl
theorem s_M_joint_5 : Ev sh 206 5 [some (.ref i), a1, a2, a3] st σ Q = Ev sh 206 6 [some (.ref i), a1, a2, a3] (.ref i :: st) σ Q := Ev_step rfl
theorem s_M_joint_6 (h : sh i = 9) : Ev sh 206 6 [a0, a1, a2, a3] (.ref i :: st) σ Q = Ev sh 206 9 [a0, a1, a2, a3] (.int (σ i 7) :: st) σ Q := Ev_h h rfl
theorem s_M_joint_9 : Ev sh 206 9 [a0, a1, a2, a3] st σ Q = Ev sh 206 10 [a0, a1, a2, a3] (.int 1 :: st) σ Q := Ev_step rfl
theorem s_M_joint_10 : Ev sh 206 10 [a0, a1, a2, a3] (.int y :: .int x :: st) σ Q = Ev sh 206 11 [a0, a1, a2, a3] (.int (x - y) :: st) σ Q := Ev_step rfl
theorem s_M_joint_11 : Ev sh 206 11 [a0, a1, a2, a3] (.int y :: .int x :: st) σ Q = if x < y then Ev sh 206 18 [a0, a1, a2, a3] st σ Q else Ev sh 206 14 [a0, a1, a2, a3] st σ Q := Ev_if rfl
theorem s_M_joint_14 : Ev sh 206 14 [a0, a1, a2, a3] st σ Q = Ev sh 206 15 [a0, a1, a2, a3] (.int (-1) :: st) σ Q := Ev_step rfl
theorem s_M_joint_15 : Ev sh 206 15 [a0, a1, a2, a3] st σ Q = Ev sh 206 33 [a0, a1, a2, a3] st σ Q := Ev_step rfl
theorem s_M_joint_18 : Ev sh 206 18 [a0, a1, some (.int x), a3] st σ Q = Ev sh 206 19 [a0, a1, some (.int x), a3] (.int x :: st) σ Q := Ev_step rfl
theorem s_M_joint_19 : Ev sh 206 19 [a0, a1, a2, a3] st σ Q = Ev sh 206 20 [a0, a1, a2, a3] (.int 0 :: st) σ Q := Ev_step rfl
theorem s_M_joint_20 : Ev sh 206 20 [a0, a1, a2, a3] st σ Q = Ev sh 206 21 [a0, a1, a2, a3] (.int 1 :: st) σ Q := Ev_step rfl
theorem s_M_joint_21 : Ev sh 206 21 [a0, a1, a2, a3] [.int x2, .int x1, .int x0] σ Q = Ev sh 163 0 [some (.int x0), some (.int x1), some (.int x2)] [] σ (fun r s => Ev sh 206 24 [a0, a1, a2, a3] (zpush r []) s Q) := Ev_call rfl
theorem s_M_joint_24 : Ev sh 206 24 [a0, a1, a2, a3] (.int x :: st) σ Q = if x ≠ 0 then Ev sh 206 32 [a0, a1, a2, a3] st σ Q else Ev sh 206 27 [a0, a1, a2, a3] st σ Q := Ev_if rfl
theorem s_M_joint_27 : Ev sh 206 27 [a0, a1, a2, a3] st σ Q = Ev sh 206 29 [a0, a1, a2, a3] (.int (-2) :: st) σ Q := Ev_step rfl
theorem s_M_joint_29 : Ev sh 206 29 [a0, a1, a2, a3] st σ Q = Ev sh 206 33 [a0, a1, a2, a3] st σ Q := Ev_step rfl
theorem s_M_joint_32 : Ev sh 206 32 [a0, a1, a2, a3] st σ Q = Ev sh 206 33 [a0, a1, a2, a3] (.int 0 :: st) σ Q := Ev_step rfl
theorem s_M_joint_33 : Ev sh 206 33 [a0, a1, a2, a3] (.int x :: st) σ Q = Ev sh 206 34 [a0, a1, zdrop2 a2, some (.int x)] st σ Q := Ev_step rfl
theorem s_M_joint_34 : Ev sh 206 34 [a0, a1, a2, some (.int x)] st σ Q = Ev sh 206 35 [a0, a1, a2, some (.int x)] (.int x :: st) σ Q := Ev_step rfl
theorem s_M_joint_35 : Ev sh 206 35 [a0, a1, a2, a3] (.int x :: st) σ Q = if x = 0 then Ev sh 206 44 [a0, a1, a2, a3] st σ Q else Ev sh 206 38 [a0, a1, a2, a3] st σ Q := Ev_if rfl
theorem s_M_joint_38 : Ev sh 206 38 [some (.ref i), a1, a2, a3] st σ Q = Ev sh 206 39 [some (.ref i), a1, a2, a3] (.ref i :: st) σ Q := Ev_step rfl
theorem s_M_joint_39 : Ev sh 206 39 [a0, a1, a2, some (.int x)] st σ Q = Ev sh 206 40 [a0, a1, a2, some (.int x)] (.int x :: st) σ Q := Ev_step rfl
theorem s_M_joint_40 (h : sh i0 = 9) : Ev sh 206 40 [a0, a1, a2, a3] [.int x1, .ref i0] σ Q = Ev sh 160 0 [some (.ref i0), some (.int x1)] [] σ (fun r s => Ev sh 206 43 [a0, a1, a2, a3] (zpush r []) s Q) := Ev_callh (zrecv_of (by decide) h) rfl
theorem s_M_joint_43 : Ev sh 206 43 [a0, a1, a2, a3] [.int x] σ Q = Q (some (.int x)) σ := Ev_ret rfl
theorem s_M_joint_44 : Ev sh 206 44 [a0, a1, some (.int x), a3] st σ Q = Ev sh 206 45 [a0, a1, some (.int x), a3] (.int x :: st) σ Q := Ev_step rfl
theorem s_M_joint_45 : Ev sh 206 45 [a0, a1, a2, a3] (.int x :: st) σ Q = if x ≠ 0 then Ev sh 206 56 [a0, a1, a2, a3] st σ Q else Ev sh 206 48 [a0, a1, a2, a3] st σ Q := Ev_if rfl
theorem s_M_joint_48 : Ev sh 206 48 [some (.ref i), a1, a2, a3] st σ Q = Ev sh 206 49 [some (.ref i), a1, a2, a3] (.ref i :: st) σ Q := Ev_step rfl
theorem s_M_joint_49 : Ev sh 206 49 [a0, some (.int x), a2, a3] st σ Q = Ev sh 206 50 [a0, some (.int x), a2, a3] (.int x :: st) σ Q := Ev_step rfl
theorem s_M_joint_50 (h : sh i0 = 9) : Ev sh 206 50 [a0, a1, a2, a3] [.int x1, .ref i0] σ Q = Ev sh 193 0 [some (.ref i0), some (.int x1), none] [] σ (fun r s => Ev sh 206 53 [a0, a1, a2, a3] (zpush r []) s Q) := Ev_callh (zrecv_of (by decide) h) rfl
theorem s_M_joint_53 : Ev sh 206 53 [a0, a1, a2, a3] st σ Q = Ev sh 206 61 [a0, a1, a2, a3] st σ Q := Ev_step rfl
theorem s_M_joint_56 : Ev sh 206 56 [some (.ref i), a1, a2, a3] st σ Q = Ev sh 206 57 [some (.ref i), a1, a2, a3] (.ref i :: st) σ Q := Ev_step rfl
theorem s_M_joint_57 : Ev sh 206 57 [a0, some (.int x), a2, a3] st σ Q = Ev sh 206 58 [a0, some (.int x), a2, a3] (.int x :: st) σ Q := Ev_step rfl
theorem s_M_joint_58 (h : sh i0 = 9) : Ev sh 206 58 [a0, a1, a2, a3] [.int x1, .ref i0] σ Q = Ev sh 194 0 [some (.ref i0), some (.int x1)] [] σ (fun r s => Ev sh 206 61 [a0, a1, a2, a3] (zpush r []) s Q) := Ev_callh (zrecv_of (by decide) h) rfl
theorem s_M_joint_61 : Ev sh 206 61 [a0, a1, a2, a3] [.int x] σ Q = Q (some (.int x)) σ := Ev_ret rfl
theorem s_M_mason_0 : Ev sh 207 0 [a0, some (.int x), a2] st σ Q = Ev sh 207 1 [a0, some (.int x), a2] (.int x :: st) σ Q := Ev_step rfl
theorem s_M_mason_1 : Ev sh 207 1 [a0, a1, a2] [.int x0] σ Q = Ev sh 169 0 [some (.int x0)] [] σ (fun r s => Ev sh 207 4 [a0, a1, a2] (zpush r []) s Q) := Ev_call rfl
theorem s_M_mason_4 : Ev sh 207 4 [a0, a1, a2] (.int x :: st) σ Q = if x ≠ 0 then Ev sh 207 13 [a0, a1, a2] st σ Q else Ev sh 207 7 [a0, a1, a2] st σ Q := Ev_if rfl
theorem s_M_mason_7 : Ev sh 207 7 [some (.ref i), a1, a2] st σ Q = Ev sh 207 8 [some (.ref i), a1, a2] (.ref i :: st) σ Q := Ev_step rfl
theorem s_M_mason_8 : Ev sh 207 8 [a0, a1, a2] st σ Q = Ev sh 207 9 [a0, a1, a2] (.int (-1) :: st) σ Q := Ev_step rfl
theorem s_M_mason_9 (h : sh i0 = 9) : Ev sh 207 9 [a0, a1, a2] [.int x1, .ref i0] σ Q = Ev sh 160 0 [some (.ref i0), some (.int x1)] [] σ (fun r s => Ev sh 207 12 [a0, a1, a2] (zpush r []) s Q) := Ev_callh (zrecv_of (by decide) h) rfl
theorem s_M_mason_12 : Ev sh 207 12 [a0, a1, a2] [.int x] σ Q = Q (some (.int x)) σ := Ev_ret rfl
theorem s_M_mason_13 : Ev sh 207 13 [a0, a1, some (.int x)] st σ Q = Ev sh 207 14 [a0, a1, some (.int x)] (.int x :: st) σ Q := Ev_step rfl
theorem s_M_mason_14 : Ev sh 207 14 [a0, a1, a2] (.int x :: st) σ Q = if x = 0 then Ev sh 207 44 [a0, a1, a2] st σ Q else if x = 1 then Ev sh 207 51 [a0, a1, a2] st σ Q else if x = 2 then Ev sh 207 58 [a0, a1, a2] st σ Q else if x = 3 then Ev sh 207 65 [a0, a1, a2] st σ Q else Ev sh 207 71 [a0, a1, a2] st σ Q := (Ev_step (pc' := zsw x 71 [(0, 44), (1, 51), (2, 58), (3, 65)]) rfl).trans (by rw [Ev_swc, Ev_swc, Ev_swc, Ev_swc]; rfl)
theorem s_M_mason_44 : Ev sh 207 44 [some (.ref i), a1, a2] st σ Q = Ev sh 207 45 [some (.ref i), a1, a2] (.ref i :: st) σ Q := Ev_step rfl
theorem s_M_mason_45 (h : sh i = 9) : Ev sh 207 45 [a0, a1, a2] (.ref i :: st) σ Q = Ev sh 207 48 [a0, a1, a2] (.ref 5 :: st) σ Q := Ev_h h rfl
theorem s_M_mason_48 : Ev sh 207 48 [a0, some (.int x), a2] st σ Q = Ev sh 207 49 [a0, some (.int x), a2] (.int x :: st) σ Q := Ev_step rfl
theorem s_M_mason_49 (h : zin x (sh i) = true) : Ev sh 207 49 [a0, a1, a2] (.int x :: .ref i :: st) σ Q = Ev sh 207 50 [a0, a1, a2] (.int (σ i x.toNatClampNeg) :: st) σ Q := Ev_h h rfl
theorem s_M_mason_50 : Ev sh 207 50 [a0, a1, a2] [.int x] σ Q = Q (some (.int x)) σ := Ev_ret rfl
theorem s_M_mason_51 : Ev sh 207 51 [some (.ref i), a1, a2] st σ Q = Ev sh 207 52 [some (.ref i), a1, a2] (.ref i :: st) σ Q := Ev_step rfl
theorem s_M_mason_52 (h : sh i = 9) : Ev sh 207 52 [a0, a1, a2] (.ref i :: st) σ Q = Ev sh 207 55 [a0, a1, a2] (.ref 6 :: st) σ Q := Ev_h h rfl
theorem s_M_mason_55 : Ev sh 207 55 [a0, some (.int x), a2] st σ Q = Ev sh 207 56 [a0, some (.int x), a2] (.int x :: st) σ Q := Ev_step rfl
theorem s_M_mason_56 (h : zin x (sh i) = true) : Ev sh 207 56 [a0, a1, a2] (.int x :: .ref i :: st) σ Q = Ev sh 207 57 [a0, a1, a2] (.int (σ i x.toNatClampNeg) :: st) σ Q := Ev_h h rfl
theorem s_M_mason_57 : Ev sh 207 57 [a0, a1, a2] [.int x] σ Q = Q (some (.int x)) σ := Ev_ret rfl
theorem s_M_mason_58 : Ev sh 207 58 [some (.ref i), a1, a2] st σ Q = Ev sh 207 59 [some (.ref i), a1, a2] (.ref i :: st) σ Q := Ev_step rfl
theorem s_M_mason_59 (h : sh i = 9) : Ev sh 207 59 [a0, a1, a2] (.ref i :: st) σ Q = Ev sh 207 62 [a0, a1, a2] (.ref 7 :: st) σ Q := Ev_h h rfl
theorem s_M_mason_62 : Ev sh 207 62 [a0, some (.int x), a2] st σ Q = Ev sh 207 63 [a0, some (.int x), a2] (.int x :: st) σ Q := Ev_step rfl
theorem s_M_mason_63 (h : zin x (sh i) = true) : Ev sh 207 63 [a0, a1, a2] (.int x :: .ref i :: st) σ Q = Ev sh 207 64 [a0, a1, a2] (.int (σ i x.toNatClampNeg) :: st) σ Q := Ev_h h rfl
theorem s_M_mason_64 : Ev sh 207 64 [a0, a1, a2] [.int x] σ Q = Q (some (.int x)) σ := Ev_ret rfl
theorem s_M_mason_65 : Ev sh 207 65 [some (.ref i), a1, a2] st σ Q = Ev sh 207 66 [some (.ref i), a1, a2] (.ref i :: st) σ Q := Ev_step rfl
theorem s_M_mason_66 : Ev sh 207 66 [a0, some (.int x), a2] st σ Q = Ev sh 207 67 [a0, some (.int x), a2] (.int x :: st) σ Q := Ev_step rfl
theorem s_M_mason_67 (h : sh i0 = 9) : Ev sh 207 67 [a0, a1, a2] [.int x1, .ref i0] σ Q = Ev sh 204 0 [some (.ref i0), some (.int x1), none, none] [] σ (fun r s => Ev sh 207 70 [a0, a1, a2] (zpush r []) s Q) := Ev_callh (zrecv_of (by decide) h) rfl
theorem s_M_mason_70 : Ev sh 207 70 [a0, a1, a2] [.int x] σ Q = Q (some (.int x)) σ := Ev_ret rfl
theorem s_M_mason_71 : Ev sh 207 71 [some (.ref i), a1, a2] st σ Q = Ev sh 207 72 [some (.ref i), a1, a2] (.ref i :: st) σ Q := Ev_step rfl
theorem s_M_mason_72 : Ev sh 207 72 [a0, a1, a2] st σ Q = Ev sh 207 74 [a0, a1, a2] (.int (-2) :: st) σ Q := Ev_step rfl
theorem s_M_mason_74 (h : sh i0 = 9) : Ev sh 207 74 [a0, a1, a2] [.int x1, .ref i0] σ Q = Ev sh 160 0 [some (.ref i0), some (.int x1)] [] σ (fun r s => Ev sh 207 77 [a0, a1, a2] (zpush r []) s Q) := Ev_callh (zrecv_of (by decide) h) rfl
theorem s_M_mason_77 : Ev sh 207 77 [a0, a1, a2] [.int x] σ Q = Q (some (.int x)) σ := Ev_ret rfl
theorem s_M_lays_0 : Ev sh 208 0 [a0, some (.int x), a2, a3, a4] st σ Q = Ev sh 208 1 [a0, some (.int x), a2, a3, a4] (.int x :: st) σ Q := Ev_step rfl
theorem s_M_lays_1 : Ev sh 208 1 [a0, a1, a2, a3, a4] st σ Q = Ev sh 208 2 [a0, a1, a2, a3, a4] (.int 0 :: st) σ Q := Ev_step rfl
theorem s_M_lays_2 : Ev sh 208 2 [a0, a1, a2, a3, a4] st σ Q = Ev sh 208 3 [a0, a1, a2, a3, a4] (.int 5 :: st) σ Q := Ev_step rfl
theorem s_M_lays_3 : Ev sh 208 3 [a0, a1, a2, a3, a4] [.int x2, .int x1, .int x0] σ Q = Ev sh 163 0 [some (.int x0), some (.int x1), some (.int x2)] [] σ (fun r s => Ev sh 208 6 [a0, a1, a2, a3, a4] (zpush r []) s Q) := Ev_call rfl
theorem s_M_lays_6 : Ev sh 208 6 [a0, a1, a2, a3, a4] (.int x :: st) σ Q = if x ≠ 0 then Ev sh 208 14 [a0, a1, a2, a3, a4] st σ Q else Ev sh 208 9 [a0, a1, a2, a3, a4] st σ Q := Ev_if rfl
theorem s_M_lays_9 : Ev sh 208 9 [a0, a1, a2, a3, a4] st σ Q = Ev sh 208 11 [a0, a1, a2, a3, a4] (.int (-2) :: st) σ Q := Ev_step rfl
theorem s_M_lays_11 : Ev sh 208 11 [a0, a1, a2, a3, a4] st σ Q = Ev sh 208 21 [a0, a1, a2, a3, a4] st σ Q := Ev_step rfl
theorem s_M_lays_14 : Ev sh 208 14 [a0, a1, some (.int x), a3, a4] st σ Q = Ev sh 208 15 [a0, a1, some (.int x), a3, a4] (.int x :: st) σ Q := Ev_step rfl
theorem s_M_lays_15 : Ev sh 208 15 [a0, a1, a2, a3, a4] st σ Q = Ev sh 208 16 [a0, a1, a2, a3, a4] (.int 0 :: st) σ Q := Ev_step rfl
theorem s_M_lays_16 : Ev sh 208 16 [a0, a1, a2, a3, a4] st σ Q = Ev sh 208 18 [a0, a1, a2, a3, a4] (.int 9 :: st) σ Q := Ev_step rfl
theorem s_M_lays_18 : Ev sh 208 18 [a0, a1, a2, a3, a4] [.int x2, .int x1, .int x0] σ Q = Ev sh 164 0 [some (.int x0), some (.int x1), some (.int x2)] [] σ (fun r s => Ev sh 208 21 [a0, a1, a2, a3, a4] (zpush r []) s Q) := Ev_call rfl
theorem s_M_lays_21 : Ev sh 208 21 [a0, a1, a2, a3, a4] (.int x :: st) σ Q = Ev sh 208 23 [a0, a1, a2, zdrop2 a3, some (.int x)] st σ Q := Ev_step rfl
theorem s_M_lays_23 : Ev sh 208 23 [a0, a1, a2, a3, some (.int x)] st σ Q = Ev sh 208 25 [a0, a1, a2, a3, some (.int x)] (.int x :: st) σ Q := Ev_step rfl
theorem s_M_lays_25 : Ev sh 208 25 [a0, a1, a2, a3, a4] (.int x :: st) σ Q = if x ≠ 0 then Ev sh 208 56 [a0, a1, a2, a3, a4] st σ Q else Ev sh 208 28 [a0, a1, a2, a3, a4] st σ Q := Ev_if rfl
theorem s_M_lays_28 : Ev sh 208 28 [a0, a1, a2, some (.int x), a4] st σ Q = Ev sh 208 29 [a0, a1, a2, some (.int x), a4] (.int x :: st) σ Q := Ev_step rfl
theorem s_M_lays_29 : Ev sh 208 29 [a0, a1, a2, a3, a4] [.int x0] σ Q = Ev sh 169 0 [some (.int x0)] [] σ (fun r s => Ev sh 208 32 [a0, a1, a2, a3, a4] (zpush r []) s Q) := Ev_call rfl
theorem s_M_lays_32 : Ev sh 208 32 [a0, a1, a2, a3, a4] (.int x :: st) σ Q = if x ≠ 0 then Ev sh 208 39 [a0, a1, a2, a3, a4] st σ Q else Ev sh 208 35 [a0, a1, a2, a3, a4] st σ Q := Ev_if rfl
theorem s_M_lays_35 : Ev sh 208 35 [a0, a1, a2, a3, a4] st σ Q = Ev sh 208 36 [a0, a1, a2, a3, a4] (.int (-1) :: st) σ Q := Ev_step rfl
theorem s_M_lays_36 : Ev sh 208 36 [a0, a1, a2, a3, a4] st σ Q = Ev sh 208 54 [a0, a1, a2, a3, a4] st σ Q := Ev_step rfl
theorem s_M_lays_39 : Ev sh 208 39 [some (.ref i), a1, a2, a3, a4] st σ Q = Ev sh 208 40 [some (.ref i), a1, a2, a3, a4] (.ref i :: st) σ Q := Ev_step rfl
theorem s_M_lays_40 (h : sh i = 9) : Ev sh 208 40 [a0, a1, a2, a3, a4] (.ref i :: st) σ Q = Ev sh 208 43 [a0, a1, a2, a3, a4] (.int (σ i 7) :: st) σ Q := Ev_h h rfl
theorem s_M_lays_43 : Ev sh 208 43 [a0, a1, a2, a3, a4] st σ Q = Ev sh 208 45 [a0, a1, a2, a3, a4] (.int 12 :: st) σ Q := Ev_step rfl
theorem s_M_lays_45 : Ev sh 208 45 [a0, a1, a2, a3, a4] (.int y :: .int x :: st) σ Q = if x ≠ y then Ev sh 208 53 [a0, a1, a2, a3, a4] st σ Q else Ev sh 208 48 [a0, a1, a2, a3, a4] st σ Q := Ev_if rfl
theorem s_M_lays_48 : Ev sh 208 48 [a0, a1, a2, a3, a4] st σ Q = Ev sh 208 50 [a0, a1, a2, a3, a4] (.int (-6) :: st) σ Q := Ev_step rfl
theorem s_M_lays_50 : Ev sh 208 50 [a0, a1, a2, a3, a4] st σ Q = Ev sh 208 54 [a0, a1, a2, a3, a4] st σ Q := Ev_step rfl
theorem s_M_lays_53 : Ev sh 208 53 [a0, a1, a2, a3, a4] st σ Q = Ev sh 208 54 [a0, a1, a2, a3, a4] (.int 0 :: st) σ Q := Ev_step rfl
theorem s_M_lays_54 : Ev sh 208 54 [a0, a1, a2, a3, a4] (.int x :: st) σ Q = Ev sh 208 56 [a0, a1, a2, zdrop2 a3, some (.int x)] st σ Q := Ev_step rfl
theorem s_M_lays_56 : Ev sh 208 56 [a0, a1, a2, a3, some (.int x)] st σ Q = Ev sh 208 58 [a0, a1, a2, a3, some (.int x)] (.int x :: st) σ Q := Ev_step rfl
theorem s_M_lays_58 : Ev sh 208 58 [a0, a1, a2, a3, a4] (.int x :: st) σ Q = if x = 0 then Ev sh 208 68 [a0, a1, a2, a3, a4] st σ Q else Ev sh 208 61 [a0, a1, a2, a3, a4] st σ Q := Ev_if rfl
theorem s_M_lays_61 : Ev sh 208 61 [some (.ref i), a1, a2, a3, a4] st σ Q = Ev sh 208 62 [some (.ref i), a1, a2, a3, a4] (.ref i :: st) σ Q := Ev_step rfl
theorem s_M_lays_62 : Ev sh 208 62 [a0, a1, a2, a3, some (.int x)] st σ Q = Ev sh 208 64 [a0, a1, a2, a3, some (.int x)] (.int x :: st) σ Q := Ev_step rfl
theorem s_M_lays_64 (h : sh i0 = 9) : Ev sh 208 64 [a0, a1, a2, a3, a4] [.int x1, .ref i0] σ Q = Ev sh 160 0 [some (.ref i0), some (.int x1)] [] σ (fun r s => Ev sh 208 67 [a0, a1, a2, a3, a4] (zpush r []) s Q) := Ev_callh (zrecv_of (by decide) h) rfl
theorem s_M_lays_67 : Ev sh 208 67 [a0, a1, a2, a3, a4] [.int x] σ Q = Q (some (.int x)) σ := Ev_ret rfl
theorem s_M_lays_68 : Ev sh 208 68 [some (.ref i), a1, a2, a3, a4] st σ Q = Ev sh 208 69 [some (.ref i), a1, a2, a3, a4] (.ref i :: st) σ Q := Ev_step rfl
theorem s_M_lays_69 : Ev sh 208 69 [a0, some (.int x), a2, a3, a4] st σ Q = Ev sh 208 70 [a0, some (.int x), a2, a3, a4] (.int x :: st) σ Q := Ev_step rfl
theorem s_M_lays_70 : Ev sh 208 70 [a0, a1, some (.int x), a3, a4] st σ Q = Ev sh 208 71 [a0, a1, some (.int x), a3, a4] (.int x :: st) σ Q := Ev_step rfl
theorem s_M_lays_71 : Ev sh 208 71 [a0, a1, a2, some (.int x), a4] st σ Q = Ev sh 208 72 [a0, a1, a2, some (.int x), a4] (.int x :: st) σ Q := Ev_step rfl
theorem s_M_lays_72 (h : sh i0 = 9) : Ev sh 208 72 [a0, a1, a2, a3, a4] [.int x3, .int x2, .int x1, .ref i0] σ Q = Ev sh 188 0 [some (.ref i0), some (.int x1), some (.int x2), some (.int x3)] [] σ (fun r s => Ev sh 208 75 [a0, a1, a2, a3, a4] (zpush r []) s Q) := Ev_callh (zrecv_of (by decide) h) rfl
theorem s_M_lays_75 : Ev sh 208 75 [some (.ref i), a1, a2, a3, a4] st σ Q = Ev sh 208 76 [some (.ref i), a1, a2, a3, a4] (.ref i :: st) σ Q := Ev_step rfl
theorem s_M_lays_76 (h : sh i = 9) : Ev sh 208 76 [a0, a1, a2, a3, a4] (.ref i :: st) σ Q = Ev sh 208 79 [a0, a1, a2, a3, a4] (.int (σ i 7) :: st) σ Q := Ev_h h rfl
theorem s_M_lays_79 : Ev sh 208 79 [a0, a1, a2, a3, a4] st σ Q = Ev sh 208 80 [a0, a1, a2, a3, a4] (.int 1 :: st) σ Q := Ev_step rfl
theorem s_M_lays_80 : Ev sh 208 80 [a0, a1, a2, a3, a4] (.int y :: .int x :: st) σ Q = Ev sh 208 81 [a0, a1, a2, a3, a4] (.int (x - y) :: st) σ Q := Ev_step rfl
theorem s_M_lays_81 : Ev sh 208 81 [a0, a1, a2, a3, a4] [.int x] σ Q = Q (some (.int x)) σ := Ev_ret rfl
theorem s_M_corrects_0 : Ev sh 209 0 [some (.ref i), a1, a2, a3, a4, a5] st σ Q = Ev sh 209 1 [some (.ref i), a1, a2, a3, a4, a5] (.ref i :: st) σ Q := Ev_step rfl
theorem s_M_corrects_1 : Ev sh 209 1 [a0, some (.int x), a2, a3, a4, a5] st σ Q = Ev sh 209 2 [a0, some (.int x), a2, a3, a4, a5] (.int x :: st) σ Q := Ev_step rfl
theorem s_M_corrects_2 (h : sh i0 = 9) : Ev sh 209 2 [a0, a1, a2, a3, a4, a5] [.int x1, .ref i0] σ Q = Ev sh 168 0 [some (.ref i0), some (.int x1)] [] σ (fun r s => Ev sh 209 5 [a0, a1, a2, a3, a4, a5] (zpush r []) s Q) := Ev_callh (zrecv_of (by decide) h) rfl
theorem s_M_corrects_5 : Ev sh 209 5 [a0, a1, a2, a3, a4, a5] (.int x :: st) σ Q = if x ≠ 0 then Ev sh 209 12 [a0, a1, a2, a3, a4, a5] st σ Q else Ev sh 209 8 [a0, a1, a2, a3, a4, a5] st σ Q := Ev_if rfl
theorem s_M_corrects_8 : Ev sh 209 8 [a0, a1, a2, a3, a4, a5] st σ Q = Ev sh 209 9 [a0, a1, a2, a3, a4, a5] (.int (-1) :: st) σ Q := Ev_step rfl
theorem s_M_corrects_9 : Ev sh 209 9 [a0, a1, a2, a3, a4, a5] st σ Q = Ev sh 209 33 [a0, a1, a2, a3, a4, a5] st σ Q := Ev_step rfl
theorem s_M_corrects_12 : Ev sh 209 12 [a0, a1, some (.int x), a3, a4, a5] st σ Q = Ev sh 209 13 [a0, a1, some (.int x), a3, a4, a5] (.int x :: st) σ Q := Ev_step rfl
theorem s_M_corrects_13 : Ev sh 209 13 [a0, a1, a2, a3, a4, a5] st σ Q = Ev sh 209 14 [a0, a1, a2, a3, a4, a5] (.int 0 :: st) σ Q := Ev_step rfl
theorem s_M_corrects_14 : Ev sh 209 14 [a0, a1, a2, a3, a4, a5] st σ Q = Ev sh 209 15 [a0, a1, a2, a3, a4, a5] (.int 5 :: st) σ Q := Ev_step rfl
theorem s_M_corrects_15 : Ev sh 209 15 [a0, a1, a2, a3, a4, a5] [.int x2, .int x1, .int x0] σ Q = Ev sh 163 0 [some (.int x0), some (.int x1), some (.int x2)] [] σ (fun r s => Ev sh 209 18 [a0, a1, a2, a3, a4, a5] (zpush r []) s Q) := Ev_call rfl
theorem s_M_corrects_18 : Ev sh 209 18 [a0, a1, a2, a3, a4, a5] (.int x :: st) σ Q = if x ≠ 0 then Ev sh 209 26 [a0, a1, a2, a3, a4, a5] st σ Q else Ev sh 209 21 [a0, a1, a2, a3, a4, a5] st σ Q := Ev_if rfl
theorem s_M_corrects_21 : Ev sh 209 21 [a0, a1, a2, a3, a4, a5] st σ Q = Ev sh 209 23 [a0, a1, a2, a3, a4, a5] (.int (-2) :: st) σ Q := Ev_step rfl
theorem s_M_corrects_23 : Ev sh 209 23 [a0, a1, a2, a3, a4, a5] st σ Q = Ev sh 209 33 [a0, a1, a2, a3, a4, a5] st σ Q := Ev_step rfl
theorem s_M_corrects_26 : Ev sh 209 26 [a0, a1, a2, some (.int x), a4, a5] st σ Q = Ev sh 209 27 [a0, a1, a2, some (.int x), a4, a5] (.int x :: st) σ Q := Ev_step rfl
theorem s_M_corrects_27 : Ev sh 209 27 [a0, a1, a2, a3, a4, a5] st σ Q = Ev sh 209 28 [a0, a1, a2, a3, a4, a5] (.int 0 :: st) σ Q := Ev_step rfl
theorem s_M_corrects_28 : Ev sh 209 28 [a0, a1, a2, a3, a4, a5] st σ Q = Ev sh 209 30 [a0, a1, a2, a3, a4, a5] (.int 9 :: st) σ Q := Ev_step rfl
theorem s_M_corrects_30 : Ev sh 209 30 [a0, a1, a2, a3, a4, a5] [.int x2, .int x1, .int x0] σ Q = Ev sh 164 0 [some (.int x0), some (.int x1), some (.int x2)] [] σ (fun r s => Ev sh 209 33 [a0, a1, a2, a3, a4, a5] (zpush r []) s Q) := Ev_call rfl
theorem s_M_corrects_33 : Ev sh 209 33 [a0, a1, a2, a3, a4, a5] (.int x :: st) σ Q = Ev sh 209 35 [a0, a1, a2, zdrop2 a3, some (.int x), a5] st σ Q := Ev_step rfl
theorem s_M_corrects_35 : Ev sh 209 35 [a0, a1, a2, a3, some (.int x), a5] st σ Q = Ev sh 209 37 [a0, a1, a2, a3, some (.int x), a5] (.int x :: st) σ Q := Ev_step rfl
theorem s_M_corrects_37 : Ev sh 209 37 [a0, a1, a2, a3, a4, a5] (.int x :: st) σ Q = if x = 0 then Ev sh 209 47 [a0, a1, a2, a3, a4, a5] st σ Q else Ev sh 209 40 [a0, a1, a2, a3, a4, a5] st σ Q := Ev_if rfl
theorem s_M_corrects_40 : Ev sh 209 40 [some (.ref i), a1, a2, a3, a4, a5] st σ Q = Ev sh 209 41 [some (.ref i), a1, a2, a3, a4, a5] (.ref i :: st) σ Q := Ev_step rfl
theorem s_M_corrects_41 : Ev sh 209 41 [a0, a1, a2, a3, some (.int x), a5] st σ Q = Ev sh 209 43 [a0, a1, a2, a3, some (.int x), a5] (.int x :: st) σ Q := Ev_step rfl
theorem s_M_corrects_43 (h : sh i0 = 9) : Ev sh 209 43 [a0, a1, a2, a3, a4, a5] [.int x1, .ref i0] σ Q = Ev sh 160 0 [some (.ref i0), some (.int x1)] [] σ (fun r s => Ev sh 209 46 [a0, a1, a2, a3, a4, a5] (zpush r []) s Q) := Ev_callh (zrecv_of (by decide) h) rfl
theorem s_M_corrects_46 : Ev sh 209 46 [a0, a1, a2, a3, a4, a5] [.int x] σ Q = Q (some (.int x)) σ := Ev_ret rfl
theorem s_M_corrects_47 : Ev sh 209 47 [a0, a1, a2, a3, a4, a5] st σ Q = Ev sh 209 49 [a0, a1, a2, a3, a4, a5] (.int 10 :: st) σ Q := Ev_step rfl
theorem s_M_corrects_49 : Ev sh 209 49 [some (.ref i), a1, a2, a3, a4, a5] st σ Q = Ev sh 209 50 [some (.ref i), a1, a2, a3, a4, a5] (.ref i :: st) σ Q := Ev_step rfl
theorem s_M_corrects_50 (h : sh i = 9) : Ev sh 209 50 [a0, a1, a2, a3, a4, a5] (.ref i :: st) σ Q = Ev sh 209 53 [a0, a1, a2, a3, a4, a5] (.ref 2 :: st) σ Q := Ev_h h rfl
theorem s_M_corrects_53 : Ev sh 209 53 [a0, some (.int x), a2, a3, a4, a5] st σ Q = Ev sh 209 54 [a0, some (.int x), a2, a3, a4, a5] (.int x :: st) σ Q := Ev_step rfl
theorem s_M_corrects_54 (h : zin x (sh i) = true) : Ev sh 209 54 [a0, a1, a2, a3, a4, a5] (.int x :: .ref i :: st) σ Q = Ev sh 209 55 [a0, a1, a2, a3, a4, a5] (.int (σ i x.toNatClampNeg) :: st) σ Q := Ev_h h rfl
theorem s_M_corrects_55 : Ev sh 209 55 [a0, a1, a2, a3, a4, a5] (.int y :: .int x :: st) σ Q = Ev sh 209 56 [a0, a1, a2, a3, a4, a5] (.int (x * y) :: st) σ Q := Ev_step rfl
theorem s_M_corrects_56 : Ev sh 209 56 [some (.ref i), a1, a2, a3, a4, a5] st σ Q = Ev sh 209 57 [some (.ref i), a1, a2, a3, a4, a5] (.ref i :: st) σ Q := Ev_step rfl
theorem s_M_corrects_57 (h : sh i = 9) : Ev sh 209 57 [a0, a1, a2, a3, a4, a5] (.ref i :: st) σ Q = Ev sh 209 60 [a0, a1, a2, a3, a4, a5] (.ref 3 :: st) σ Q := Ev_h h rfl
theorem s_M_corrects_60 : Ev sh 209 60 [a0, some (.int x), a2, a3, a4, a5] st σ Q = Ev sh 209 61 [a0, some (.int x), a2, a3, a4, a5] (.int x :: st) σ Q := Ev_step rfl
theorem s_M_corrects_61 (h : zin x (sh i) = true) : Ev sh 209 61 [a0, a1, a2, a3, a4, a5] (.int x :: .ref i :: st) σ Q = Ev sh 209 62 [a0, a1, a2, a3, a4, a5] (.int (σ i x.toNatClampNeg) :: st) σ Q := Ev_h h rfl
theorem s_M_corrects_62 : Ev sh 209 62 [a0, a1, a2, a3, a4, a5] (.int y :: .int x :: st) σ Q = Ev sh 209 63 [a0, a1, a2, a3, a4, a5] (.int (x + y) :: st) σ Q := Ev_step rfl
theorem s_M_corrects_63 : Ev sh 209 63 [a0, a1, a2, a3, a4, a5] (.int x :: st) σ Q = Ev sh 209 65 [a0, a1, a2, a3, zdrop2 a4, some (.int x)] st σ Q := Ev_step rfl
theorem s_M_corrects_65 : Ev sh 209 65 [some (.ref i), a1, a2, a3, a4, a5] st σ Q = Ev sh 209 66 [some (.ref i), a1, a2, a3, a4, a5] (.ref i :: st) σ Q := Ev_step rfl
theorem s_M_corrects_66 : Ev sh 209 66 [a0, some (.int x), a2, a3, a4, a5] st σ Q = Ev sh 209 67 [a0, some (.int x), a2, a3, a4, a5] (.int x :: st) σ Q := Ev_step rfl
theorem s_M_corrects_67 : Ev sh 209 67 [a0, a1, some (.int x), a3, a4, a5] st σ Q = Ev sh 209 68 [a0, a1, some (.int x), a3, a4, a5] (.int x :: st) σ Q := Ev_step rfl
theorem s_M_corrects_68 : Ev sh 209 68 [a0, a1, a2, some (.int x), a4, a5] st σ Q = Ev sh 209 69 [a0, a1, a2, some (.int x), a4, a5] (.int x :: st) σ Q := Ev_step rfl
theorem s_M_corrects_69 (h : sh i0 = 9) : Ev sh 209 69 [a0, a1, a2, a3, a4, a5] [.int x3, .int x2, .int x1, .ref i0] σ Q = Ev sh 189 0 [some (.ref i0), some (.int x1), some (.int x2), some (.int x3)] [] σ (fun r s => Ev sh 209 72 [a0, a1, a2, a3, a4, a5] (zpush r []) s Q) := Ev_callh (zrecv_of (by decide) h) rfl
theorem s_M_corrects_72 : Ev sh 209 72 [a0, a1, a2, a3, a4, some (.int x)] st σ Q = Ev sh 209 74 [a0, a1, a2, a3, a4, some (.int x)] (.int x :: st) σ Q := Ev_step rfl
theorem s_M_corrects_74 : Ev sh 209 74 [a0, a1, a2, a3, a4, a5] [.int x] σ Q = Q (some (.int x)) σ := Ev_ret rfl
theorem s_M_takes_0 : Ev sh 210 0 [a0, some (.int x), a2] st σ Q = Ev sh 210 1 [a0, some (.int x), a2] (.int x :: st) σ Q := Ev_step rfl
theorem s_M_takes_1 : Ev sh 210 1 [a0, a1, a2] st σ Q = Ev sh 210 2 [a0, a1, a2] (.int 1 :: st) σ Q := Ev_step rfl
theorem s_M_takes_2 : Ev sh 210 2 [some (.ref i), a1, a2] st σ Q = Ev sh 210 3 [some (.ref i), a1, a2] (.ref i :: st) σ Q := Ev_step rfl
theorem s_M_takes_3 (h : sh i = 9) : Ev sh 210 3 [a0, a1, a2] (.ref i :: st) σ Q = Ev sh 210 6 [a0, a1, a2] (.int (σ i 7) :: st) σ Q := Ev_h h rfl
theorem s_M_takes_6 : Ev sh 210 6 [a0, a1, a2] [.int x2, .int x1, .int x0] σ Q = Ev sh 164 0 [some (.int x0), some (.int x1), some (.int x2)] [] σ (fun r s => Ev sh 210 9 [a0, a1, a2] (zpush r []) s Q) := Ev_call rfl
theorem s_M_takes_9 : Ev sh 210 9 [a0, a1, a2] (.int x :: st) σ Q = Ev sh 210 10 [a0, zdrop2 a1, some (.int x)] st σ Q := Ev_step rfl
theorem s_M_takes_10 : Ev sh 210 10 [a0, a1, some (.int x)] st σ Q = Ev sh 210 11 [a0, a1, some (.int x)] (.int x :: st) σ Q := Ev_step rfl
theorem s_M_takes_11 : Ev sh 210 11 [a0, a1, a2] (.int x :: st) σ Q = if x = 0 then Ev sh 210 20 [a0, a1, a2] st σ Q else Ev sh 210 14 [a0, a1, a2] st σ Q := Ev_if rfl
theorem s_M_takes_14 : Ev sh 210 14 [some (.ref i), a1, a2] st σ Q = Ev sh 210 15 [some (.ref i), a1, a2] (.ref i :: st) σ Q := Ev_step rfl
theorem s_M_takes_15 : Ev sh 210 15 [a0, a1, some (.int x)] st σ Q = Ev sh 210 16 [a0, a1, some (.int x)] (.int x :: st) σ Q := Ev_step rfl
theorem s_M_takes_16 (h : sh i0 = 9) : Ev sh 210 16 [a0, a1, a2] [.int x1, .ref i0] σ Q = Ev sh 160 0 [some (.ref i0), some (.int x1)] [] σ (fun r s => Ev sh 210 19 [a0, a1, a2] (zpush r []) s Q) := Ev_callh (zrecv_of (by decide) h) rfl
theorem s_M_takes_19 : Ev sh 210 19 [a0, a1, a2] [.int x] σ Q = Q (some (.int x)) σ := Ev_ret rfl
theorem s_M_takes_20 : Ev sh 210 20 [some (.ref i), a1, a2] st σ Q = Ev sh 210 21 [some (.ref i), a1, a2] (.ref i :: st) σ Q := Ev_step rfl
theorem s_M_takes_21 : Ev sh 210 21 [a0, a1, a2] (.ref i :: st) σ Q = Ev sh 210 22 [a0, a1, a2] (.ref i :: .ref i :: st) σ Q := Ev_step rfl
theorem s_M_takes_22 (h : sh i = 9) : Ev sh 210 22 [a0, a1, a2] (.ref i :: st) σ Q = Ev sh 210 25 [a0, a1, a2] (.int (σ i 7) :: st) σ Q := Ev_h h rfl
theorem s_M_takes_25 : Ev sh 210 25 [a0, some (.int x), a2] st σ Q = Ev sh 210 26 [a0, some (.int x), a2] (.int x :: st) σ Q := Ev_step rfl
theorem s_M_takes_26 : Ev sh 210 26 [a0, a1, a2] (.int y :: .int x :: st) σ Q = Ev sh 210 27 [a0, a1, a2] (.int (x - y) :: st) σ Q := Ev_step rfl
theorem s_M_takes_27 (h : sh i = 9) : Ev sh 210 27 [a0, a1, a2] (.int x :: .ref i :: st) σ Q = Ev sh 210 30 [a0, a1, a2] st (zup σ i 7 x) Q := Ev_h h rfl
theorem s_M_takes_30 : Ev sh 210 30 [some (.ref i), a1, a2] st σ Q = Ev sh 210 31 [some (.ref i), a1, a2] (.ref i :: st) σ Q := Ev_step rfl
theorem s_M_takes_31 (h : sh i = 9) : Ev sh 210 31 [a0, a1, a2] (.ref i :: st) σ Q = Ev sh 210 34 [a0, a1, a2] (.int (σ i 7) :: st) σ Q := Ev_h h rfl
theorem s_M_takes_34 : Ev sh 210 34 [a0, a1, a2] [.int x] σ Q = Q (some (.int x)) σ := Ev_ret rfl
theorem s_M_styles_0 : Ev sh 211 0 [a0, some (.int x), a2, a3, a4] st σ Q = Ev sh 211 1 [a0, some (.int x), a2, a3, a4] (.int x :: st) σ Q := Ev_step rfl
theorem s_M_styles_1 : Ev sh 211 1 [a0, a1, a2, a3, a4] [.int x0] σ Q = Ev sh 169 0 [some (.int x0)] [] σ (fun r s => Ev sh 211 4 [a0, a1, a2, a3, a4] (zpush r []) s Q) := Ev_call rfl
theorem s_M_styles_4 : Ev sh 211 4 [a0, a1, a2, a3, a4] (.int x :: st) σ Q = if x ≠ 0 then Ev sh 211 11 [a0, a1, a2, a3, a4] st σ Q else Ev sh 211 7 [a0, a1, a2, a3, a4] st σ Q := Ev_if rfl
theorem s_M_styles_7 : Ev sh 211 7 [a0, a1, a2, a3, a4] st σ Q = Ev sh 211 8 [a0, a1, a2, a3, a4] (.int (-1) :: st) σ Q := Ev_step rfl
theorem s_M_styles_8 : Ev sh 211 8 [a0, a1, a2, a3, a4] st σ Q = Ev sh 211 26 [a0, a1, a2, a3, a4] st σ Q := Ev_step rfl
theorem s_M_styles_11 : Ev sh 211 11 [a0, a1, some (.int x), a3, a4] st σ Q = Ev sh 211 12 [a0, a1, some (.int x), a3, a4] (.int x :: st) σ Q := Ev_step rfl
theorem s_M_styles_12 : Ev sh 211 12 [a0, a1, a2, a3, a4] st σ Q = Ev sh 211 13 [a0, a1, a2, a3, a4] (.int 0 :: st) σ Q := Ev_step rfl
theorem s_M_styles_13 : Ev sh 211 13 [a0, a1, a2, a3, a4] st σ Q = Ev sh 211 14 [a0, a1, a2, a3, a4] (.int 5 :: st) σ Q := Ev_step rfl
theorem s_M_styles_14 : Ev sh 211 14 [a0, a1, a2, a3, a4] [.int x2, .int x1, .int x0] σ Q = Ev sh 163 0 [some (.int x0), some (.int x1), some (.int x2)] [] σ (fun r s => Ev sh 211 17 [a0, a1, a2, a3, a4] (zpush r []) s Q) := Ev_call rfl
theorem s_M_styles_17 : Ev sh 211 17 [a0, a1, a2, a3, a4] (.int x :: st) σ Q = if x ≠ 0 then Ev sh 211 25 [a0, a1, a2, a3, a4] st σ Q else Ev sh 211 20 [a0, a1, a2, a3, a4] st σ Q := Ev_if rfl
theorem s_M_styles_20 : Ev sh 211 20 [a0, a1, a2, a3, a4] st σ Q = Ev sh 211 22 [a0, a1, a2, a3, a4] (.int (-2) :: st) σ Q := Ev_step rfl
theorem s_M_styles_22 : Ev sh 211 22 [a0, a1, a2, a3, a4] st σ Q = Ev sh 211 26 [a0, a1, a2, a3, a4] st σ Q := Ev_step rfl
theorem s_M_styles_25 : Ev sh 211 25 [a0, a1, a2, a3, a4] st σ Q = Ev sh 211 26 [a0, a1, a2, a3, a4] (.int 0 :: st) σ Q := Ev_step rfl
theorem s_M_styles_26 : Ev sh 211 26 [a0, a1, a2, a3, a4] (.int x :: st) σ Q = Ev sh 211 27 [a0, a1, zdrop2 a2, some (.int x), a4] st σ Q := Ev_step rfl
theorem s_M_styles_27 : Ev sh 211 27 [a0, a1, a2, some (.int x), a4] st σ Q = Ev sh 211 28 [a0, a1, a2, some (.int x), a4] (.int x :: st) σ Q := Ev_step rfl
theorem s_M_styles_28 : Ev sh 211 28 [a0, a1, a2, a3, a4] (.int x :: st) σ Q = if x = 0 then Ev sh 211 37 [a0, a1, a2, a3, a4] st σ Q else Ev sh 211 31 [a0, a1, a2, a3, a4] st σ Q := Ev_if rfl
theorem s_M_styles_31 : Ev sh 211 31 [some (.ref i), a1, a2, a3, a4] st σ Q = Ev sh 211 32 [some (.ref i), a1, a2, a3, a4] (.ref i :: st) σ Q := Ev_step rfl
theorem s_M_styles_32 : Ev sh 211 32 [a0, a1, a2, some (.int x), a4] st σ Q = Ev sh 211 33 [a0, a1, a2, some (.int x), a4] (.int x :: st) σ Q := Ev_step rfl
theorem s_M_styles_33 (h : sh i0 = 9) : Ev sh 211 33 [a0, a1, a2, a3, a4] [.int x1, .ref i0] σ Q = Ev sh 160 0 [some (.ref i0), some (.int x1)] [] σ (fun r s => Ev sh 211 36 [a0, a1, a2, a3, a4] (zpush r []) s Q) := Ev_callh (zrecv_of (by decide) h) rfl
theorem s_M_styles_36 : Ev sh 211 36 [a0, a1, a2, a3, a4] [.int x] σ Q = Q (some (.int x)) σ := Ev_ret rfl
theorem s_M_styles_37 : Ev sh 211 37 [some (.ref i), a1, a2, a3, a4] st σ Q = Ev sh 211 38 [some (.ref i), a1, a2, a3, a4] (.ref i :: st) σ Q := Ev_step rfl
theorem s_M_styles_38 (h : sh i = 9) : Ev sh 211 38 [a0, a1, a2, a3, a4] (.ref i :: st) σ Q = Ev sh 211 41 [a0, a1, a2, a3, a4] (.ref 5 :: st) σ Q := Ev_h h rfl
theorem s_M_styles_41 : Ev sh 211 41 [a0, some (.int x), a2, a3, a4] st σ Q = Ev sh 211 42 [a0, some (.int x), a2, a3, a4] (.int x :: st) σ Q := Ev_step rfl
theorem s_M_styles_42 (h : zin x (sh i) = true) : Ev sh 211 42 [a0, a1, a2, a3, a4] (.int x :: .ref i :: st) σ Q = Ev sh 211 43 [a0, a1, a2, a3, a4] (.int (σ i x.toNatClampNeg) :: st) σ Q := Ev_h h rfl
theorem s_M_styles_43 : Ev sh 211 43 [a0, a1, a2, a3, a4] (.int x :: st) σ Q = Ev sh 211 45 [a0, a1, a2, zdrop2 a3, some (.int x)] st σ Q := Ev_step rfl
theorem s_M_styles_45 : Ev sh 211 45 [some (.ref i), a1, a2, a3, a4] st σ Q = Ev sh 211 46 [some (.ref i), a1, a2, a3, a4] (.ref i :: st) σ Q := Ev_step rfl
theorem s_M_styles_46 (h : sh i = 9) : Ev sh 211 46 [a0, a1, a2, a3, a4] (.ref i :: st) σ Q = Ev sh 211 49 [a0, a1, a2, a3, a4] (.ref 5 :: st) σ Q := Ev_h h rfl
theorem s_M_styles_49 : Ev sh 211 49 [a0, some (.int x), a2, a3, a4] st σ Q = Ev sh 211 50 [a0, some (.int x), a2, a3, a4] (.int x :: st) σ Q := Ev_step rfl
theorem s_M_styles_50 : Ev sh 211 50 [a0, a1, some (.int x), a3, a4] st σ Q = Ev sh 211 51 [a0, a1, some (.int x), a3, a4] (.int x :: st) σ Q := Ev_step rfl
theorem s_M_styles_51 (h : zin x (sh i) = true) : Ev sh 211 51 [a0, a1, a2, a3, a4] (.int y :: .int x :: .ref i :: st) σ Q = Ev sh 211 52 [a0, a1, a2, a3, a4] st (zup σ i x.toNatClampNeg y) Q := Ev_h h rfl
theorem s_M_styles_52 : Ev sh 211 52 [a0, a1, a2, a3, some (.int x)] st σ Q = Ev sh 211 54 [a0, a1, a2, a3, some (.int x)] (.int x :: st) σ Q := Ev_step rfl
theorem s_M_styles_54 : Ev sh 211 54 [a0, a1, a2, a3, a4] [.int x] σ Q = Q (some (.int x)) σ := Ev_ret rfl
theorem s_M_hands_0 : Ev sh 212 0 [a0, some (.int x), a2, a3, a4] st σ Q = Ev sh 212 1 [a0, some (.int x), a2, a3, a4] (.int x :: st) σ Q := Ev_step rfl
theorem s_M_hands_1 : Ev sh 212 1 [a0, a1, a2, a3, a4] [.int x0] σ Q = Ev sh 169 0 [some (.int x0)] [] σ (fun r s => Ev sh 212 4 [a0, a1, a2, a3, a4] (zpush r []) s Q) := Ev_call rfl
theorem s_M_hands_4 : Ev sh 212 4 [a0, a1, a2, a3, a4] (.int x :: st) σ Q = if x ≠ 0 then Ev sh 212 11 [a0, a1, a2, a3, a4] st σ Q else Ev sh 212 7 [a0, a1, a2, a3, a4] st σ Q := Ev_if rfl
theorem s_M_hands_7 : Ev sh 212 7 [a0, a1, a2, a3, a4] st σ Q = Ev sh 212 8 [a0, a1, a2, a3, a4] (.int (-1) :: st) σ Q := Ev_step rfl
theorem s_M_hands_8 : Ev sh 212 8 [a0, a1, a2, a3, a4] st σ Q = Ev sh 212 18 [a0, a1, a2, a3, a4] st σ Q := Ev_step rfl
theorem s_M_hands_11 : Ev sh 212 11 [a0, a1, some (.int x), a3, a4] st σ Q = Ev sh 212 12 [a0, a1, some (.int x), a3, a4] (.int x :: st) σ Q := Ev_step rfl
theorem s_M_hands_12 : Ev sh 212 12 [a0, a1, a2, a3, a4] st σ Q = Ev sh 212 13 [a0, a1, a2, a3, a4] (.int 0 :: st) σ Q := Ev_step rfl
theorem s_M_hands_13 : Ev sh 212 13 [a0, a1, a2, a3, a4] st σ Q = Ev sh 212 15 [a0, a1, a2, a3, a4] (.int 9 :: st) σ Q := Ev_step rfl
theorem s_M_hands_15 : Ev sh 212 15 [a0, a1, a2, a3, a4] [.int x2, .int x1, .int x0] σ Q = Ev sh 164 0 [some (.int x0), some (.int x1), some (.int x2)] [] σ (fun r s => Ev sh 212 18 [a0, a1, a2, a3, a4] (zpush r []) s Q) := Ev_call rfl
theorem s_M_hands_18 : Ev sh 212 18 [a0, a1, a2, a3, a4] (.int x :: st) σ Q = Ev sh 212 19 [a0, a1, zdrop2 a2, some (.int x), a4] st σ Q := Ev_step rfl
theorem s_M_hands_19 : Ev sh 212 19 [a0, a1, a2, some (.int x), a4] st σ Q = Ev sh 212 20 [a0, a1, a2, some (.int x), a4] (.int x :: st) σ Q := Ev_step rfl
theorem s_M_hands_20 : Ev sh 212 20 [a0, a1, a2, a3, a4] (.int x :: st) σ Q = if x = 0 then Ev sh 212 29 [a0, a1, a2, a3, a4] st σ Q else Ev sh 212 23 [a0, a1, a2, a3, a4] st σ Q := Ev_if rfl
theorem s_M_hands_23 : Ev sh 212 23 [some (.ref i), a1, a2, a3, a4] st σ Q = Ev sh 212 24 [some (.ref i), a1, a2, a3, a4] (.ref i :: st) σ Q := Ev_step rfl
theorem s_M_hands_24 : Ev sh 212 24 [a0, a1, a2, some (.int x), a4] st σ Q = Ev sh 212 25 [a0, a1, a2, some (.int x), a4] (.int x :: st) σ Q := Ev_step rfl
theorem s_M_hands_25 (h : sh i0 = 9) : Ev sh 212 25 [a0, a1, a2, a3, a4] [.int x1, .ref i0] σ Q = Ev sh 160 0 [some (.ref i0), some (.int x1)] [] σ (fun r s => Ev sh 212 28 [a0, a1, a2, a3, a4] (zpush r []) s Q) := Ev_callh (zrecv_of (by decide) h) rfl
theorem s_M_hands_28 : Ev sh 212 28 [a0, a1, a2, a3, a4] [.int x] σ Q = Q (some (.int x)) σ := Ev_ret rfl
theorem s_M_hands_29 : Ev sh 212 29 [some (.ref i), a1, a2, a3, a4] st σ Q = Ev sh 212 30 [some (.ref i), a1, a2, a3, a4] (.ref i :: st) σ Q := Ev_step rfl
theorem s_M_hands_30 (h : sh i = 9) : Ev sh 212 30 [a0, a1, a2, a3, a4] (.ref i :: st) σ Q = Ev sh 212 33 [a0, a1, a2, a3, a4] (.ref 6 :: st) σ Q := Ev_h h rfl
theorem s_M_hands_33 : Ev sh 212 33 [a0, some (.int x), a2, a3, a4] st σ Q = Ev sh 212 34 [a0, some (.int x), a2, a3, a4] (.int x :: st) σ Q := Ev_step rfl
theorem s_M_hands_34 (h : zin x (sh i) = true) : Ev sh 212 34 [a0, a1, a2, a3, a4] (.int x :: .ref i :: st) σ Q = Ev sh 212 35 [a0, a1, a2, a3, a4] (.int (σ i x.toNatClampNeg) :: st) σ Q := Ev_h h rfl
theorem s_M_hands_35 : Ev sh 212 35 [a0, a1, a2, a3, a4] (.int x :: st) σ Q = Ev sh 212 37 [a0, a1, a2, zdrop2 a3, some (.int x)] st σ Q := Ev_step rfl
theorem s_M_hands_37 : Ev sh 212 37 [some (.ref i), a1, a2, a3, a4] st σ Q = Ev sh 212 38 [some (.ref i), a1, a2, a3, a4] (.ref i :: st) σ Q := Ev_step rfl
theorem s_M_hands_38 (h : sh i = 9) : Ev sh 212 38 [a0, a1, a2, a3, a4] (.ref i :: st) σ Q = Ev sh 212 41 [a0, a1, a2, a3, a4] (.ref 6 :: st) σ Q := Ev_h h rfl
theorem s_M_hands_41 : Ev sh 212 41 [a0, some (.int x), a2, a3, a4] st σ Q = Ev sh 212 42 [a0, some (.int x), a2, a3, a4] (.int x :: st) σ Q := Ev_step rfl
theorem s_M_hands_42 : Ev sh 212 42 [a0, a1, some (.int x), a3, a4] st σ Q = Ev sh 212 43 [a0, a1, some (.int x), a3, a4] (.int x :: st) σ Q := Ev_step rfl
theorem s_M_hands_43 (h : zin x (sh i) = true) : Ev sh 212 43 [a0, a1, a2, a3, a4] (.int y :: .int x :: .ref i :: st) σ Q = Ev sh 212 44 [a0, a1, a2, a3, a4] st (zup σ i x.toNatClampNeg y) Q := Ev_h h rfl
theorem s_M_hands_44 : Ev sh 212 44 [a0, a1, a2, a3, some (.int x)] st σ Q = Ev sh 212 46 [a0, a1, a2, a3, some (.int x)] (.int x :: st) σ Q := Ev_step rfl
theorem s_M_hands_46 : Ev sh 212 46 [a0, a1, a2, a3, a4] [.int x] σ Q = Q (some (.int x)) σ := Ev_ret rfl
theorem s_M_spites_0 : Ev sh 213 0 [a0, some (.int x), a2, a3, a4] st σ Q = Ev sh 213 1 [a0, some (.int x), a2, a3, a4] (.int x :: st) σ Q := Ev_step rfl
theorem s_M_spites_1 : Ev sh 213 1 [a0, a1, a2, a3, a4] [.int x0] σ Q = Ev sh 169 0 [some (.int x0)] [] σ (fun r s => Ev sh 213 4 [a0, a1, a2, a3, a4] (zpush r []) s Q) := Ev_call rfl
theorem s_M_spites_4 : Ev sh 213 4 [a0, a1, a2, a3, a4] (.int x :: st) σ Q = if x ≠ 0 then Ev sh 213 11 [a0, a1, a2, a3, a4] st σ Q else Ev sh 213 7 [a0, a1, a2, a3, a4] st σ Q := Ev_if rfl
theorem s_M_spites_7 : Ev sh 213 7 [a0, a1, a2, a3, a4] st σ Q = Ev sh 213 8 [a0, a1, a2, a3, a4] (.int (-1) :: st) σ Q := Ev_step rfl
theorem s_M_spites_8 : Ev sh 213 8 [a0, a1, a2, a3, a4] st σ Q = Ev sh 213 18 [a0, a1, a2, a3, a4] st σ Q := Ev_step rfl
theorem s_M_spites_11 : Ev sh 213 11 [a0, a1, some (.int x), a3, a4] st σ Q = Ev sh 213 12 [a0, a1, some (.int x), a3, a4] (.int x :: st) σ Q := Ev_step rfl
theorem s_M_spites_12 : Ev sh 213 12 [a0, a1, a2, a3, a4] st σ Q = Ev sh 213 13 [a0, a1, a2, a3, a4] (.int 0 :: st) σ Q := Ev_step rfl
theorem s_M_spites_13 : Ev sh 213 13 [a0, a1, a2, a3, a4] st σ Q = Ev sh 213 15 [a0, a1, a2, a3, a4] (.int 9 :: st) σ Q := Ev_step rfl
theorem s_M_spites_15 : Ev sh 213 15 [a0, a1, a2, a3, a4] [.int x2, .int x1, .int x0] σ Q = Ev sh 164 0 [some (.int x0), some (.int x1), some (.int x2)] [] σ (fun r s => Ev sh 213 18 [a0, a1, a2, a3, a4] (zpush r []) s Q) := Ev_call rfl
theorem s_M_spites_18 : Ev sh 213 18 [a0, a1, a2, a3, a4] (.int x :: st) σ Q = Ev sh 213 19 [a0, a1, zdrop2 a2, some (.int x), a4] st σ Q := Ev_step rfl
theorem s_M_spites_19 : Ev sh 213 19 [a0, a1, a2, some (.int x), a4] st σ Q = Ev sh 213 20 [a0, a1, a2, some (.int x), a4] (.int x :: st) σ Q := Ev_step rfl
theorem s_M_spites_20 : Ev sh 213 20 [a0, a1, a2, a3, a4] (.int x :: st) σ Q = if x = 0 then Ev sh 213 29 [a0, a1, a2, a3, a4] st σ Q else Ev sh 213 23 [a0, a1, a2, a3, a4] st σ Q := Ev_if rfl
theorem s_M_spites_23 : Ev sh 213 23 [some (.ref i), a1, a2, a3, a4] st σ Q = Ev sh 213 24 [some (.ref i), a1, a2, a3, a4] (.ref i :: st) σ Q := Ev_step rfl
theorem s_M_spites_24 : Ev sh 213 24 [a0, a1, a2, some (.int x), a4] st σ Q = Ev sh 213 25 [a0, a1, a2, some (.int x), a4] (.int x :: st) σ Q := Ev_step rfl
theorem s_M_spites_25 (h : sh i0 = 9) : Ev sh 213 25 [a0, a1, a2, a3, a4] [.int x1, .ref i0] σ Q = Ev sh 160 0 [some (.ref i0), some (.int x1)] [] σ (fun r s => Ev sh 213 28 [a0, a1, a2, a3, a4] (zpush r []) s Q) := Ev_callh (zrecv_of (by decide) h) rfl
theorem s_M_spites_28 : Ev sh 213 28 [a0, a1, a2, a3, a4] [.int x] σ Q = Q (some (.int x)) σ := Ev_ret rfl
theorem s_M_spites_29 : Ev sh 213 29 [some (.ref i), a1, a2, a3, a4] st σ Q = Ev sh 213 30 [some (.ref i), a1, a2, a3, a4] (.ref i :: st) σ Q := Ev_step rfl
theorem s_M_spites_30 (h : sh i = 9) : Ev sh 213 30 [a0, a1, a2, a3, a4] (.ref i :: st) σ Q = Ev sh 213 33 [a0, a1, a2, a3, a4] (.ref 7 :: st) σ Q := Ev_h h rfl
theorem s_M_spites_33 : Ev sh 213 33 [a0, some (.int x), a2, a3, a4] st σ Q = Ev sh 213 34 [a0, some (.int x), a2, a3, a4] (.int x :: st) σ Q := Ev_step rfl
theorem s_M_spites_34 (h : zin x (sh i) = true) : Ev sh 213 34 [a0, a1, a2, a3, a4] (.int x :: .ref i :: st) σ Q = Ev sh 213 35 [a0, a1, a2, a3, a4] (.int (σ i x.toNatClampNeg) :: st) σ Q := Ev_h h rfl
theorem s_M_spites_35 : Ev sh 213 35 [a0, a1, a2, a3, a4] (.int x :: st) σ Q = Ev sh 213 37 [a0, a1, a2, zdrop2 a3, some (.int x)] st σ Q := Ev_step rfl
theorem s_M_spites_37 : Ev sh 213 37 [some (.ref i), a1, a2, a3, a4] st σ Q = Ev sh 213 38 [some (.ref i), a1, a2, a3, a4] (.ref i :: st) σ Q := Ev_step rfl
theorem s_M_spites_38 (h : sh i = 9) : Ev sh 213 38 [a0, a1, a2, a3, a4] (.ref i :: st) σ Q = Ev sh 213 41 [a0, a1, a2, a3, a4] (.ref 7 :: st) σ Q := Ev_h h rfl
theorem s_M_spites_41 : Ev sh 213 41 [a0, some (.int x), a2, a3, a4] st σ Q = Ev sh 213 42 [a0, some (.int x), a2, a3, a4] (.int x :: st) σ Q := Ev_step rfl
theorem s_M_spites_42 : Ev sh 213 42 [a0, a1, some (.int x), a3, a4] st σ Q = Ev sh 213 43 [a0, a1, some (.int x), a3, a4] (.int x :: st) σ Q := Ev_step rfl
theorem s_M_spites_43 (h : zin x (sh i) = true) : Ev sh 213 43 [a0, a1, a2, a3, a4] (.int y :: .int x :: .ref i :: st) σ Q = Ev sh 213 44 [a0, a1, a2, a3, a4] st (zup σ i x.toNatClampNeg y) Q := Ev_h h rfl
theorem s_M_spites_44 : Ev sh 213 44 [a0, a1, a2, a3, some (.int x)] st σ Q = Ev sh 213 46 [a0, a1, a2, a3, some (.int x)] (.int x :: st) σ Q := Ev_step rfl
theorem s_M_spites_46 : Ev sh 213 46 [a0, a1, a2, a3, a4] [.int x] σ Q = Q (some (.int x)) σ := Ev_ret rfl
theorem s_M_days_0 : Ev sh 214 0 [a0, some (.int x), a2] st σ Q = Ev sh 214 1 [a0, some (.int x), a2] (.int x :: st) σ Q := Ev_step rfl
theorem s_M_days_1 : Ev sh 214 1 [a0, a1, a2] st σ Q = Ev sh 214 2 [a0, a1, a2] (.int 1 :: st) σ Q := Ev_step rfl
theorem s_M_days_2 : Ev sh 214 2 [a0, a1, a2] st σ Q = Ev sh 214 4 [a0, a1, a2] (.int 60 :: st) σ Q := Ev_step rfl
theorem s_M_days_4 : Ev sh 214 4 [a0, a1, a2] [.int x2, .int x1, .int x0] σ Q = Ev sh 164 0 [some (.int x0), some (.int x1), some (.int x2)] [] σ (fun r s => Ev sh 214 7 [a0, a1, a2] (zpush r []) s Q) := Ev_call rfl
theorem s_M_days_7 : Ev sh 214 7 [a0, a1, a2] (.int x :: st) σ Q = Ev sh 214 8 [a0, zdrop2 a1, some (.int x)] st σ Q := Ev_step rfl
theorem s_M_days_8 : Ev sh 214 8 [a0, a1, some (.int x)] st σ Q = Ev sh 214 9 [a0, a1, some (.int x)] (.int x :: st) σ Q := Ev_step rfl
theorem s_M_days_9 : Ev sh 214 9 [a0, a1, a2] (.int x :: st) σ Q = if x ≠ 0 then Ev sh 214 27 [a0, a1, a2] st σ Q else Ev sh 214 12 [a0, a1, a2] st σ Q := Ev_if rfl
theorem s_M_days_12 : Ev sh 214 12 [some (.ref i), a1, a2] st σ Q = Ev sh 214 13 [some (.ref i), a1, a2] (.ref i :: st) σ Q := Ev_step rfl
theorem s_M_days_13 (h : sh i = 9) : Ev sh 214 13 [a0, a1, a2] (.ref i :: st) σ Q = Ev sh 214 16 [a0, a1, a2] (.int (σ i 9) :: st) σ Q := Ev_h h rfl
theorem s_M_days_16 : Ev sh 214 16 [a0, some (.int x), a2] st σ Q = Ev sh 214 17 [a0, some (.int x), a2] (.int x :: st) σ Q := Ev_step rfl
theorem s_M_days_17 : Ev sh 214 17 [a0, a1, a2] (.int y :: .int x :: st) σ Q = Ev sh 214 18 [a0, a1, a2] (.int (x + y) :: st) σ Q := Ev_step rfl
theorem s_M_days_18 : Ev sh 214 18 [a0, a1, a2] st σ Q = Ev sh 214 21 [a0, a1, a2] (.int 999 :: st) σ Q := Ev_step rfl
theorem s_M_days_21 : Ev sh 214 21 [a0, a1, a2] (.int y :: .int x :: st) σ Q = if x ≤ y then Ev sh 214 27 [a0, a1, a2] st σ Q else Ev sh 214 24 [a0, a1, a2] st σ Q := Ev_if rfl
theorem s_M_days_24 : Ev sh 214 24 [a0, a1, a2] st σ Q = Ev sh 214 26 [a0, a1, a2] (.int (-6) :: st) σ Q := Ev_step rfl
theorem s_M_days_26 : Ev sh 214 26 [a0, a1, a2] (.int x :: st) σ Q = Ev sh 214 27 [a0, zdrop2 a1, some (.int x)] st σ Q := Ev_step rfl
theorem s_M_days_27 : Ev sh 214 27 [a0, a1, some (.int x)] st σ Q = Ev sh 214 28 [a0, a1, some (.int x)] (.int x :: st) σ Q := Ev_step rfl
theorem s_M_days_28 : Ev sh 214 28 [a0, a1, a2] (.int x :: st) σ Q = if x = 0 then Ev sh 214 37 [a0, a1, a2] st σ Q else Ev sh 214 31 [a0, a1, a2] st σ Q := Ev_if rfl
theorem s_M_days_31 : Ev sh 214 31 [some (.ref i), a1, a2] st σ Q = Ev sh 214 32 [some (.ref i), a1, a2] (.ref i :: st) σ Q := Ev_step rfl
theorem s_M_days_32 : Ev sh 214 32 [a0, a1, some (.int x)] st σ Q = Ev sh 214 33 [a0, a1, some (.int x)] (.int x :: st) σ Q := Ev_step rfl
theorem s_M_days_33 (h : sh i0 = 9) : Ev sh 214 33 [a0, a1, a2] [.int x1, .ref i0] σ Q = Ev sh 160 0 [some (.ref i0), some (.int x1)] [] σ (fun r s => Ev sh 214 36 [a0, a1, a2] (zpush r []) s Q) := Ev_callh (zrecv_of (by decide) h) rfl
theorem s_M_days_36 : Ev sh 214 36 [a0, a1, a2] [.int x] σ Q = Q (some (.int x)) σ := Ev_ret rfl
theorem s_M_days_37 : Ev sh 214 37 [some (.ref i), a1, a2] st σ Q = Ev sh 214 38 [some (.ref i), a1, a2] (.ref i :: st) σ Q := Ev_step rfl
theorem s_M_days_38 : Ev sh 214 38 [a0, some (.int x), a2] st σ Q = Ev sh 214 39 [a0, some (.int x), a2] (.int x :: st) σ Q := Ev_step rfl
theorem s_M_days_39 (h : sh i0 = 9) : Ev sh 214 39 [a0, a1, a2] [.int x1, .ref i0] σ Q = Ev sh 203 0 [some (.ref i0), some (.int x1), none] [] σ (fun r s => Ev sh 214 42 [a0, a1, a2] (zpush r []) s Q) := Ev_callh (zrecv_of (by decide) h) rfl
theorem s_M_days_42 : Ev sh 214 42 [some (.ref i), a1, a2] st σ Q = Ev sh 214 43 [some (.ref i), a1, a2] (.ref i :: st) σ Q := Ev_step rfl
theorem s_M_days_43 (h : sh i = 9) : Ev sh 214 43 [a0, a1, a2] (.ref i :: st) σ Q = Ev sh 214 46 [a0, a1, a2] (.int (σ i 7) :: st) σ Q := Ev_h h rfl
theorem s_M_days_46 : Ev sh 214 46 [a0, a1, a2] [.int x] σ Q = Q (some (.int x)) σ := Ev_ret rfl
theorem s_M_stands_0 : Ev sh 215 0 [a0, some (.int x)] st σ Q = Ev sh 215 1 [a0, some (.int x)] (.int x :: st) σ Q := Ev_step rfl
theorem s_M_stands_1 : Ev sh 215 1 [a0, a1] (.int x :: st) σ Q = if x = 0 then Ev sh 215 28 [a0, a1] st σ Q else if x = 1 then Ev sh 215 41 [a0, a1] st σ Q else if x = 2 then Ev sh 215 46 [a0, a1] st σ Q else Ev sh 215 51 [a0, a1] st σ Q := (Ev_step (pc' := zsw x 51 [(0, 28), (1, 41), (2, 46)]) rfl).trans (by rw [Ev_swc, Ev_swc, Ev_swc]; rfl)
theorem s_M_stands_28 : Ev sh 215 28 [some (.ref i), a1] st σ Q = Ev sh 215 29 [some (.ref i), a1] (.ref i :: st) σ Q := Ev_step rfl
theorem s_M_stands_29 (h : sh i0 = 9) : Ev sh 215 29 [a0, a1] [.ref i0] σ Q = Ev sh 198 0 [some (.ref i0)] [] σ (fun r s => Ev sh 215 32 [a0, a1] (zpush r []) s Q) := Ev_callh (zrecv_of (by decide) h) rfl
theorem s_M_stands_32 : Ev sh 215 32 [a0, a1] (.int x :: st) σ Q = if x = 0 then Ev sh 215 39 [a0, a1] st σ Q else Ev sh 215 35 [a0, a1] st σ Q := Ev_if rfl
theorem s_M_stands_35 : Ev sh 215 35 [a0, a1] st σ Q = Ev sh 215 36 [a0, a1] (.int 1 :: st) σ Q := Ev_step rfl
theorem s_M_stands_36 : Ev sh 215 36 [a0, a1] st σ Q = Ev sh 215 40 [a0, a1] st σ Q := Ev_step rfl
theorem s_M_stands_39 : Ev sh 215 39 [a0, a1] st σ Q = Ev sh 215 40 [a0, a1] (.int 0 :: st) σ Q := Ev_step rfl
theorem s_M_stands_40 : Ev sh 215 40 [a0, a1] [.int x] σ Q = Q (some (.int x)) σ := Ev_ret rfl
theorem s_M_stands_41 : Ev sh 215 41 [some (.ref i), a1] st σ Q = Ev sh 215 42 [some (.ref i), a1] (.ref i :: st) σ Q := Ev_step rfl
theorem s_M_stands_42 (h : sh i0 = 9) : Ev sh 215 42 [a0, a1] [.ref i0] σ Q = Ev sh 196 0 [some (.ref i0), none] [] σ (fun r s => Ev sh 215 45 [a0, a1] (zpush r []) s Q) := Ev_callh (zrecv_of (by decide) h) rfl
theorem s_M_stands_45 : Ev sh 215 45 [a0, a1] [.int x] σ Q = Q (some (.int x)) σ := Ev_ret rfl
theorem s_M_stands_46 : Ev sh 215 46 [some (.ref i), a1] st σ Q = Ev sh 215 47 [some (.ref i), a1] (.ref i :: st) σ Q := Ev_step rfl
theorem s_M_stands_47 (h : sh i0 = 9) : Ev sh 215 47 [a0, a1] [.ref i0] σ Q = Ev sh 197 0 [some (.ref i0), none, none] [] σ (fun r s => Ev sh 215 50 [a0, a1] (zpush r []) s Q) := Ev_callh (zrecv_of (by decide) h) rfl
theorem s_M_stands_50 : Ev sh 215 50 [a0, a1] [.int x] σ Q = Q (some (.int x)) σ := Ev_ret rfl
theorem s_M_stands_51 : Ev sh 215 51 [some (.ref i), a1] st σ Q = Ev sh 215 52 [some (.ref i), a1] (.ref i :: st) σ Q := Ev_step rfl
theorem s_M_stands_52 : Ev sh 215 52 [a0, a1] st σ Q = Ev sh 215 54 [a0, a1] (.int (-2) :: st) σ Q := Ev_step rfl
theorem s_M_stands_54 (h : sh i0 = 9) : Ev sh 215 54 [a0, a1] [.int x1, .ref i0] σ Q = Ev sh 160 0 [some (.ref i0), some (.int x1)] [] σ (fun r s => Ev sh 215 57 [a0, a1] (zpush r []) s Q) := Ev_callh (zrecv_of (by decide) h) rfl
theorem s_M_stands_57 : Ev sh 215 57 [a0, a1] [.int x] σ Q = Q (some (.int x)) σ := Ev_ret rfl
theorem s_M_spare_0 : Ev sh 216 0 [a0, some (.int x)] st σ Q = Ev sh 216 1 [a0, some (.int x)] (.int x :: st) σ Q := Ev_step rfl
theorem s_M_spare_1 : Ev sh 216 1 [a0, a1] st σ Q = Ev sh 216 2 [a0, a1] (.int 0 :: st) σ Q := Ev_step rfl
theorem s_M_spare_2 : Ev sh 216 2 [a0, a1] st σ Q = Ev sh 216 3 [a0, a1] (.int 1 :: st) σ Q := Ev_step rfl
theorem s_M_spare_3 : Ev sh 216 3 [a0, a1] [.int x2, .int x1, .int x0] σ Q = Ev sh 163 0 [some (.int x0), some (.int x1), some (.int x2)] [] σ (fun r s => Ev sh 216 6 [a0, a1] (zpush r []) s Q) := Ev_call rfl
theorem s_M_spare_6 : Ev sh 216 6 [a0, a1] (.int x :: st) σ Q = if x ≠ 0 then Ev sh 216 16 [a0, a1] st σ Q else Ev sh 216 9 [a0, a1] st σ Q := Ev_if rfl
theorem s_M_spare_9 : Ev sh 216 9 [some (.ref i), a1] st σ Q = Ev sh 216 10 [some (.ref i), a1] (.ref i :: st) σ Q := Ev_step rfl
theorem s_M_spare_10 : Ev sh 216 10 [a0, a1] st σ Q = Ev sh 216 12 [a0, a1] (.int (-2) :: st) σ Q := Ev_step rfl
theorem s_M_spare_12 (h : sh i0 = 9) : Ev sh 216 12 [a0, a1] [.int x1, .ref i0] σ Q = Ev sh 161 0 [some (.ref i0), some (.int x1)] [] σ (fun r s => Ev sh 216 15 [a0, a1] (zpush r []) s Q) := Ev_callh (zrecv_of (by decide) h) rfl
theorem s_M_spare_15 : Ev sh 216 15 [a0, a1] [.int x] σ Q = Q (some (.int x)) σ := Ev_ret rfl
theorem s_M_spare_16 : Ev sh 216 16 [a0, some (.int x)] st σ Q = Ev sh 216 17 [a0, some (.int x)] (.int x :: st) σ Q := Ev_step rfl
theorem s_M_spare_17 : Ev sh 216 17 [a0, a1] (.int x :: st) σ Q = if x ≠ 0 then Ev sh 216 27 [a0, a1] st σ Q else Ev sh 216 20 [a0, a1] st σ Q := Ev_if rfl
theorem s_M_spare_20 : Ev sh 216 20 [some (.ref i), a1] st σ Q = Ev sh 216 21 [some (.ref i), a1] (.ref i :: st) σ Q := Ev_step rfl
theorem s_M_spare_21 (h : sh i0 = 9) : Ev sh 216 21 [a0, a1] [.ref i0] σ Q = Ev sh 200 0 [some (.ref i0)] [] σ (fun r s => Ev sh 216 24 [a0, a1] (zpush r []) s Q) := Ev_callh (zrecv_of (by decide) h) rfl
theorem s_M_spare_24 : Ev sh 216 24 [a0, a1] st σ Q = Ev sh 216 31 [a0, a1] st σ Q := Ev_step rfl
theorem s_M_spare_27 : Ev sh 216 27 [some (.ref i), a1] st σ Q = Ev sh 216 28 [some (.ref i), a1] (.ref i :: st) σ Q := Ev_step rfl
theorem s_M_spare_28 (h : sh i0 = 9) : Ev sh 216 28 [a0, a1] [.ref i0] σ Q = Ev sh 199 0 [some (.ref i0), none, none] [] σ (fun r s => Ev sh 216 31 [a0, a1] (zpush r []) s Q) := Ev_callh (zrecv_of (by decide) h) rfl
theorem s_M_spare_31 : Ev sh 216 31 [a0, a1] [.int x] σ Q = Q (some (.int x)) σ := Ev_ret rfl
theorem s_M_lean_0 : Ev sh 217 0 [a0, some (.int x), a2, a3] st σ Q = Ev sh 217 1 [a0, some (.int x), a2, a3] (.int x :: st) σ Q := Ev_step rfl
theorem s_M_lean_1 : Ev sh 217 1 [a0, a1, a2, a3] st σ Q = Ev sh 217 2 [a0, a1, a2, a3] (.int 0 :: st) σ Q := Ev_step rfl
theorem s_M_lean_2 : Ev sh 217 2 [a0, a1, a2, a3] st σ Q = Ev sh 217 3 [a0, a1, a2, a3] (.int 1 :: st) σ Q := Ev_step rfl
theorem s_M_lean_3 : Ev sh 217 3 [a0, a1, a2, a3] [.int x2, .int x1, .int x0] σ Q = Ev sh 163 0 [some (.int x0), some (.int x1), some (.int x2)] [] σ (fun r s => Ev sh 217 6 [a0, a1, a2, a3] (zpush r []) s Q) := Ev_call rfl
theorem s_M_lean_6 : Ev sh 217 6 [a0, a1, a2, a3] (.int x :: st) σ Q = if x ≠ 0 then Ev sh 217 16 [a0, a1, a2, a3] st σ Q else Ev sh 217 9 [a0, a1, a2, a3] st σ Q := Ev_if rfl
theorem s_M_lean_9 : Ev sh 217 9 [some (.ref i), a1, a2, a3] st σ Q = Ev sh 217 10 [some (.ref i), a1, a2, a3] (.ref i :: st) σ Q := Ev_step rfl
theorem s_M_lean_10 : Ev sh 217 10 [a0, a1, a2, a3] st σ Q = Ev sh 217 12 [a0, a1, a2, a3] (.int (-2) :: st) σ Q := Ev_step rfl
theorem s_M_lean_12 (h : sh i0 = 9) : Ev sh 217 12 [a0, a1, a2, a3] [.int x1, .ref i0] σ Q = Ev sh 161 0 [some (.ref i0), some (.int x1)] [] σ (fun r s => Ev sh 217 15 [a0, a1, a2, a3] (zpush r []) s Q) := Ev_callh (zrecv_of (by decide) h) rfl
theorem s_M_lean_15 : Ev sh 217 15 [a0, a1, a2, a3] [.int x] σ Q = Q (some (.int x)) σ := Ev_ret rfl
theorem s_M_lean_16 : Ev sh 217 16 [a0, some (.int x), a2, a3] st σ Q = Ev sh 217 17 [a0, some (.int x), a2, a3] (.int x :: st) σ Q := Ev_step rfl
theorem s_M_lean_17 : Ev sh 217 17 [a0, a1, a2, a3] (.int x :: st) σ Q = if x ≠ 0 then Ev sh 217 31 [a0, a1, a2, a3] st σ Q else Ev sh 217 20 [a0, a1, a2, a3] st σ Q := Ev_if rfl
theorem s_M_lean_20 : Ev sh 217 20 [some (.ref i), a1, a2, a3] st σ Q = Ev sh 217 21 [some (.ref i), a1, a2, a3] (.ref i :: st) σ Q := Ev_step rfl
theorem s_M_lean_21 : Ev sh 217 21 [some (.ref i), a1, a2, a3] st σ Q = Ev sh 217 22 [some (.ref i), a1, a2, a3] (.ref i :: st) σ Q := Ev_step rfl
theorem s_M_lean_22 (h : sh i = 9) : Ev sh 217 22 [a0, a1, a2, a3] (.ref i :: st) σ Q = Ev sh 217 25 [a0, a1, a2, a3] (.int (σ i 7) :: st) σ Q := Ev_h h rfl
theorem s_M_lean_25 : Ev sh 217 25 [a0, a1, a2, a3] st σ Q = Ev sh 217 26 [a0, a1, a2, a3] (.int 1 :: st) σ Q := Ev_step rfl
theorem s_M_lean_26 : Ev sh 217 26 [a0, a1, a2, a3] (.int y :: .int x :: st) σ Q = Ev sh 217 27 [a0, a1, a2, a3] (.int (x - y) :: st) σ Q := Ev_step rfl
theorem s_M_lean_27 (h : sh i0 = 9) : Ev sh 217 27 [a0, a1, a2, a3] [.int x1, .ref i0] σ Q = Ev sh 192 0 [some (.ref i0), some (.int x1), none, none] [] σ (fun r s => Ev sh 217 30 [a0, a1, a2, a3] (zpush r []) s Q) := Ev_callh (zrecv_of (by decide) h) rfl
theorem s_M_lean_30 : Ev sh 217 30 [a0, a1, a2, a3] [.int x] σ Q = Q (some (.int x)) σ := Ev_ret rfl
theorem s_M_lean_31 : Ev sh 217 31 [a0, a1, a2, a3] st σ Q = Ev sh 217 32 [a0, a1, a2, a3] (.int 0 :: st) σ Q := Ev_step rfl
theorem s_M_lean_32 : Ev sh 217 32 [a0, a1, a2, a3] (.int x :: st) σ Q = Ev sh 217 33 [a0, zdrop2 a1, some (.int x), a3] st σ Q := Ev_step rfl
theorem s_M_lean_33 : Ev sh 217 33 [a0, a1, a2, a3] st σ Q = Ev sh 217 34 [a0, a1, a2, a3] (.int 0 :: st) σ Q := Ev_step rfl
theorem s_M_lean_34 : Ev sh 217 34 [a0, a1, a2, a3] (.int x :: st) σ Q = Ev sh 217 35 [a0, a1, zdrop2 a2, some (.int x)] st σ Q := Ev_step rfl
theorem s_M_lean_35 : Ev sh 217 35 [a0, a1, a2, some (.int x)] st σ Q = Ev sh 217 36 [a0, a1, a2, some (.int x)] (.int x :: st) σ Q := Ev_step rfl
theorem s_M_lean_36 : Ev sh 217 36 [some (.ref i), a1, a2, a3] st σ Q = Ev sh 217 37 [some (.ref i), a1, a2, a3] (.ref i :: st) σ Q := Ev_step rfl
theorem s_M_lean_37 (h : sh i = 9) : Ev sh 217 37 [a0, a1, a2, a3] (.ref i :: st) σ Q = Ev sh 217 40 [a0, a1, a2, a3] (.int (σ i 7) :: st) σ Q := Ev_h h rfl
theorem s_M_lean_40 : Ev sh 217 40 [a0, a1, a2, a3] (.int y :: .int x :: st) σ Q = if y ≤ x then Ev sh 217 74 [a0, a1, a2, a3] st σ Q else Ev sh 217 43 [a0, a1, a2, a3] st σ Q := Ev_if rfl
theorem s_M_lean_43 : Ev sh 217 43 [some (.ref i), a1, a2, a3] st σ Q = Ev sh 217 44 [some (.ref i), a1, a2, a3] (.ref i :: st) σ Q := Ev_step rfl
theorem s_M_lean_44 : Ev sh 217 44 [a0, a1, a2, some (.int x)] st σ Q = Ev sh 217 45 [a0, a1, a2, some (.int x)] (.int x :: st) σ Q := Ev_step rfl
theorem s_M_lean_45 (h : sh i0 = 9) : Ev sh 217 45 [a0, a1, a2, a3] [.int x1, .ref i0] σ Q = Ev sh 192 0 [some (.ref i0), some (.int x1), none, none] [] σ (fun r s => Ev sh 217 48 [a0, a1, a2, a3] (zpush r []) s Q) := Ev_callh (zrecv_of (by decide) h) rfl
theorem s_M_lean_48 : Ev sh 217 48 [a0, a1, a2, a3] [.int x0] σ Q = Ev sh 166 0 [some (.int x0)] [] σ (fun r s => Ev sh 217 51 [a0, a1, a2, a3] (zpush r []) s Q) := Ev_call rfl
theorem s_M_lean_51 : Ev sh 217 51 [a0, a1, some (.int x), a3] st σ Q = Ev sh 217 52 [a0, a1, some (.int x), a3] (.int x :: st) σ Q := Ev_step rfl
theorem s_M_lean_52 : Ev sh 217 52 [a0, a1, a2, a3] (.int y :: .int x :: st) σ Q = if x ≤ y then Ev sh 217 66 [a0, a1, a2, a3] st σ Q else Ev sh 217 55 [a0, a1, a2, a3] st σ Q := Ev_if rfl
theorem s_M_lean_55 : Ev sh 217 55 [some (.ref i), a1, a2, a3] st σ Q = Ev sh 217 56 [some (.ref i), a1, a2, a3] (.ref i :: st) σ Q := Ev_step rfl
theorem s_M_lean_56 : Ev sh 217 56 [a0, a1, a2, some (.int x)] st σ Q = Ev sh 217 57 [a0, a1, a2, some (.int x)] (.int x :: st) σ Q := Ev_step rfl
theorem s_M_lean_57 (h : sh i0 = 9) : Ev sh 217 57 [a0, a1, a2, a3] [.int x1, .ref i0] σ Q = Ev sh 192 0 [some (.ref i0), some (.int x1), none, none] [] σ (fun r s => Ev sh 217 60 [a0, a1, a2, a3] (zpush r []) s Q) := Ev_callh (zrecv_of (by decide) h) rfl
theorem s_M_lean_60 : Ev sh 217 60 [a0, a1, a2, a3] [.int x0] σ Q = Ev sh 166 0 [some (.int x0)] [] σ (fun r s => Ev sh 217 63 [a0, a1, a2, a3] (zpush r []) s Q) := Ev_call rfl
theorem s_M_lean_63 : Ev sh 217 63 [a0, a1, a2, a3] st σ Q = Ev sh 217 67 [a0, a1, a2, a3] st σ Q := Ev_step rfl
theorem s_M_lean_66 : Ev sh 217 66 [a0, a1, some (.int x), a3] st σ Q = Ev sh 217 67 [a0, a1, some (.int x), a3] (.int x :: st) σ Q := Ev_step rfl
theorem s_M_lean_67 : Ev sh 217 67 [a0, a1, a2, a3] (.int x :: st) σ Q = Ev sh 217 68 [a0, zdrop2 a1, some (.int x), a3] st σ Q := Ev_step rfl
theorem s_M_lean_68 : Ev sh 217 68 [a0, a1, a2, some (.int x)] st σ Q = Ev sh 217 71 [a0, a1, a2, some (.int (x + 1))] st σ Q := Ev_step rfl
theorem s_M_lean_71 : Ev sh 217 71 [a0, a1, a2, a3] st σ Q = Ev sh 217 35 [a0, a1, a2, a3] st σ Q := Ev_step rfl
theorem s_M_lean_74 : Ev sh 217 74 [a0, a1, some (.int x), a3] st σ Q = Ev sh 217 75 [a0, a1, some (.int x), a3] (.int x :: st) σ Q := Ev_step rfl
theorem s_M_lean_75 : Ev sh 217 75 [a0, a1, a2, a3] [.int x] σ Q = Q (some (.int x)) σ := Ev_ret rfl
theorem s_M_then_0 : Ev sh 218 0 [a0, some (.int x), a2, a3, a4] st σ Q = Ev sh 218 1 [a0, some (.int x), a2, a3, a4] (.int x :: st) σ Q := Ev_step rfl
theorem s_M_then_1 : Ev sh 218 1 [a0, a1, a2, a3, a4] st σ Q = Ev sh 218 2 [a0, a1, a2, a3, a4] (.int 0 :: st) σ Q := Ev_step rfl
theorem s_M_then_2 : Ev sh 218 2 [a0, a1, a2, a3, a4] st σ Q = Ev sh 218 4 [a0, a1, a2, a3, a4] (.int 60 :: st) σ Q := Ev_step rfl
theorem s_M_then_4 : Ev sh 218 4 [a0, a1, a2, a3, a4] [.int x2, .int x1, .int x0] σ Q = Ev sh 164 0 [some (.int x0), some (.int x1), some (.int x2)] [] σ (fun r s => Ev sh 218 7 [a0, a1, a2, a3, a4] (zpush r []) s Q) := Ev_call rfl
theorem s_M_then_7 : Ev sh 218 7 [a0, a1, a2, a3, a4] (.int x :: st) σ Q = Ev sh 218 8 [a0, a1, zdrop2 a2, some (.int x), a4] st σ Q := Ev_step rfl
theorem s_M_then_8 : Ev sh 218 8 [a0, a1, a2, some (.int x), a4] st σ Q = Ev sh 218 9 [a0, a1, a2, some (.int x), a4] (.int x :: st) σ Q := Ev_step rfl
theorem s_M_then_9 : Ev sh 218 9 [a0, a1, a2, a3, a4] (.int x :: st) σ Q = if x ≠ 0 then Ev sh 218 24 [a0, a1, a2, a3, a4] st σ Q else Ev sh 218 12 [a0, a1, a2, a3, a4] st σ Q := Ev_if rfl
theorem s_M_then_12 : Ev sh 218 12 [a0, a1, some (.int x), a3, a4] st σ Q = Ev sh 218 13 [a0, a1, some (.int x), a3, a4] (.int x :: st) σ Q := Ev_step rfl
theorem s_M_then_13 : Ev sh 218 13 [a0, a1, a2, a3, a4] st σ Q = Ev sh 218 14 [a0, a1, a2, a3, a4] (.int 0 :: st) σ Q := Ev_step rfl
theorem s_M_then_14 : Ev sh 218 14 [a0, a1, a2, a3, a4] st σ Q = Ev sh 218 15 [a0, a1, a2, a3, a4] (.int 2 :: st) σ Q := Ev_step rfl
theorem s_M_then_15 : Ev sh 218 15 [a0, a1, a2, a3, a4] [.int x2, .int x1, .int x0] σ Q = Ev sh 163 0 [some (.int x0), some (.int x1), some (.int x2)] [] σ (fun r s => Ev sh 218 18 [a0, a1, a2, a3, a4] (zpush r []) s Q) := Ev_call rfl
theorem s_M_then_18 : Ev sh 218 18 [a0, a1, a2, a3, a4] (.int x :: st) σ Q = if x ≠ 0 then Ev sh 218 24 [a0, a1, a2, a3, a4] st σ Q else Ev sh 218 21 [a0, a1, a2, a3, a4] st σ Q := Ev_if rfl
theorem s_M_then_21 : Ev sh 218 21 [a0, a1, a2, a3, a4] st σ Q = Ev sh 218 23 [a0, a1, a2, a3, a4] (.int (-2) :: st) σ Q := Ev_step rfl
theorem s_M_then_23 : Ev sh 218 23 [a0, a1, a2, a3, a4] (.int x :: st) σ Q = Ev sh 218 24 [a0, a1, zdrop2 a2, some (.int x), a4] st σ Q := Ev_step rfl
theorem s_M_then_24 : Ev sh 218 24 [a0, a1, a2, some (.int x), a4] st σ Q = Ev sh 218 25 [a0, a1, a2, some (.int x), a4] (.int x :: st) σ Q := Ev_step rfl
theorem s_M_then_25 : Ev sh 218 25 [a0, a1, a2, a3, a4] (.int x :: st) σ Q = if x = 0 then Ev sh 218 34 [a0, a1, a2, a3, a4] st σ Q else Ev sh 218 28 [a0, a1, a2, a3, a4] st σ Q := Ev_if rfl
theorem s_M_then_28 : Ev sh 218 28 [some (.ref i), a1, a2, a3, a4] st σ Q = Ev sh 218 29 [some (.ref i), a1, a2, a3, a4] (.ref i :: st) σ Q := Ev_step rfl
theorem s_M_then_29 : Ev sh 218 29 [a0, a1, a2, some (.int x), a4] st σ Q = Ev sh 218 30 [a0, a1, a2, some (.int x), a4] (.int x :: st) σ Q := Ev_step rfl
theorem s_M_then_30 (h : sh i0 = 9) : Ev sh 218 30 [a0, a1, a2, a3, a4] [.int x1, .ref i0] σ Q = Ev sh 160 0 [some (.ref i0), some (.int x1)] [] σ (fun r s => Ev sh 218 33 [a0, a1, a2, a3, a4] (zpush r []) s Q) := Ev_callh (zrecv_of (by decide) h) rfl
theorem s_M_then_33 : Ev sh 218 33 [a0, a1, a2, a3, a4] [.int x] σ Q = Q (some (.int x)) σ := Ev_ret rfl
theorem s_M_then_34 : Ev sh 218 34 [some (.ref i), a1, a2, a3, a4] st σ Q = Ev sh 218 35 [some (.ref i), a1, a2, a3, a4] (.ref i :: st) σ Q := Ev_step rfl
theorem s_M_then_35 (h : sh i0 = 9) : Ev sh 218 35 [a0, a1, a2, a3, a4] [.ref i0] σ Q = Ev sh 184 0 [some (.ref i0)] [] σ (fun r s => Ev sh 218 38 [a0, a1, a2, a3, a4] (zpush r []) s Q) := Ev_callh (zrecv_of (by decide) h) rfl
theorem s_M_then_38 : Ev sh 218 38 [some (.ref i), a1, a2, a3, a4] st σ Q = Ev sh 218 39 [some (.ref i), a1, a2, a3, a4] (.ref i :: st) σ Q := Ev_step rfl
theorem s_M_then_39 : Ev sh 218 39 [a0, some (.int x), a2, a3, a4] st σ Q = Ev sh 218 40 [a0, some (.int x), a2, a3, a4] (.int x :: st) σ Q := Ev_step rfl
theorem s_M_then_40 (h : sh i0 = 9) : Ev sh 218 40 [a0, a1, a2, a3, a4] [.int x1, .ref i0] σ Q = Ev sh 203 0 [some (.ref i0), some (.int x1), none] [] σ (fun r s => Ev sh 218 43 [a0, a1, a2, a3, a4] (zpush r []) s Q) := Ev_callh (zrecv_of (by decide) h) rfl
theorem s_M_then_43 : Ev sh 218 43 [a0, a1, some (.int x), a3, a4] st σ Q = Ev sh 218 44 [a0, a1, some (.int x), a3, a4] (.int x :: st) σ Q := Ev_step rfl
theorem s_M_then_44 : Ev sh 218 44 [a0, a1, a2, a3, a4] (.int x :: st) σ Q = if x ≠ 0 then Ev sh 218 54 [a0, a1, a2, a3, a4] st σ Q else Ev sh 218 47 [a0, a1, a2, a3, a4] st σ Q := Ev_if rfl
theorem s_M_then_47 : Ev sh 218 47 [some (.ref i), a1, a2, a3, a4] st σ Q = Ev sh 218 48 [some (.ref i), a1, a2, a3, a4] (.ref i :: st) σ Q := Ev_step rfl
theorem s_M_then_48 (h : sh i = 9) : Ev sh 218 48 [a0, a1, a2, a3, a4] (.ref i :: st) σ Q = Ev sh 218 51 [a0, a1, a2, a3, a4] (.int (σ i 7) :: st) σ Q := Ev_h h rfl
theorem s_M_then_51 : Ev sh 218 51 [a0, a1, a2, a3, a4] st σ Q = Ev sh 218 78 [a0, a1, a2, a3, a4] st σ Q := Ev_step rfl
theorem s_M_then_54 : Ev sh 218 54 [a0, a1, some (.int x), a3, a4] st σ Q = Ev sh 218 55 [a0, a1, some (.int x), a3, a4] (.int x :: st) σ Q := Ev_step rfl
theorem s_M_then_55 : Ev sh 218 55 [a0, a1, a2, a3, a4] st σ Q = Ev sh 218 56 [a0, a1, a2, a3, a4] (.int 1 :: st) σ Q := Ev_step rfl
theorem s_M_then_56 : Ev sh 218 56 [a0, a1, a2, a3, a4] (.int y :: .int x :: st) σ Q = if x ≠ y then Ev sh 218 66 [a0, a1, a2, a3, a4] st σ Q else Ev sh 218 59 [a0, a1, a2, a3, a4] st σ Q := Ev_if rfl
theorem s_M_then_59 : Ev sh 218 59 [some (.ref i), a1, a2, a3, a4] st σ Q = Ev sh 218 60 [some (.ref i), a1, a2, a3, a4] (.ref i :: st) σ Q := Ev_step rfl
theorem s_M_then_60 (h : sh i = 9) : Ev sh 218 60 [a0, a1, a2, a3, a4] (.ref i :: st) σ Q = Ev sh 218 63 [a0, a1, a2, a3, a4] (.int (σ i 8) :: st) σ Q := Ev_h h rfl
theorem s_M_then_63 : Ev sh 218 63 [a0, a1, a2, a3, a4] st σ Q = Ev sh 218 78 [a0, a1, a2, a3, a4] st σ Q := Ev_step rfl
theorem s_M_then_66 : Ev sh 218 66 [some (.ref i), a1, a2, a3, a4] st σ Q = Ev sh 218 67 [some (.ref i), a1, a2, a3, a4] (.ref i :: st) σ Q := Ev_step rfl
theorem s_M_then_67 (h : sh i0 = 9) : Ev sh 218 67 [a0, a1, a2, a3, a4] [.ref i0] σ Q = Ev sh 198 0 [some (.ref i0)] [] σ (fun r s => Ev sh 218 70 [a0, a1, a2, a3, a4] (zpush r []) s Q) := Ev_callh (zrecv_of (by decide) h) rfl
theorem s_M_then_70 : Ev sh 218 70 [a0, a1, a2, a3, a4] (.int x :: st) σ Q = if x = 0 then Ev sh 218 77 [a0, a1, a2, a3, a4] st σ Q else Ev sh 218 73 [a0, a1, a2, a3, a4] st σ Q := Ev_if rfl
theorem s_M_then_73 : Ev sh 218 73 [a0, a1, a2, a3, a4] st σ Q = Ev sh 218 74 [a0, a1, a2, a3, a4] (.int 1 :: st) σ Q := Ev_step rfl
theorem s_M_then_74 : Ev sh 218 74 [a0, a1, a2, a3, a4] st σ Q = Ev sh 218 78 [a0, a1, a2, a3, a4] st σ Q := Ev_step rfl
theorem s_M_then_77 : Ev sh 218 77 [a0, a1, a2, a3, a4] st σ Q = Ev sh 218 78 [a0, a1, a2, a3, a4] (.int 0 :: st) σ Q := Ev_step rfl
theorem s_M_then_78 : Ev sh 218 78 [a0, a1, a2, a3, a4] (.int x :: st) σ Q = Ev sh 218 80 [a0, a1, a2, zdrop2 a3, some (.int x)] st σ Q := Ev_step rfl
theorem s_M_then_80 : Ev sh 218 80 [some (.ref i), a1, a2, a3, a4] st σ Q = Ev sh 218 81 [some (.ref i), a1, a2, a3, a4] (.ref i :: st) σ Q := Ev_step rfl
theorem s_M_then_81 (h : sh i0 = 9) : Ev sh 218 81 [a0, a1, a2, a3, a4] [.ref i0] σ Q = Ev sh 185 0 [some (.ref i0)] [] σ (fun r s => Ev sh 218 84 [a0, a1, a2, a3, a4] (zpush r []) s Q) := Ev_callh (zrecv_of (by decide) h) rfl
theorem s_M_then_84 : Ev sh 218 84 [a0, a1, a2, a3, some (.int x)] st σ Q = Ev sh 218 86 [a0, a1, a2, a3, some (.int x)] (.int x :: st) σ Q := Ev_step rfl
theorem s_M_then_86 : Ev sh 218 86 [a0, a1, a2, a3, a4] [.int x] σ Q = Q (some (.int x)) σ := Ev_ret rfl
theorem s_M_up_0 : Ev sh 219 0 [a0, some (.int x), a2, a3, a4] st σ Q = Ev sh 219 1 [a0, some (.int x), a2, a3, a4] (.int x :: st) σ Q := Ev_step rfl
theorem s_M_up_1 : Ev sh 219 1 [a0, a1, a2, a3, a4] st σ Q = Ev sh 219 2 [a0, a1, a2, a3, a4] (.int 0 :: st) σ Q := Ev_step rfl
theorem s_M_up_2 : Ev sh 219 2 [a0, a1, a2, a3, a4] st σ Q = Ev sh 219 3 [a0, a1, a2, a3, a4] (.int 1 :: st) σ Q := Ev_step rfl
theorem s_M_up_3 : Ev sh 219 3 [a0, a1, a2, a3, a4] [.int x2, .int x1, .int x0] σ Q = Ev sh 163 0 [some (.int x0), some (.int x1), some (.int x2)] [] σ (fun r s => Ev sh 219 6 [a0, a1, a2, a3, a4] (zpush r []) s Q) := Ev_call rfl
theorem s_M_up_6 : Ev sh 219 6 [a0, a1, a2, a3, a4] (.int x :: st) σ Q = if x ≠ 0 then Ev sh 219 16 [a0, a1, a2, a3, a4] st σ Q else Ev sh 219 9 [a0, a1, a2, a3, a4] st σ Q := Ev_if rfl
theorem s_M_up_9 : Ev sh 219 9 [some (.ref i), a1, a2, a3, a4] st σ Q = Ev sh 219 10 [some (.ref i), a1, a2, a3, a4] (.ref i :: st) σ Q := Ev_step rfl
theorem s_M_up_10 : Ev sh 219 10 [a0, a1, a2, a3, a4] st σ Q = Ev sh 219 12 [a0, a1, a2, a3, a4] (.int (-2) :: st) σ Q := Ev_step rfl
theorem s_M_up_12 (h : sh i0 = 9) : Ev sh 219 12 [a0, a1, a2, a3, a4] [.int x1, .ref i0] σ Q = Ev sh 160 0 [some (.ref i0), some (.int x1)] [] σ (fun r s => Ev sh 219 15 [a0, a1, a2, a3, a4] (zpush r []) s Q) := Ev_callh (zrecv_of (by decide) h) rfl
theorem s_M_up_15 : Ev sh 219 15 [a0, a1, a2, a3, a4] [.int x] σ Q = Q (some (.int x)) σ := Ev_ret rfl
theorem s_M_up_16 : Ev sh 219 16 [some (.ref i), a1, a2, a3, a4] st σ Q = Ev sh 219 17 [some (.ref i), a1, a2, a3, a4] (.ref i :: st) σ Q := Ev_step rfl
theorem s_M_up_17 (h : sh i0 = 9) : Ev sh 219 17 [a0, a1, a2, a3, a4] [.ref i0] σ Q = Ev sh 184 0 [some (.ref i0)] [] σ (fun r s => Ev sh 219 20 [a0, a1, a2, a3, a4] (zpush r []) s Q) := Ev_callh (zrecv_of (by decide) h) rfl
theorem s_M_up_20 : Ev sh 219 20 [a0, a1, a2, a3, a4] st σ Q = Ev sh 219 22 [a0, a1, a2, a3, a4] (.int (-9) :: st) σ Q := Ev_step rfl
theorem s_M_up_22 : Ev sh 219 22 [a0, a1, a2, a3, a4] (.int x :: st) σ Q = Ev sh 219 23 [a0, zdrop2 a1, some (.int x), a3, a4] st σ Q := Ev_step rfl
theorem s_M_up_23 : Ev sh 219 23 [a0, a1, a2, a3, a4] st σ Q = Ev sh 219 24 [a0, a1, a2, a3, a4] (.int 0 :: st) σ Q := Ev_step rfl
theorem s_M_up_24 : Ev sh 219 24 [a0, a1, a2, a3, a4] (.int x :: st) σ Q = Ev sh 219 25 [a0, a1, zdrop2 a2, some (.int x), a4] st σ Q := Ev_step rfl
theorem s_M_up_25 : Ev sh 219 25 [a0, a1, a2, some (.int x), a4] st σ Q = Ev sh 219 26 [a0, a1, a2, some (.int x), a4] (.int x :: st) σ Q := Ev_step rfl
theorem s_M_up_26 : Ev sh 219 26 [a0, a1, a2, a3, a4] st σ Q = Ev sh 219 28 [a0, a1, a2, a3, a4] (.int 60 :: st) σ Q := Ev_step rfl
theorem s_M_up_28 : Ev sh 219 28 [a0, a1, a2, a3, a4] (.int y :: .int x :: st) σ Q = if y < x then Ev sh 219 100 [a0, a1, a2, a3, a4] st σ Q else Ev sh 219 31 [a0, a1, a2, a3, a4] st σ Q := Ev_if rfl
theorem s_M_up_31 : Ev sh 219 31 [a0, a1, some (.int x), a3, a4] st σ Q = Ev sh 219 32 [a0, a1, some (.int x), a3, a4] (.int x :: st) σ Q := Ev_step rfl
theorem s_M_up_32 : Ev sh 219 32 [a0, a1, a2, a3, a4] (.int x :: st) σ Q = if 0 ≤ x then Ev sh 219 100 [a0, a1, a2, a3, a4] st σ Q else Ev sh 219 35 [a0, a1, a2, a3, a4] st σ Q := Ev_if rfl
theorem s_M_up_35 : Ev sh 219 35 [a0, some (.int x), a2, a3, a4] st σ Q = Ev sh 219 36 [a0, some (.int x), a2, a3, a4] (.int x :: st) σ Q := Ev_step rfl
theorem s_M_up_36 : Ev sh 219 36 [a0, a1, a2, a3, a4] (.int x :: st) σ Q = if x ≠ 0 then Ev sh 219 63 [a0, a1, a2, a3, a4] st σ Q else Ev sh 219 39 [a0, a1, a2, a3, a4] st σ Q := Ev_if rfl
theorem s_M_up_39 : Ev sh 219 39 [some (.ref i), a1, a2, a3, a4] st σ Q = Ev sh 219 40 [some (.ref i), a1, a2, a3, a4] (.ref i :: st) σ Q := Ev_step rfl
theorem s_M_up_40 (h : sh i = 9) : Ev sh 219 40 [a0, a1, a2, a3, a4] (.ref i :: st) σ Q = Ev sh 219 43 [a0, a1, a2, a3, a4] (.int (σ i 7) :: st) σ Q := Ev_h h rfl
theorem s_M_up_43 : Ev sh 219 43 [a0, a1, a2, a3, a4] st σ Q = Ev sh 219 45 [a0, a1, a2, a3, a4] (.int 12 :: st) σ Q := Ev_step rfl
theorem s_M_up_45 : Ev sh 219 45 [a0, a1, a2, a3, a4] (.int y :: .int x :: st) σ Q = if x ≠ y then Ev sh 219 59 [a0, a1, a2, a3, a4] st σ Q else Ev sh 219 48 [a0, a1, a2, a3, a4] st σ Q := Ev_if rfl
theorem s_M_up_48 : Ev sh 219 48 [some (.ref i), a1, a2, a3, a4] st σ Q = Ev sh 219 49 [some (.ref i), a1, a2, a3, a4] (.ref i :: st) σ Q := Ev_step rfl
theorem s_M_up_49 (h : sh i0 = 9) : Ev sh 219 49 [a0, a1, a2, a3, a4] [.ref i0] σ Q = Ev sh 198 0 [some (.ref i0)] [] σ (fun r s => Ev sh 219 52 [a0, a1, a2, a3, a4] (zpush r []) s Q) := Ev_callh (zrecv_of (by decide) h) rfl
theorem s_M_up_52 : Ev sh 219 52 [a0, a1, a2, a3, a4] (.int x :: st) σ Q = if x = 0 then Ev sh 219 59 [a0, a1, a2, a3, a4] st σ Q else Ev sh 219 55 [a0, a1, a2, a3, a4] st σ Q := Ev_if rfl
theorem s_M_up_55 : Ev sh 219 55 [a0, a1, a2, a3, a4] st σ Q = Ev sh 219 56 [a0, a1, a2, a3, a4] (.int 1 :: st) σ Q := Ev_step rfl
theorem s_M_up_56 : Ev sh 219 56 [a0, a1, a2, a3, a4] st σ Q = Ev sh 219 75 [a0, a1, a2, a3, a4] st σ Q := Ev_step rfl
theorem s_M_up_59 : Ev sh 219 59 [a0, a1, a2, a3, a4] st σ Q = Ev sh 219 60 [a0, a1, a2, a3, a4] (.int 0 :: st) σ Q := Ev_step rfl
theorem s_M_up_60 : Ev sh 219 60 [a0, a1, a2, a3, a4] st σ Q = Ev sh 219 75 [a0, a1, a2, a3, a4] st σ Q := Ev_step rfl
theorem s_M_up_63 : Ev sh 219 63 [some (.ref i), a1, a2, a3, a4] st σ Q = Ev sh 219 64 [some (.ref i), a1, a2, a3, a4] (.ref i :: st) σ Q := Ev_step rfl
theorem s_M_up_64 (h : sh i0 = 9) : Ev sh 219 64 [a0, a1, a2, a3, a4] [.ref i0] σ Q = Ev sh 198 0 [some (.ref i0)] [] σ (fun r s => Ev sh 219 67 [a0, a1, a2, a3, a4] (zpush r []) s Q) := Ev_callh (zrecv_of (by decide) h) rfl
theorem s_M_up_67 : Ev sh 219 67 [a0, a1, a2, a3, a4] (.int x :: st) σ Q = if x ≠ 0 then Ev sh 219 74 [a0, a1, a2, a3, a4] st σ Q else Ev sh 219 70 [a0, a1, a2, a3, a4] st σ Q := Ev_if rfl
theorem s_M_up_70 : Ev sh 219 70 [a0, a1, a2, a3, a4] st σ Q = Ev sh 219 71 [a0, a1, a2, a3, a4] (.int 1 :: st) σ Q := Ev_step rfl
theorem s_M_up_71 : Ev sh 219 71 [a0, a1, a2, a3, a4] st σ Q = Ev sh 219 75 [a0, a1, a2, a3, a4] st σ Q := Ev_step rfl
theorem s_M_up_74 : Ev sh 219 74 [a0, a1, a2, a3, a4] st σ Q = Ev sh 219 75 [a0, a1, a2, a3, a4] (.int 0 :: st) σ Q := Ev_step rfl
theorem s_M_up_75 : Ev sh 219 75 [a0, a1, a2, a3, a4] (.int x :: st) σ Q = Ev sh 219 77 [a0, a1, a2, zdrop2 a3, some (.int x)] st σ Q := Ev_step rfl
theorem s_M_up_77 : Ev sh 219 77 [a0, a1, a2, a3, some (.int x)] st σ Q = Ev sh 219 79 [a0, a1, a2, a3, some (.int x)] (.int x :: st) σ Q := Ev_step rfl
theorem s_M_up_79 : Ev sh 219 79 [a0, a1, a2, a3, a4] (.int x :: st) σ Q = if x = 0 then Ev sh 219 86 [a0, a1, a2, a3, a4] st σ Q else Ev sh 219 82 [a0, a1, a2, a3, a4] st σ Q := Ev_if rfl
theorem s_M_up_82 : Ev sh 219 82 [a0, a1, a2, some (.int x), a4] st σ Q = Ev sh 219 83 [a0, a1, a2, some (.int x), a4] (.int x :: st) σ Q := Ev_step rfl
theorem s_M_up_83 : Ev sh 219 83 [a0, a1, a2, a3, a4] st σ Q = Ev sh 219 88 [a0, a1, a2, a3, a4] st σ Q := Ev_step rfl
theorem s_M_up_86 : Ev sh 219 86 [a0, a1, a2, a3, a4] st σ Q = Ev sh 219 88 [a0, a1, a2, a3, a4] (.int (-9) :: st) σ Q := Ev_step rfl
theorem s_M_up_88 : Ev sh 219 88 [a0, a1, a2, a3, a4] (.int x :: st) σ Q = Ev sh 219 89 [a0, zdrop2 a1, some (.int x), a3, a4] st σ Q := Ev_step rfl
theorem s_M_up_89 : Ev sh 219 89 [some (.ref i), a1, a2, a3, a4] st σ Q = Ev sh 219 90 [some (.ref i), a1, a2, a3, a4] (.ref i :: st) σ Q := Ev_step rfl
theorem s_M_up_90 : Ev sh 219 90 [a0, a1, a2, a3, a4] st σ Q = Ev sh 219 91 [a0, a1, a2, a3, a4] (.int 0 :: st) σ Q := Ev_step rfl
theorem s_M_up_91 (h : sh i0 = 9) : Ev sh 219 91 [a0, a1, a2, a3, a4] [.int x1, .ref i0] σ Q = Ev sh 202 0 [some (.ref i0), some (.int x1)] [] σ (fun r s => Ev sh 219 94 [a0, a1, a2, a3, a4] (zpush r []) s Q) := Ev_callh (zrecv_of (by decide) h) rfl
theorem s_M_up_94 : Ev sh 219 94 [a0, a1, a2, some (.int x), a4] st σ Q = Ev sh 219 97 [a0, a1, a2, some (.int (x + 1)), a4] st σ Q := Ev_step rfl
theorem s_M_up_97 : Ev sh 219 97 [a0, a1, a2, a3, a4] st σ Q = Ev sh 219 25 [a0, a1, a2, a3, a4] st σ Q := Ev_step rfl
theorem s_M_up_100 : Ev sh 219 100 [some (.ref i), a1, a2, a3, a4] st σ Q = Ev sh 219 101 [some (.ref i), a1, a2, a3, a4] (.ref i :: st) σ Q := Ev_step rfl
theorem s_M_up_101 (h : sh i0 = 9) : Ev sh 219 101 [a0, a1, a2, a3, a4] [.ref i0] σ Q = Ev sh 185 0 [some (.ref i0)] [] σ (fun r s => Ev sh 219 104 [a0, a1, a2, a3, a4] (zpush r []) s Q) := Ev_callh (zrecv_of (by decide) h) rfl
theorem s_M_up_104 : Ev sh 219 104 [a0, a1, some (.int x), a3, a4] st σ Q = Ev sh 219 105 [a0, a1, some (.int x), a3, a4] (.int x :: st) σ Q := Ev_step rfl
theorem s_M_up_105 : Ev sh 219 105 [a0, a1, a2, a3, a4] [.int x] σ Q = Q (some (.int x)) σ := Ev_ret rfl
theorem s_M_next_0 : Ev sh 220 0 [a0, some (.int x), a2, a3, a4, a5, a6] st σ Q = Ev sh 220 1 [a0, some (.int x), a2, a3, a4, a5, a6] (.int x :: st) σ Q := Ev_step rfl
theorem s_M_next_1 : Ev sh 220 1 [a0, a1, a2, a3, a4, a5, a6] [.int x0] σ Q = Ev sh 169 0 [some (.int x0)] [] σ (fun r s => Ev sh 220 4 [a0, a1, a2, a3, a4, a5, a6] (zpush r []) s Q) := Ev_call rfl
theorem s_M_next_4 : Ev sh 220 4 [a0, a1, a2, a3, a4, a5, a6] (.int x :: st) σ Q = if x ≠ 0 then Ev sh 220 13 [a0, a1, a2, a3, a4, a5, a6] st σ Q else Ev sh 220 7 [a0, a1, a2, a3, a4, a5, a6] st σ Q := Ev_if rfl
theorem s_M_next_7 : Ev sh 220 7 [some (.ref i), a1, a2, a3, a4, a5, a6] st σ Q = Ev sh 220 8 [some (.ref i), a1, a2, a3, a4, a5, a6] (.ref i :: st) σ Q := Ev_step rfl
theorem s_M_next_8 : Ev sh 220 8 [a0, a1, a2, a3, a4, a5, a6] st σ Q = Ev sh 220 9 [a0, a1, a2, a3, a4, a5, a6] (.int (-1) :: st) σ Q := Ev_step rfl
theorem s_M_next_9 (h : sh i0 = 9) : Ev sh 220 9 [a0, a1, a2, a3, a4, a5, a6] [.int x1, .ref i0] σ Q = Ev sh 160 0 [some (.ref i0), some (.int x1)] [] σ (fun r s => Ev sh 220 12 [a0, a1, a2, a3, a4, a5, a6] (zpush r []) s Q) := Ev_callh (zrecv_of (by decide) h) rfl
theorem s_M_next_12 : Ev sh 220 12 [a0, a1, a2, a3, a4, a5, a6] [.int x] σ Q = Q (some (.int x)) σ := Ev_ret rfl
theorem s_M_next_13 : Ev sh 220 13 [a0, a1, a2, a3, a4, a5, a6] st σ Q = Ev sh 220 15 [a0, a1, a2, a3, a4, a5, a6] (.int (-9) :: st) σ Q := Ev_step rfl
theorem s_M_next_15 : Ev sh 220 15 [a0, a1, a2, a3, a4, a5, a6] (.int x :: st) σ Q = Ev sh 220 16 [a0, zdrop2 a1, some (.int x), a3, a4, a5, a6] st σ Q := Ev_step rfl
theorem s_M_next_16 : Ev sh 220 16 [a0, a1, a2, a3, a4, a5, a6] st σ Q = Ev sh 220 17 [a0, a1, a2, a3, a4, a5, a6] (.int 0 :: st) σ Q := Ev_step rfl
theorem s_M_next_17 : Ev sh 220 17 [a0, a1, a2, a3, a4, a5, a6] (.int x :: st) σ Q = Ev sh 220 18 [a0, a1, zdrop2 a2, some (.int x), a4, a5, a6] st σ Q := Ev_step rfl
theorem s_M_next_18 : Ev sh 220 18 [a0, a1, a2, a3, a4, a5, a6] st σ Q = Ev sh 220 19 [a0, a1, a2, a3, a4, a5, a6] (.int 0 :: st) σ Q := Ev_step rfl
theorem s_M_next_19 : Ev sh 220 19 [a0, a1, a2, a3, a4, a5, a6] (.int x :: st) σ Q = Ev sh 220 21 [a0, a1, a2, zdrop2 a3, some (.int x), a5, a6] st σ Q := Ev_step rfl
theorem s_M_next_21 : Ev sh 220 21 [a0, a1, a2, a3, some (.int x), a5, a6] st σ Q = Ev sh 220 23 [a0, a1, a2, a3, some (.int x), a5, a6] (.int x :: st) σ Q := Ev_step rfl
theorem s_M_next_23 : Ev sh 220 23 [a0, a1, a2, a3, a4, a5, a6] st σ Q = Ev sh 220 25 [a0, a1, a2, a3, a4, a5, a6] (.int 6 :: st) σ Q := Ev_step rfl
theorem s_M_next_25 : Ev sh 220 25 [a0, a1, a2, a3, a4, a5, a6] (.int y :: .int x :: st) σ Q = if y ≤ x then Ev sh 220 107 [a0, a1, a2, a3, a4, a5, a6] st σ Q else Ev sh 220 28 [a0, a1, a2, a3, a4, a5, a6] st σ Q := Ev_if rfl
theorem s_M_next_28 : Ev sh 220 28 [some (.ref i), a1, a2, a3, a4, a5, a6] st σ Q = Ev sh 220 29 [some (.ref i), a1, a2, a3, a4, a5, a6] (.ref i :: st) σ Q := Ev_step rfl
theorem s_M_next_29 : Ev sh 220 29 [a0, a1, a2, a3, some (.int x), a5, a6] st σ Q = Ev sh 220 31 [a0, a1, a2, a3, some (.int x), a5, a6] (.int x :: st) σ Q := Ev_step rfl
theorem s_M_next_31 : Ev sh 220 31 [a0, a1, a2, a3, a4, a5, a6] st σ Q = Ev sh 220 32 [a0, a1, a2, a3, a4, a5, a6] (.int 5 :: st) σ Q := Ev_step rfl
theorem s_M_next_32 : Ev sh 220 32 [a0, some (.int x), a2, a3, a4, a5, a6] st σ Q = Ev sh 220 33 [a0, some (.int x), a2, a3, a4, a5, a6] (.int x :: st) σ Q := Ev_step rfl
theorem s_M_next_33 (h : sh i0 = 9) : Ev sh 220 33 [a0, a1, a2, a3, a4, a5, a6] [.int x3, .int x2, .int x1, .ref i0] σ Q = Ev sh 188 0 [some (.ref i0), some (.int x1), some (.int x2), some (.int x3)] [] σ (fun r s => Ev sh 220 36 [a0, a1, a2, a3, a4, a5, a6] (zpush r []) s Q) := Ev_callh (zrecv_of (by decide) h) rfl
theorem s_M_next_36 : Ev sh 220 36 [some (.ref i), a1, a2, a3, a4, a5, a6] st σ Q = Ev sh 220 37 [some (.ref i), a1, a2, a3, a4, a5, a6] (.ref i :: st) σ Q := Ev_step rfl
theorem s_M_next_37 : Ev sh 220 37 [some (.ref i), a1, a2, a3, a4, a5, a6] st σ Q = Ev sh 220 38 [some (.ref i), a1, a2, a3, a4, a5, a6] (.ref i :: st) σ Q := Ev_step rfl
theorem s_M_next_38 (h : sh i = 9) : Ev sh 220 38 [a0, a1, a2, a3, a4, a5, a6] (.ref i :: st) σ Q = Ev sh 220 41 [a0, a1, a2, a3, a4, a5, a6] (.int (σ i 7) :: st) σ Q := Ev_h h rfl
theorem s_M_next_41 : Ev sh 220 41 [a0, a1, a2, a3, a4, a5, a6] st σ Q = Ev sh 220 42 [a0, a1, a2, a3, a4, a5, a6] (.int 1 :: st) σ Q := Ev_step rfl
theorem s_M_next_42 : Ev sh 220 42 [a0, a1, a2, a3, a4, a5, a6] (.int y :: .int x :: st) σ Q = Ev sh 220 43 [a0, a1, a2, a3, a4, a5, a6] (.int (x - y) :: st) σ Q := Ev_step rfl
theorem s_M_next_43 (h : sh i0 = 9) : Ev sh 220 43 [a0, a1, a2, a3, a4, a5, a6] [.int x1, .ref i0] σ Q = Ev sh 192 0 [some (.ref i0), some (.int x1), none, none] [] σ (fun r s => Ev sh 220 46 [a0, a1, a2, a3, a4, a5, a6] (zpush r []) s Q) := Ev_callh (zrecv_of (by decide) h) rfl
theorem s_M_next_46 : Ev sh 220 46 [a0, a1, a2, a3, a4, a5, a6] [.int x0] σ Q = Ev sh 166 0 [some (.int x0)] [] σ (fun r s => Ev sh 220 49 [a0, a1, a2, a3, a4, a5, a6] (zpush r []) s Q) := Ev_call rfl
theorem s_M_next_49 : Ev sh 220 49 [a0, a1, a2, a3, a4, a5, a6] st σ Q = Ev sh 220 51 [a0, a1, a2, a3, a4, a5, a6] (.int 6 :: st) σ Q := Ev_step rfl
theorem s_M_next_51 : Ev sh 220 51 [a0, a1, a2, a3, a4, a5, a6] (.int y :: .int x :: st) σ Q = if y < x then Ev sh 220 58 [a0, a1, a2, a3, a4, a5, a6] st σ Q else Ev sh 220 54 [a0, a1, a2, a3, a4, a5, a6] st σ Q := Ev_if rfl
theorem s_M_next_54 : Ev sh 220 54 [a0, a1, a2, a3, a4, a5, a6] st σ Q = Ev sh 220 55 [a0, a1, a2, a3, a4, a5, a6] (.int 1 :: st) σ Q := Ev_step rfl
theorem s_M_next_55 : Ev sh 220 55 [a0, a1, a2, a3, a4, a5, a6] st σ Q = Ev sh 220 59 [a0, a1, a2, a3, a4, a5, a6] st σ Q := Ev_step rfl
theorem s_M_next_58 : Ev sh 220 58 [a0, a1, a2, a3, a4, a5, a6] st σ Q = Ev sh 220 59 [a0, a1, a2, a3, a4, a5, a6] (.int 0 :: st) σ Q := Ev_step rfl
theorem s_M_next_59 : Ev sh 220 59 [a0, a1, a2, a3, a4, a5, a6] (.int x :: st) σ Q = Ev sh 220 61 [a0, a1, a2, a3, zdrop2 a4, some (.int x), a6] st σ Q := Ev_step rfl
theorem s_M_next_61 : Ev sh 220 61 [some (.ref i), a1, a2, a3, a4, a5, a6] st σ Q = Ev sh 220 62 [some (.ref i), a1, a2, a3, a4, a5, a6] (.ref i :: st) σ Q := Ev_step rfl
theorem s_M_next_62 (h : sh i0 = 9) : Ev sh 220 62 [a0, a1, a2, a3, a4, a5, a6] [.ref i0] σ Q = Ev sh 200 0 [some (.ref i0)] [] σ (fun r s => Ev sh 220 65 [a0, a1, a2, a3, a4, a5, a6] (zpush r []) s Q) := Ev_callh (zrecv_of (by decide) h) rfl
theorem s_M_next_65 : Ev sh 220 65 [a0, a1, a2, a3, a4, a5, a6] (.int x :: st) σ Q = Ev sh 220 67 [a0, a1, a2, a3, a4, zdrop2 a5, some (.int x)] st σ Q := Ev_step rfl
theorem s_M_next_67 : Ev sh 220 67 [some (.ref i), a1, a2, a3, a4, a5, a6] st σ Q = Ev sh 220 68 [some (.ref i), a1, a2, a3, a4, a5, a6] (.ref i :: st) σ Q := Ev_step rfl
theorem s_M_next_68 : Ev sh 220 68 [a0, a1, a2, a3, a4, a5, a6] (.ref i :: st) σ Q = Ev sh 220 69 [a0, a1, a2, a3, a4, a5, a6] (.ref i :: .ref i :: st) σ Q := Ev_step rfl
theorem s_M_next_69 (h : sh i = 9) : Ev sh 220 69 [a0, a1, a2, a3, a4, a5, a6] (.ref i :: st) σ Q = Ev sh 220 72 [a0, a1, a2, a3, a4, a5, a6] (.int (σ i 7) :: st) σ Q := Ev_h h rfl
theorem s_M_next_72 : Ev sh 220 72 [a0, a1, a2, a3, a4, a5, a6] st σ Q = Ev sh 220 73 [a0, a1, a2, a3, a4, a5, a6] (.int 1 :: st) σ Q := Ev_step rfl
theorem s_M_next_73 : Ev sh 220 73 [a0, a1, a2, a3, a4, a5, a6] (.int y :: .int x :: st) σ Q = Ev sh 220 74 [a0, a1, a2, a3, a4, a5, a6] (.int (x - y) :: st) σ Q := Ev_step rfl
theorem s_M_next_74 (h : sh i = 9) : Ev sh 220 74 [a0, a1, a2, a3, a4, a5, a6] (.int x :: .ref i :: st) σ Q = Ev sh 220 77 [a0, a1, a2, a3, a4, a5, a6] st (zup σ i 7 x) Q := Ev_h h rfl
theorem s_M_next_77 : Ev sh 220 77 [a0, a1, a2, a3, a4, some (.int x), a6] st σ Q = Ev sh 220 79 [a0, a1, a2, a3, a4, some (.int x), a6] (.int x :: st) σ Q := Ev_step rfl
theorem s_M_next_79 : Ev sh 220 79 [a0, a1, a2, a3, a4, a5, a6] (.int x :: st) σ Q = if x = 0 then Ev sh 220 101 [a0, a1, a2, a3, a4, a5, a6] st σ Q else Ev sh 220 82 [a0, a1, a2, a3, a4, a5, a6] st σ Q := Ev_if rfl
theorem s_M_next_82 : Ev sh 220 82 [a0, a1, some (.int x), a3, a4, a5, a6] st σ Q = Ev sh 220 83 [a0, a1, some (.int x), a3, a4, a5, a6] (.int x :: st) σ Q := Ev_step rfl
theorem s_M_next_83 : Ev sh 220 83 [a0, a1, a2, a3, a4, a5, a6] (.int x :: st) σ Q = if x < 0 then Ev sh 220 95 [a0, a1, a2, a3, a4, a5, a6] st σ Q else Ev sh 220 86 [a0, a1, a2, a3, a4, a5, a6] st σ Q := Ev_if rfl
theorem s_M_next_86 : Ev sh 220 86 [a0, a1, a2, a3, a4, a5, some (.int x)] st σ Q = Ev sh 220 88 [a0, a1, a2, a3, a4, a5, some (.int x)] (.int x :: st) σ Q := Ev_step rfl
theorem s_M_next_88 : Ev sh 220 88 [a0, a1, a2, some (.int x), a4, a5, a6] st σ Q = Ev sh 220 89 [a0, a1, a2, some (.int x), a4, a5, a6] (.int x :: st) σ Q := Ev_step rfl
theorem s_M_next_89 : Ev sh 220 89 [a0, a1, a2, a3, a4, a5, a6] (.int y :: .int x :: st) σ Q = if y < x then Ev sh 220 95 [a0, a1, a2, a3, a4, a5, a6] st σ Q else Ev sh 220 92 [a0, a1, a2, a3, a4, a5, a6] st σ Q := Ev_if rfl
theorem s_M_next_92 : Ev sh 220 92 [a0, a1, a2, a3, a4, a5, a6] st σ Q = Ev sh 220 101 [a0, a1, a2, a3, a4, a5, a6] st σ Q := Ev_step rfl
theorem s_M_next_95 : Ev sh 220 95 [a0, a1, a2, a3, some (.int x), a5, a6] st σ Q = Ev sh 220 97 [a0, a1, a2, a3, some (.int x), a5, a6] (.int x :: st) σ Q := Ev_step rfl
theorem s_M_next_97 : Ev sh 220 97 [a0, a1, a2, a3, a4, a5, a6] (.int x :: st) σ Q = Ev sh 220 98 [a0, zdrop2 a1, some (.int x), a3, a4, a5, a6] st σ Q := Ev_step rfl
theorem s_M_next_98 : Ev sh 220 98 [a0, a1, a2, a3, a4, a5, some (.int x)] st σ Q = Ev sh 220 100 [a0, a1, a2, a3, a4, a5, some (.int x)] (.int x :: st) σ Q := Ev_step rfl
theorem s_M_next_100 : Ev sh 220 100 [a0, a1, a2, a3, a4, a5, a6] (.int x :: st) σ Q = Ev sh 220 101 [a0, a1, zdrop2 a2, some (.int x), a4, a5, a6] st σ Q := Ev_step rfl
theorem s_M_next_101 : Ev sh 220 101 [a0, a1, a2, a3, some (.int x), a5, a6] st σ Q = Ev sh 220 104 [a0, a1, a2, a3, some (.int (x + 1)), a5, a6] st σ Q := Ev_step rfl
theorem s_M_next_104 : Ev sh 220 104 [a0, a1, a2, a3, a4, a5, a6] st σ Q = Ev sh 220 21 [a0, a1, a2, a3, a4, a5, a6] st σ Q := Ev_step rfl
theorem s_M_next_107 : Ev sh 220 107 [a0, a1, some (.int x), a3, a4, a5, a6] st σ Q = Ev sh 220 108 [a0, a1, some (.int x), a3, a4, a5, a6] (.int x :: st) σ Q := Ev_step rfl
theorem s_M_next_108 : Ev sh 220 108 [a0, a1, a2, a3, a4, a5, a6] [.int x] σ Q = Q (some (.int x)) σ := Ev_ret rfl
theorem s_M_isMendedBy_0 : Ev sh 221 0 [some (.ref i), a1, a2, a3, a4] st σ Q = Ev sh 221 1 [some (.ref i), a1, a2, a3, a4] (.ref i :: st) σ Q := Ev_step rfl
theorem s_M_isMendedBy_1 (h : sh i = 9) : Ev sh 221 1 [a0, a1, a2, a3, a4] (.ref i :: st) σ Q = Ev sh 221 4 [a0, a1, a2, a3, a4] (.ref 2 :: st) σ Q := Ev_h h rfl
theorem s_M_isMendedBy_4 : Ev sh 221 4 [a0, some (.int x), a2, a3, a4] st σ Q = Ev sh 221 5 [a0, some (.int x), a2, a3, a4] (.int x :: st) σ Q := Ev_step rfl
theorem s_M_isMendedBy_5 (h : zin x (sh i) = true) : Ev sh 221 5 [a0, a1, a2, a3, a4] (.int x :: .ref i :: st) σ Q = Ev sh 221 6 [a0, a1, a2, a3, a4] (.int (σ i x.toNatClampNeg) :: st) σ Q := Ev_h h rfl
theorem s_M_isMendedBy_6 : Ev sh 221 6 [a0, a1, a2, a3, a4] (.int x :: st) σ Q = Ev sh 221 7 [a0, a1, zdrop2 a2, some (.int x), a4] st σ Q := Ev_step rfl
theorem s_M_isMendedBy_7 : Ev sh 221 7 [some (.ref i), a1, a2, a3, a4] st σ Q = Ev sh 221 8 [some (.ref i), a1, a2, a3, a4] (.ref i :: st) σ Q := Ev_step rfl
theorem s_M_isMendedBy_8 (h : sh i = 9) : Ev sh 221 8 [a0, a1, a2, a3, a4] (.ref i :: st) σ Q = Ev sh 221 11 [a0, a1, a2, a3, a4] (.ref 2 :: st) σ Q := Ev_h h rfl
theorem s_M_isMendedBy_11 : Ev sh 221 11 [a0, some (.int x), a2, a3, a4] st σ Q = Ev sh 221 12 [a0, some (.int x), a2, a3, a4] (.int x :: st) σ Q := Ev_step rfl
theorem s_M_isMendedBy_12 : Ev sh 221 12 [a0, a1, some (.int x), a3, a4] st σ Q = Ev sh 221 13 [a0, a1, some (.int x), a3, a4] (.int x :: st) σ Q := Ev_step rfl
theorem s_M_isMendedBy_13 (h : zin x (sh i) = true) : Ev sh 221 13 [a0, a1, a2, a3, a4] (.int y :: .int x :: .ref i :: st) σ Q = Ev sh 221 14 [a0, a1, a2, a3, a4] st (zup σ i x.toNatClampNeg y) Q := Ev_h h rfl
theorem s_M_isMendedBy_14 : Ev sh 221 14 [some (.ref i), a1, a2, a3, a4] st σ Q = Ev sh 221 15 [some (.ref i), a1, a2, a3, a4] (.ref i :: st) σ Q := Ev_step rfl
theorem s_M_isMendedBy_15 (h : sh i0 = 9) : Ev sh 221 15 [a0, a1, a2, a3, a4] [.ref i0] σ Q = Ev sh 198 0 [some (.ref i0)] [] σ (fun r s => Ev sh 221 18 [a0, a1, a2, a3, a4] (zpush r []) s Q) := Ev_callh (zrecv_of (by decide) h) rfl
theorem s_M_isMendedBy_18 : Ev sh 221 18 [a0, a1, a2, a3, a4] (.int x :: st) σ Q = Ev sh 221 20 [a0, a1, a2, zdrop2 a3, some (.int x)] st σ Q := Ev_step rfl
theorem s_M_isMendedBy_20 : Ev sh 221 20 [some (.ref i), a1, a2, a3, a4] st σ Q = Ev sh 221 21 [some (.ref i), a1, a2, a3, a4] (.ref i :: st) σ Q := Ev_step rfl
theorem s_M_isMendedBy_21 (h : sh i = 9) : Ev sh 221 21 [a0, a1, a2, a3, a4] (.ref i :: st) σ Q = Ev sh 221 24 [a0, a1, a2, a3, a4] (.ref 2 :: st) σ Q := Ev_h h rfl
theorem s_M_isMendedBy_24 : Ev sh 221 24 [a0, some (.int x), a2, a3, a4] st σ Q = Ev sh 221 25 [a0, some (.int x), a2, a3, a4] (.int x :: st) σ Q := Ev_step rfl
theorem s_M_isMendedBy_25 : Ev sh 221 25 [a0, a1, a2, some (.int x), a4] st σ Q = Ev sh 221 26 [a0, a1, a2, some (.int x), a4] (.int x :: st) σ Q := Ev_step rfl
theorem s_M_isMendedBy_26 (h : zin x (sh i) = true) : Ev sh 221 26 [a0, a1, a2, a3, a4] (.int y :: .int x :: .ref i :: st) σ Q = Ev sh 221 27 [a0, a1, a2, a3, a4] st (zup σ i x.toNatClampNeg y) Q := Ev_h h rfl
theorem s_M_isMendedBy_27 : Ev sh 221 27 [a0, a1, a2, a3, some (.int x)] st σ Q = Ev sh 221 29 [a0, a1, a2, a3, some (.int x)] (.int x :: st) σ Q := Ev_step rfl
theorem s_M_isMendedBy_29 (h : x = 0 ∨ x = 1) : Ev sh 221 29 [a0, a1, a2, a3, a4] [.int x] σ Q = Q (some (.int x)) σ := Ev_rh h rfl
theorem s_M_mend_0 : Ev sh 222 0 [some (.ref i), a1, a2] st σ Q = Ev sh 222 1 [some (.ref i), a1, a2] (.ref i :: st) σ Q := Ev_step rfl
theorem s_M_mend_1 (h : sh i0 = 9) : Ev sh 222 1 [a0, a1, a2] [.ref i0] σ Q = Ev sh 198 0 [some (.ref i0)] [] σ (fun r s => Ev sh 222 4 [a0, a1, a2] (zpush r []) s Q) := Ev_callh (zrecv_of (by decide) h) rfl
theorem s_M_mend_4 : Ev sh 222 4 [a0, a1, a2] (.int x :: st) σ Q = if x = 0 then Ev sh 222 10 [a0, a1, a2] st σ Q else Ev sh 222 7 [a0, a1, a2] st σ Q := Ev_if rfl
theorem s_M_mend_7 : Ev sh 222 7 [a0, a1, a2] st σ Q = Ev sh 222 9 [a0, a1, a2] (.int (-9) :: st) σ Q := Ev_step rfl
theorem s_M_mend_9 : Ev sh 222 9 [a0, a1, a2] [.int x] σ Q = Q (some (.int x)) σ := Ev_ret rfl
theorem s_M_mend_10 : Ev sh 222 10 [a0, a1, a2] st σ Q = Ev sh 222 11 [a0, a1, a2] (.int 0 :: st) σ Q := Ev_step rfl
theorem s_M_mend_11 : Ev sh 222 11 [a0, a1, a2] (.int x :: st) σ Q = Ev sh 222 12 [zdrop2 a0, some (.int x), a2] st σ Q := Ev_step rfl
theorem s_M_mend_12 : Ev sh 222 12 [a0, some (.int x), a2] st σ Q = Ev sh 222 13 [a0, some (.int x), a2] (.int x :: st) σ Q := Ev_step rfl
theorem s_M_mend_13 : Ev sh 222 13 [some (.ref i), a1, a2] st σ Q = Ev sh 222 14 [some (.ref i), a1, a2] (.ref i :: st) σ Q := Ev_step rfl
theorem s_M_mend_14 (h : sh i = 9) : Ev sh 222 14 [a0, a1, a2] (.ref i :: st) σ Q = Ev sh 222 17 [a0, a1, a2] (.int (σ i 7) :: st) σ Q := Ev_h h rfl
theorem s_M_mend_17 : Ev sh 222 17 [a0, a1, a2] (.int y :: .int x :: st) σ Q = if y ≤ x then Ev sh 222 56 [a0, a1, a2] st σ Q else Ev sh 222 20 [a0, a1, a2] st σ Q := Ev_if rfl
theorem s_M_mend_20 : Ev sh 222 20 [a0, a1, a2] st σ Q = Ev sh 222 21 [a0, a1, a2] (.int 0 :: st) σ Q := Ev_step rfl
theorem s_M_mend_21 : Ev sh 222 21 [a0, a1, a2] (.int x :: st) σ Q = Ev sh 222 22 [a0, zdrop2 a1, some (.int x)] st σ Q := Ev_step rfl
theorem s_M_mend_22 : Ev sh 222 22 [a0, a1, some (.int x)] st σ Q = Ev sh 222 23 [a0, a1, some (.int x)] (.int x :: st) σ Q := Ev_step rfl
theorem s_M_mend_23 : Ev sh 222 23 [a0, a1, a2] st σ Q = Ev sh 222 25 [a0, a1, a2] (.int 6 :: st) σ Q := Ev_step rfl
theorem s_M_mend_25 : Ev sh 222 25 [a0, a1, a2] (.int y :: .int x :: st) σ Q = if y ≤ x then Ev sh 222 50 [a0, a1, a2] st σ Q else Ev sh 222 28 [a0, a1, a2] st σ Q := Ev_if rfl
theorem s_M_mend_28 : Ev sh 222 28 [some (.ref i), a1, a2] st σ Q = Ev sh 222 29 [some (.ref i), a1, a2] (.ref i :: st) σ Q := Ev_step rfl
theorem s_M_mend_29 : Ev sh 222 29 [a0, some (.int x), a2] st σ Q = Ev sh 222 30 [a0, some (.int x), a2] (.int x :: st) σ Q := Ev_step rfl
theorem s_M_mend_30 : Ev sh 222 30 [a0, a1, some (.int x)] st σ Q = Ev sh 222 31 [a0, a1, some (.int x)] (.int x :: st) σ Q := Ev_step rfl
theorem s_M_mend_31 (h : sh i0 = 9) : Ev sh 222 31 [a0, a1, a2] [.int x2, .int x1, .ref i0] σ Q = Ev sh 221 0 [some (.ref i0), some (.int x1), some (.int x2), none, none] [] σ (fun r s => Ev sh 222 34 [a0, a1, a2] (zpush r []) s Q) := Ev_callh (zrecv_of (by decide) h) rfl
theorem s_M_mend_34 : Ev sh 222 34 [a0, a1, a2] (.int x :: st) σ Q = if x = 0 then Ev sh 222 44 [a0, a1, a2] st σ Q else Ev sh 222 37 [a0, a1, a2] st σ Q := Ev_if rfl
theorem s_M_mend_37 : Ev sh 222 37 [a0, a1, a2] st σ Q = Ev sh 222 39 [a0, a1, a2] (.int 10 :: st) σ Q := Ev_step rfl
theorem s_M_mend_39 : Ev sh 222 39 [a0, some (.int x), a2] st σ Q = Ev sh 222 40 [a0, some (.int x), a2] (.int x :: st) σ Q := Ev_step rfl
theorem s_M_mend_40 : Ev sh 222 40 [a0, a1, a2] (.int y :: .int x :: st) σ Q = Ev sh 222 41 [a0, a1, a2] (.int (x * y) :: st) σ Q := Ev_step rfl
theorem s_M_mend_41 : Ev sh 222 41 [a0, a1, some (.int x)] st σ Q = Ev sh 222 42 [a0, a1, some (.int x)] (.int x :: st) σ Q := Ev_step rfl
theorem s_M_mend_42 : Ev sh 222 42 [a0, a1, a2] (.int y :: .int x :: st) σ Q = Ev sh 222 43 [a0, a1, a2] (.int (x + y) :: st) σ Q := Ev_step rfl
theorem s_M_mend_43 : Ev sh 222 43 [a0, a1, a2] [.int x] σ Q = Q (some (.int x)) σ := Ev_ret rfl
theorem s_M_mend_44 : Ev sh 222 44 [a0, a1, some (.int x)] st σ Q = Ev sh 222 47 [a0, a1, some (.int (x + 1))] st σ Q := Ev_step rfl
theorem s_M_mend_47 : Ev sh 222 47 [a0, a1, a2] st σ Q = Ev sh 222 22 [a0, a1, a2] st σ Q := Ev_step rfl
theorem s_M_mend_50 : Ev sh 222 50 [a0, some (.int x), a2] st σ Q = Ev sh 222 53 [a0, some (.int (x + 1)), a2] st σ Q := Ev_step rfl
theorem s_M_mend_53 : Ev sh 222 53 [a0, a1, a2] st σ Q = Ev sh 222 12 [a0, a1, a2] st σ Q := Ev_step rfl
theorem s_M_mend_56 : Ev sh 222 56 [a0, a1, a2] st σ Q = Ev sh 222 58 [a0, a1, a2] (.int (-9) :: st) σ Q := Ev_step rfl
theorem s_M_mend_58 : Ev sh 222 58 [a0, a1, a2] [.int x] σ Q = Q (some (.int x)) σ := Ev_ret rfl
theorem s_M_isUprightBy_0 : Ev sh 223 0 [some (.ref i), a1, a2] st σ Q = Ev sh 223 1 [some (.ref i), a1, a2] (.ref i :: st) σ Q := Ev_step rfl
theorem s_M_isUprightBy_1 (h : sh i0 = 9) : Ev sh 223 1 [a0, a1, a2] [.ref i0] σ Q = Ev sh 184 0 [some (.ref i0)] [] σ (fun r s => Ev sh 223 4 [a0, a1, a2] (zpush r []) s Q) := Ev_callh (zrecv_of (by decide) h) rfl
theorem s_M_isUprightBy_4 : Ev sh 223 4 [a0, a1, a2] st σ Q = Ev sh 223 5 [a0, a1, a2] (.int 0 :: st) σ Q := Ev_step rfl
theorem s_M_isUprightBy_5 : Ev sh 223 5 [a0, a1, a2] (.int x :: st) σ Q = Ev sh 223 6 [a0, zdrop2 a1, some (.int x)] st σ Q := Ev_step rfl
theorem s_M_isUprightBy_6 : Ev sh 223 6 [a0, a1, some (.int x)] st σ Q = Ev sh 223 7 [a0, a1, some (.int x)] (.int x :: st) σ Q := Ev_step rfl
theorem s_M_isUprightBy_7 : Ev sh 223 7 [some (.ref i), a1, a2] st σ Q = Ev sh 223 8 [some (.ref i), a1, a2] (.ref i :: st) σ Q := Ev_step rfl
theorem s_M_isUprightBy_8 (h : sh i = 9) : Ev sh 223 8 [a0, a1, a2] (.ref i :: st) σ Q = Ev sh 223 11 [a0, a1, a2] (.int (σ i 7) :: st) σ Q := Ev_h h rfl
theorem s_M_isUprightBy_11 : Ev sh 223 11 [a0, a1, a2] (.int y :: .int x :: st) σ Q = if y ≤ x then Ev sh 223 36 [a0, a1, a2] st σ Q else Ev sh 223 14 [a0, a1, a2] st σ Q := Ev_if rfl
theorem s_M_isUprightBy_14 : Ev sh 223 14 [a0, some (.int x), a2] st σ Q = Ev sh 223 15 [a0, some (.int x), a2] (.int x :: st) σ Q := Ev_step rfl
theorem s_M_isUprightBy_15 : Ev sh 223 15 [a0, a1, some (.int x)] st σ Q = Ev sh 223 16 [a0, a1, some (.int x)] (.int x :: st) σ Q := Ev_step rfl
theorem s_M_isUprightBy_16 : Ev sh 223 16 [a0, a1, a2] [.int x1, .int x0] σ Q = Ev sh 165 0 [some (.int x0), some (.int x1)] [] σ (fun r s => Ev sh 223 19 [a0, a1, a2] (zpush r []) s Q) := Ev_call rfl
theorem s_M_isUprightBy_19 : Ev sh 223 19 [a0, a1, a2] (.int x :: st) σ Q = if x = 0 then Ev sh 223 30 [a0, a1, a2] st σ Q else Ev sh 223 22 [a0, a1, a2] st σ Q := Ev_if rfl
theorem s_M_isUprightBy_22 : Ev sh 223 22 [some (.ref i), a1, a2] st σ Q = Ev sh 223 23 [some (.ref i), a1, a2] (.ref i :: st) σ Q := Ev_step rfl
theorem s_M_isUprightBy_23 : Ev sh 223 23 [a0, a1, some (.int x)] st σ Q = Ev sh 223 24 [a0, a1, some (.int x)] (.int x :: st) σ Q := Ev_step rfl
theorem s_M_isUprightBy_24 : Ev sh 223 24 [a0, a1, a2] st σ Q = Ev sh 223 25 [a0, a1, a2] (.int 0 :: st) σ Q := Ev_step rfl
theorem s_M_isUprightBy_25 : Ev sh 223 25 [a0, a1, a2] st σ Q = Ev sh 223 27 [a0, a1, a2] (.int 9 :: st) σ Q := Ev_step rfl
theorem s_M_isUprightBy_27 (h : sh i0 = 9) : Ev sh 223 27 [a0, a1, a2] [.int x3, .int x2, .int x1, .ref i0] σ Q = Ev sh 189 0 [some (.ref i0), some (.int x1), some (.int x2), some (.int x3)] [] σ (fun r s => Ev sh 223 30 [a0, a1, a2] (zpush r []) s Q) := Ev_callh (zrecv_of (by decide) h) rfl
theorem s_M_isUprightBy_30 : Ev sh 223 30 [a0, a1, some (.int x)] st σ Q = Ev sh 223 33 [a0, a1, some (.int (x + 1))] st σ Q := Ev_step rfl
theorem s_M_isUprightBy_33 : Ev sh 223 33 [a0, a1, a2] st σ Q = Ev sh 223 6 [a0, a1, a2] st σ Q := Ev_step rfl
theorem s_M_isUprightBy_36 : Ev sh 223 36 [some (.ref i), a1, a2] st σ Q = Ev sh 223 37 [some (.ref i), a1, a2] (.ref i :: st) σ Q := Ev_step rfl
theorem s_M_isUprightBy_37 (h : sh i0 = 9) : Ev sh 223 37 [a0, a1, a2] [.ref i0] σ Q = Ev sh 198 0 [some (.ref i0)] [] σ (fun r s => Ev sh 223 40 [a0, a1, a2] (zpush r []) s Q) := Ev_callh (zrecv_of (by decide) h) rfl
theorem s_M_isUprightBy_40 : Ev sh 223 40 [a0, a1, a2] (.int x :: st) σ Q = Ev sh 223 41 [a0, zdrop2 a1, some (.int x)] st σ Q := Ev_step rfl
theorem s_M_isUprightBy_41 : Ev sh 223 41 [some (.ref i), a1, a2] st σ Q = Ev sh 223 42 [some (.ref i), a1, a2] (.ref i :: st) σ Q := Ev_step rfl
theorem s_M_isUprightBy_42 (h : sh i0 = 9) : Ev sh 223 42 [a0, a1, a2] [.ref i0] σ Q = Ev sh 185 0 [some (.ref i0)] [] σ (fun r s => Ev sh 223 45 [a0, a1, a2] (zpush r []) s Q) := Ev_callh (zrecv_of (by decide) h) rfl
theorem s_M_isUprightBy_45 : Ev sh 223 45 [a0, a1, some (.int x)] st σ Q = Ev sh 223 46 [a0, a1, some (.int x)] (.int x :: st) σ Q := Ev_step rfl
theorem s_M_isUprightBy_46 (h : x = 0 ∨ x = 1) : Ev sh 223 46 [a0, a1, a2] [.int x] σ Q = Q (some (.int x)) σ := Ev_rh h rfl
theorem s_M_fewest_0 : Ev sh 224 0 [a0, a1, a2] st σ Q = Ev sh 224 2 [a0, a1, a2] (.int (-9) :: st) σ Q := Ev_step rfl
theorem s_M_fewest_2 : Ev sh 224 2 [a0, a1, a2] (.int x :: st) σ Q = Ev sh 224 3 [zdrop2 a0, some (.int x), a2] st σ Q := Ev_step rfl
theorem s_M_fewest_3 : Ev sh 224 3 [a0, a1, a2] st σ Q = Ev sh 224 4 [a0, a1, a2] (.int 0 :: st) σ Q := Ev_step rfl
theorem s_M_fewest_4 : Ev sh 224 4 [a0, a1, a2] (.int x :: st) σ Q = Ev sh 224 5 [a0, zdrop2 a1, some (.int x)] st σ Q := Ev_step rfl
theorem s_M_fewest_5 : Ev sh 224 5 [a0, a1, some (.int x)] st σ Q = Ev sh 224 6 [a0, a1, some (.int x)] (.int x :: st) σ Q := Ev_step rfl
theorem s_M_fewest_6 : Ev sh 224 6 [a0, a1, a2] st σ Q = Ev sh 224 7 [a0, a1, a2] (.int 1 :: st) σ Q := Ev_step rfl
theorem s_M_fewest_7 : Ev sh 224 7 [some (.ref i), a1, a2] st σ Q = Ev sh 224 8 [some (.ref i), a1, a2] (.ref i :: st) σ Q := Ev_step rfl
theorem s_M_fewest_8 (h : sh i = 9) : Ev sh 224 8 [a0, a1, a2] (.ref i :: st) σ Q = Ev sh 224 11 [a0, a1, a2] (.int (σ i 7) :: st) σ Q := Ev_h h rfl
theorem s_M_fewest_11 : Ev sh 224 11 [a0, a1, a2] (.int y :: .int x :: st) σ Q = Ev sh 224 12 [a0, a1, a2] (.int (x <<< (y &&& 31)) :: st) σ Q := Ev_step rfl
theorem s_M_fewest_12 : Ev sh 224 12 [a0, a1, a2] (.int y :: .int x :: st) σ Q = if y ≤ x then Ev sh 224 46 [a0, a1, a2] st σ Q else Ev sh 224 15 [a0, a1, a2] st σ Q := Ev_if rfl
theorem s_M_fewest_15 : Ev sh 224 15 [a0, some (.int x), a2] st σ Q = Ev sh 224 16 [a0, some (.int x), a2] (.int x :: st) σ Q := Ev_step rfl
theorem s_M_fewest_16 : Ev sh 224 16 [a0, a1, a2] (.int x :: st) σ Q = if x < 0 then Ev sh 224 30 [a0, a1, a2] st σ Q else Ev sh 224 19 [a0, a1, a2] st σ Q := Ev_if rfl
theorem s_M_fewest_19 : Ev sh 224 19 [a0, a1, some (.int x)] st σ Q = Ev sh 224 20 [a0, a1, some (.int x)] (.int x :: st) σ Q := Ev_step rfl
theorem s_M_fewest_20 : Ev sh 224 20 [a0, a1, a2] [.int x0] σ Q = Ev sh 167 0 [some (.int x0), none, none] [] σ (fun r s => Ev sh 224 23 [a0, a1, a2] (zpush r []) s Q) := Ev_call rfl
theorem s_M_fewest_23 : Ev sh 224 23 [a0, some (.int x), a2] st σ Q = Ev sh 224 24 [a0, some (.int x), a2] (.int x :: st) σ Q := Ev_step rfl
theorem s_M_fewest_24 : Ev sh 224 24 [a0, a1, a2] [.int x1, .int x0] σ Q = Ev sh 167 0 [some (.int x1), none, none] [] σ (fun r s => Ev sh 224 27 [a0, a1, a2] (zpush r [.int x0]) s Q) := Ev_call rfl
theorem s_M_fewest_27 : Ev sh 224 27 [a0, a1, a2] (.int y :: .int x :: st) σ Q = if y ≤ x then Ev sh 224 40 [a0, a1, a2] st σ Q else Ev sh 224 30 [a0, a1, a2] st σ Q := Ev_if rfl
theorem s_M_fewest_30 : Ev sh 224 30 [some (.ref i), a1, a2] st σ Q = Ev sh 224 31 [some (.ref i), a1, a2] (.ref i :: st) σ Q := Ev_step rfl
theorem s_M_fewest_31 : Ev sh 224 31 [a0, a1, some (.int x)] st σ Q = Ev sh 224 32 [a0, a1, some (.int x)] (.int x :: st) σ Q := Ev_step rfl
theorem s_M_fewest_32 (h : sh i0 = 9) : Ev sh 224 32 [a0, a1, a2] [.int x1, .ref i0] σ Q = Ev sh 223 0 [some (.ref i0), some (.int x1), none] [] σ (fun r s => Ev sh 224 35 [a0, a1, a2] (zpush r []) s Q) := Ev_callh (zrecv_of (by decide) h) rfl
theorem s_M_fewest_35 : Ev sh 224 35 [a0, a1, a2] (.int x :: st) σ Q = if x = 0 then Ev sh 224 40 [a0, a1, a2] st σ Q else Ev sh 224 38 [a0, a1, a2] st σ Q := Ev_if rfl
theorem s_M_fewest_38 : Ev sh 224 38 [a0, a1, some (.int x)] st σ Q = Ev sh 224 39 [a0, a1, some (.int x)] (.int x :: st) σ Q := Ev_step rfl
theorem s_M_fewest_39 : Ev sh 224 39 [a0, a1, a2] (.int x :: st) σ Q = Ev sh 224 40 [zdrop2 a0, some (.int x), a2] st σ Q := Ev_step rfl
theorem s_M_fewest_40 : Ev sh 224 40 [a0, a1, some (.int x)] st σ Q = Ev sh 224 43 [a0, a1, some (.int (x + 1))] st σ Q := Ev_step rfl
theorem s_M_fewest_43 : Ev sh 224 43 [a0, a1, a2] st σ Q = Ev sh 224 5 [a0, a1, a2] st σ Q := Ev_step rfl
theorem s_M_fewest_46 : Ev sh 224 46 [a0, some (.int x), a2] st σ Q = Ev sh 224 47 [a0, some (.int x), a2] (.int x :: st) σ Q := Ev_step rfl
theorem s_M_fewest_47 : Ev sh 224 47 [a0, a1, a2] [.int x] σ Q = Q (some (.int x)) σ := Ev_ret rfl
theorem s_M_take_0 : Ev sh 225 0 [some (.ref i), a1, a2] st σ Q = Ev sh 225 1 [some (.ref i), a1, a2] (.ref i :: st) σ Q := Ev_step rfl
theorem s_M_take_1 (h : sh i = 9) : Ev sh 225 1 [a0, a1, a2] (.ref i :: st) σ Q = Ev sh 225 4 [a0, a1, a2] (.int (σ i 7) :: st) σ Q := Ev_h h rfl
theorem s_M_take_4 : Ev sh 225 4 [a0, a1, a2] (.int x :: st) σ Q = Ev sh 225 5 [zdrop2 a0, some (.int x), a2] st σ Q := Ev_step rfl
theorem s_M_take_5 : Ev sh 225 5 [a0, a1, a2] st σ Q = Ev sh 225 6 [a0, a1, a2] (.int 0 :: st) σ Q := Ev_step rfl
theorem s_M_take_6 : Ev sh 225 6 [a0, a1, a2] (.int x :: st) σ Q = Ev sh 225 7 [a0, zdrop2 a1, some (.int x)] st σ Q := Ev_step rfl
theorem s_M_take_7 : Ev sh 225 7 [some (.ref i), a1, a2] st σ Q = Ev sh 225 8 [some (.ref i), a1, a2] (.ref i :: st) σ Q := Ev_step rfl
theorem s_M_take_8 (h : sh i0 = 9) : Ev sh 225 8 [a0, a1, a2] [.ref i0] σ Q = Ev sh 198 0 [some (.ref i0)] [] σ (fun r s => Ev sh 225 11 [a0, a1, a2] (zpush r []) s Q) := Ev_callh (zrecv_of (by decide) h) rfl
theorem s_M_take_11 : Ev sh 225 11 [a0, a1, a2] (.int x :: st) σ Q = if x ≠ 0 then Ev sh 225 30 [a0, a1, a2] st σ Q else Ev sh 225 14 [a0, a1, a2] st σ Q := Ev_if rfl
theorem s_M_take_14 : Ev sh 225 14 [some (.ref i), a1, a2] st σ Q = Ev sh 225 15 [some (.ref i), a1, a2] (.ref i :: st) σ Q := Ev_step rfl
theorem s_M_take_15 : Ev sh 225 15 [a0, a1, a2] (.ref i :: st) σ Q = Ev sh 225 16 [a0, a1, a2] (.ref i :: .ref i :: st) σ Q := Ev_step rfl
theorem s_M_take_16 (h : sh i = 9) : Ev sh 225 16 [a0, a1, a2] (.ref i :: st) σ Q = Ev sh 225 19 [a0, a1, a2] (.int (σ i 7) :: st) σ Q := Ev_h h rfl
theorem s_M_take_19 : Ev sh 225 19 [a0, a1, a2] st σ Q = Ev sh 225 20 [a0, a1, a2] (.int 1 :: st) σ Q := Ev_step rfl
theorem s_M_take_20 : Ev sh 225 20 [a0, a1, a2] (.int y :: .int x :: st) σ Q = Ev sh 225 21 [a0, a1, a2] (.int (x - y) :: st) σ Q := Ev_step rfl
theorem s_M_take_21 (h : sh i = 9) : Ev sh 225 21 [a0, a1, a2] (.int x :: .ref i :: st) σ Q = Ev sh 225 24 [a0, a1, a2] st (zup σ i 7 x) Q := Ev_h h rfl
theorem s_M_take_24 : Ev sh 225 24 [a0, a1, some (.int x)] st σ Q = Ev sh 225 27 [a0, a1, some (.int (x + 1))] st σ Q := Ev_step rfl
theorem s_M_take_27 : Ev sh 225 27 [a0, a1, a2] st σ Q = Ev sh 225 7 [a0, a1, a2] st σ Q := Ev_step rfl
theorem s_M_take_30 : Ev sh 225 30 [some (.ref i), a1, a2] st σ Q = Ev sh 225 31 [some (.ref i), a1, a2] (.ref i :: st) σ Q := Ev_step rfl
theorem s_M_take_31 : Ev sh 225 31 [a0, some (.int x), a2] st σ Q = Ev sh 225 32 [a0, some (.int x), a2] (.int x :: st) σ Q := Ev_step rfl
theorem s_M_take_32 (h : sh i = 9) : Ev sh 225 32 [a0, a1, a2] (.int x :: .ref i :: st) σ Q = Ev sh 225 35 [a0, a1, a2] st (zup σ i 7 x) Q := Ev_h h rfl
theorem s_M_take_35 : Ev sh 225 35 [a0, a1, some (.int x)] st σ Q = Ev sh 225 36 [a0, a1, some (.int x)] (.int x :: st) σ Q := Ev_step rfl
theorem s_M_take_36 : Ev sh 225 36 [a0, a1, a2] [.int x] σ Q = Q (some (.int x)) σ := Ev_ret rfl
theorem s_M_turnBack_0 : Ev sh 226 0 [a0, a1, a2, a3, a4] st σ Q = Ev sh 226 2 [a0, a1, a2, a3, a4] (.int (-9) :: st) σ Q := Ev_step rfl
theorem s_M_turnBack_2 : Ev sh 226 2 [a0, a1, a2, a3, a4] (.int x :: st) σ Q = Ev sh 226 3 [zdrop2 a0, some (.int x), a2, a3, a4] st σ Q := Ev_step rfl
theorem s_M_turnBack_3 : Ev sh 226 3 [some (.ref i), a1, a2, a3, a4] st σ Q = Ev sh 226 4 [some (.ref i), a1, a2, a3, a4] (.ref i :: st) σ Q := Ev_step rfl
theorem s_M_turnBack_4 (h : sh i0 = 9) : Ev sh 226 4 [a0, a1, a2, a3, a4] [.ref i0] σ Q = Ev sh 200 0 [some (.ref i0)] [] σ (fun r s => Ev sh 226 7 [a0, a1, a2, a3, a4] (zpush r []) s Q) := Ev_callh (zrecv_of (by decide) h) rfl
theorem s_M_turnBack_7 : Ev sh 226 7 [a0, a1, a2, a3, a4] (.int x :: st) σ Q = Ev sh 226 8 [a0, zdrop2 a1, some (.int x), a3, a4] st σ Q := Ev_step rfl
theorem s_M_turnBack_8 : Ev sh 226 8 [a0, a1, a2, a3, a4] st σ Q = Ev sh 226 9 [a0, a1, a2, a3, a4] (.int 0 :: st) σ Q := Ev_step rfl
theorem s_M_turnBack_9 : Ev sh 226 9 [a0, a1, a2, a3, a4] (.int x :: st) σ Q = Ev sh 226 10 [a0, a1, zdrop2 a2, some (.int x), a4] st σ Q := Ev_step rfl
theorem s_M_turnBack_10 : Ev sh 226 10 [a0, a1, a2, some (.int x), a4] st σ Q = Ev sh 226 11 [a0, a1, a2, some (.int x), a4] (.int x :: st) σ Q := Ev_step rfl
theorem s_M_turnBack_11 : Ev sh 226 11 [some (.ref i), a1, a2, a3, a4] st σ Q = Ev sh 226 12 [some (.ref i), a1, a2, a3, a4] (.ref i :: st) σ Q := Ev_step rfl
theorem s_M_turnBack_12 (h : sh i = 9) : Ev sh 226 12 [a0, a1, a2, a3, a4] (.ref i :: st) σ Q = Ev sh 226 15 [a0, a1, a2, a3, a4] (.int (σ i 7) :: st) σ Q := Ev_h h rfl
theorem s_M_turnBack_15 : Ev sh 226 15 [a0, a1, a2, a3, a4] (.int y :: .int x :: st) σ Q = if y ≤ x then Ev sh 226 72 [a0, a1, a2, a3, a4] st σ Q else Ev sh 226 18 [a0, a1, a2, a3, a4] st σ Q := Ev_if rfl
theorem s_M_turnBack_18 : Ev sh 226 18 [some (.ref i), a1, a2, a3, a4] st σ Q = Ev sh 226 19 [some (.ref i), a1, a2, a3, a4] (.ref i :: st) σ Q := Ev_step rfl
theorem s_M_turnBack_19 (h : sh i = 9) : Ev sh 226 19 [a0, a1, a2, a3, a4] (.ref i :: st) σ Q = Ev sh 226 22 [a0, a1, a2, a3, a4] (.ref 4 :: st) σ Q := Ev_h h rfl
theorem s_M_turnBack_22 : Ev sh 226 22 [a0, a1, a2, some (.int x), a4] st σ Q = Ev sh 226 23 [a0, a1, a2, some (.int x), a4] (.int x :: st) σ Q := Ev_step rfl
theorem s_M_turnBack_23 : Ev sh 226 23 [a0, a1, a2, a3, a4] st σ Q = Ev sh 226 24 [a0, a1, a2, a3, a4] (.int 1 :: st) σ Q := Ev_step rfl
theorem s_M_turnBack_24 : Ev sh 226 24 [some (.ref i), a1, a2, a3, a4] st σ Q = Ev sh 226 25 [some (.ref i), a1, a2, a3, a4] (.ref i :: st) σ Q := Ev_step rfl
theorem s_M_turnBack_25 (h : sh i = 9) : Ev sh 226 25 [a0, a1, a2, a3, a4] (.ref i :: st) σ Q = Ev sh 226 28 [a0, a1, a2, a3, a4] (.ref 4 :: st) σ Q := Ev_h h rfl
theorem s_M_turnBack_28 : Ev sh 226 28 [a0, a1, a2, some (.int x), a4] st σ Q = Ev sh 226 29 [a0, a1, a2, some (.int x), a4] (.int x :: st) σ Q := Ev_step rfl
theorem s_M_turnBack_29 (h : zin x (sh i) = true) : Ev sh 226 29 [a0, a1, a2, a3, a4] (.int x :: .ref i :: st) σ Q = Ev sh 226 30 [a0, a1, a2, a3, a4] (.int (σ i x.toNatClampNeg) :: st) σ Q := Ev_h h rfl
theorem s_M_turnBack_30 : Ev sh 226 30 [a0, a1, a2, a3, a4] (.int y :: .int x :: st) σ Q = Ev sh 226 31 [a0, a1, a2, a3, a4] (.int (x - y) :: st) σ Q := Ev_step rfl
theorem s_M_turnBack_31 (h : zin x (sh i) = true) : Ev sh 226 31 [a0, a1, a2, a3, a4] (.int y :: .int x :: .ref i :: st) σ Q = Ev sh 226 32 [a0, a1, a2, a3, a4] st (zup σ i x.toNatClampNeg y) Q := Ev_h h rfl
theorem s_M_turnBack_32 : Ev sh 226 32 [some (.ref i), a1, a2, a3, a4] st σ Q = Ev sh 226 33 [some (.ref i), a1, a2, a3, a4] (.ref i :: st) σ Q := Ev_step rfl
theorem s_M_turnBack_33 (h : sh i0 = 9) : Ev sh 226 33 [a0, a1, a2, a3, a4] [.ref i0] σ Q = Ev sh 200 0 [some (.ref i0)] [] σ (fun r s => Ev sh 226 36 [a0, a1, a2, a3, a4] (zpush r []) s Q) := Ev_callh (zrecv_of (by decide) h) rfl
theorem s_M_turnBack_36 : Ev sh 226 36 [a0, a1, a2, a3, a4] (.int x :: st) σ Q = Ev sh 226 38 [a0, a1, a2, zdrop2 a3, some (.int x)] st σ Q := Ev_step rfl
theorem s_M_turnBack_38 : Ev sh 226 38 [some (.ref i), a1, a2, a3, a4] st σ Q = Ev sh 226 39 [some (.ref i), a1, a2, a3, a4] (.ref i :: st) σ Q := Ev_step rfl
theorem s_M_turnBack_39 (h : sh i = 9) : Ev sh 226 39 [a0, a1, a2, a3, a4] (.ref i :: st) σ Q = Ev sh 226 42 [a0, a1, a2, a3, a4] (.ref 4 :: st) σ Q := Ev_h h rfl
theorem s_M_turnBack_42 : Ev sh 226 42 [a0, a1, a2, some (.int x), a4] st σ Q = Ev sh 226 43 [a0, a1, a2, some (.int x), a4] (.int x :: st) σ Q := Ev_step rfl
theorem s_M_turnBack_43 : Ev sh 226 43 [a0, a1, a2, a3, a4] st σ Q = Ev sh 226 44 [a0, a1, a2, a3, a4] (.int 1 :: st) σ Q := Ev_step rfl
theorem s_M_turnBack_44 : Ev sh 226 44 [some (.ref i), a1, a2, a3, a4] st σ Q = Ev sh 226 45 [some (.ref i), a1, a2, a3, a4] (.ref i :: st) σ Q := Ev_step rfl
theorem s_M_turnBack_45 (h : sh i = 9) : Ev sh 226 45 [a0, a1, a2, a3, a4] (.ref i :: st) σ Q = Ev sh 226 48 [a0, a1, a2, a3, a4] (.ref 4 :: st) σ Q := Ev_h h rfl
theorem s_M_turnBack_48 : Ev sh 226 48 [a0, a1, a2, some (.int x), a4] st σ Q = Ev sh 226 49 [a0, a1, a2, some (.int x), a4] (.int x :: st) σ Q := Ev_step rfl
theorem s_M_turnBack_49 (h : zin x (sh i) = true) : Ev sh 226 49 [a0, a1, a2, a3, a4] (.int x :: .ref i :: st) σ Q = Ev sh 226 50 [a0, a1, a2, a3, a4] (.int (σ i x.toNatClampNeg) :: st) σ Q := Ev_h h rfl
theorem s_M_turnBack_50 : Ev sh 226 50 [a0, a1, a2, a3, a4] (.int y :: .int x :: st) σ Q = Ev sh 226 51 [a0, a1, a2, a3, a4] (.int (x - y) :: st) σ Q := Ev_step rfl
theorem s_M_turnBack_51 (h : zin x (sh i) = true) : Ev sh 226 51 [a0, a1, a2, a3, a4] (.int y :: .int x :: .ref i :: st) σ Q = Ev sh 226 52 [a0, a1, a2, a3, a4] st (zup σ i x.toNatClampNeg y) Q := Ev_h h rfl
theorem s_M_turnBack_52 : Ev sh 226 52 [a0, a1, a2, a3, some (.int x)] st σ Q = Ev sh 226 54 [a0, a1, a2, a3, some (.int x)] (.int x :: st) σ Q := Ev_step rfl
theorem s_M_turnBack_54 : Ev sh 226 54 [a0, a1, some (.int x), a3, a4] st σ Q = Ev sh 226 55 [a0, a1, some (.int x), a3, a4] (.int x :: st) σ Q := Ev_step rfl
theorem s_M_turnBack_55 : Ev sh 226 55 [a0, a1, a2, a3, a4] (.int y :: .int x :: st) σ Q = if y < x then Ev sh 226 61 [a0, a1, a2, a3, a4] st σ Q else Ev sh 226 58 [a0, a1, a2, a3, a4] st σ Q := Ev_if rfl
theorem s_M_turnBack_58 : Ev sh 226 58 [a0, a1, a2, a3, a4] st σ Q = Ev sh 226 66 [a0, a1, a2, a3, a4] st σ Q := Ev_step rfl
theorem s_M_turnBack_61 : Ev sh 226 61 [a0, a1, a2, some (.int x), a4] st σ Q = Ev sh 226 62 [a0, a1, a2, some (.int x), a4] (.int x :: st) σ Q := Ev_step rfl
theorem s_M_turnBack_62 : Ev sh 226 62 [a0, a1, a2, a3, a4] (.int x :: st) σ Q = Ev sh 226 63 [zdrop2 a0, some (.int x), a2, a3, a4] st σ Q := Ev_step rfl
theorem s_M_turnBack_63 : Ev sh 226 63 [a0, a1, a2, a3, some (.int x)] st σ Q = Ev sh 226 65 [a0, a1, a2, a3, some (.int x)] (.int x :: st) σ Q := Ev_step rfl
theorem s_M_turnBack_65 : Ev sh 226 65 [a0, a1, a2, a3, a4] (.int x :: st) σ Q = Ev sh 226 66 [a0, zdrop2 a1, some (.int x), a3, a4] st σ Q := Ev_step rfl
theorem s_M_turnBack_66 : Ev sh 226 66 [a0, a1, a2, some (.int x), a4] st σ Q = Ev sh 226 69 [a0, a1, a2, some (.int (x + 1)), a4] st σ Q := Ev_step rfl
theorem s_M_turnBack_69 : Ev sh 226 69 [a0, a1, a2, a3, a4] st σ Q = Ev sh 226 10 [a0, a1, a2, a3, a4] st σ Q := Ev_step rfl
theorem s_M_turnBack_72 : Ev sh 226 72 [a0, some (.int x), a2, a3, a4] st σ Q = Ev sh 226 73 [a0, some (.int x), a2, a3, a4] (.int x :: st) σ Q := Ev_step rfl
theorem s_M_turnBack_73 : Ev sh 226 73 [a0, a1, a2, a3, a4] [.int x] σ Q = Q (some (.int x)) σ := Ev_ret rfl
theorem s_M_longestRun_0 : Ev sh 227 0 [a0, a1, a2, a3] st σ Q = Ev sh 227 1 [a0, a1, a2, a3] (.int 0 :: st) σ Q := Ev_step rfl
theorem s_M_longestRun_1 : Ev sh 227 1 [a0, a1, a2, a3] (.int x :: st) σ Q = Ev sh 227 2 [zdrop2 a0, some (.int x), a2, a3] st σ Q := Ev_step rfl
theorem s_M_longestRun_2 : Ev sh 227 2 [a0, a1, a2, a3] st σ Q = Ev sh 227 3 [a0, a1, a2, a3] (.int 0 :: st) σ Q := Ev_step rfl
theorem s_M_longestRun_3 : Ev sh 227 3 [a0, a1, a2, a3] (.int x :: st) σ Q = Ev sh 227 4 [a0, zdrop2 a1, some (.int x), a3] st σ Q := Ev_step rfl
theorem s_M_longestRun_4 : Ev sh 227 4 [a0, a1, a2, a3] st σ Q = Ev sh 227 5 [a0, a1, a2, a3] (.int 0 :: st) σ Q := Ev_step rfl
theorem s_M_longestRun_5 : Ev sh 227 5 [a0, a1, a2, a3] (.int x :: st) σ Q = Ev sh 227 6 [a0, a1, zdrop2 a2, some (.int x)] st σ Q := Ev_step rfl
theorem s_M_longestRun_6 : Ev sh 227 6 [a0, a1, a2, some (.int x)] st σ Q = Ev sh 227 7 [a0, a1, a2, some (.int x)] (.int x :: st) σ Q := Ev_step rfl
theorem s_M_longestRun_7 : Ev sh 227 7 [some (.ref i), a1, a2, a3] st σ Q = Ev sh 227 8 [some (.ref i), a1, a2, a3] (.ref i :: st) σ Q := Ev_step rfl
theorem s_M_longestRun_8 (h : sh i = 9) : Ev sh 227 8 [a0, a1, a2, a3] (.ref i :: st) σ Q = Ev sh 227 11 [a0, a1, a2, a3] (.int (σ i 7) :: st) σ Q := Ev_h h rfl
theorem s_M_longestRun_11 : Ev sh 227 11 [a0, a1, a2, a3] (.int y :: .int x :: st) σ Q = if y ≤ x then Ev sh 227 60 [a0, a1, a2, a3] st σ Q else Ev sh 227 14 [a0, a1, a2, a3] st σ Q := Ev_if rfl
theorem s_M_longestRun_14 : Ev sh 227 14 [a0, a1, a2, some (.int x)] st σ Q = Ev sh 227 15 [a0, a1, a2, some (.int x)] (.int x :: st) σ Q := Ev_step rfl
theorem s_M_longestRun_15 : Ev sh 227 15 [a0, a1, a2, a3] (.int x :: st) σ Q = if x ≤ 0 then Ev sh 227 41 [a0, a1, a2, a3] st σ Q else Ev sh 227 18 [a0, a1, a2, a3] st σ Q := Ev_if rfl
theorem s_M_longestRun_18 : Ev sh 227 18 [some (.ref i), a1, a2, a3] st σ Q = Ev sh 227 19 [some (.ref i), a1, a2, a3] (.ref i :: st) σ Q := Ev_step rfl
theorem s_M_longestRun_19 (h : sh i = 9) : Ev sh 227 19 [a0, a1, a2, a3] (.ref i :: st) σ Q = Ev sh 227 22 [a0, a1, a2, a3] (.ref 4 :: st) σ Q := Ev_h h rfl
theorem s_M_longestRun_22 : Ev sh 227 22 [a0, a1, a2, some (.int x)] st σ Q = Ev sh 227 23 [a0, a1, a2, some (.int x)] (.int x :: st) σ Q := Ev_step rfl
theorem s_M_longestRun_23 (h : zin x (sh i) = true) : Ev sh 227 23 [a0, a1, a2, a3] (.int x :: .ref i :: st) σ Q = Ev sh 227 24 [a0, a1, a2, a3] (.int (σ i x.toNatClampNeg) :: st) σ Q := Ev_h h rfl
theorem s_M_longestRun_24 : Ev sh 227 24 [some (.ref i), a1, a2, a3] st σ Q = Ev sh 227 25 [some (.ref i), a1, a2, a3] (.ref i :: st) σ Q := Ev_step rfl
theorem s_M_longestRun_25 (h : sh i = 9) : Ev sh 227 25 [a0, a1, a2, a3] (.ref i :: st) σ Q = Ev sh 227 28 [a0, a1, a2, a3] (.ref 4 :: st) σ Q := Ev_h h rfl
theorem s_M_longestRun_28 : Ev sh 227 28 [a0, a1, a2, some (.int x)] st σ Q = Ev sh 227 29 [a0, a1, a2, some (.int x)] (.int x :: st) σ Q := Ev_step rfl
theorem s_M_longestRun_29 : Ev sh 227 29 [a0, a1, a2, a3] st σ Q = Ev sh 227 30 [a0, a1, a2, a3] (.int 1 :: st) σ Q := Ev_step rfl
theorem s_M_longestRun_30 : Ev sh 227 30 [a0, a1, a2, a3] (.int y :: .int x :: st) σ Q = Ev sh 227 31 [a0, a1, a2, a3] (.int (x - y) :: st) σ Q := Ev_step rfl
theorem s_M_longestRun_31 (h : zin x (sh i) = true) : Ev sh 227 31 [a0, a1, a2, a3] (.int x :: .ref i :: st) σ Q = Ev sh 227 32 [a0, a1, a2, a3] (.int (σ i x.toNatClampNeg) :: st) σ Q := Ev_h h rfl
theorem s_M_longestRun_32 : Ev sh 227 32 [a0, a1, a2, a3] (.int y :: .int x :: st) σ Q = if x ≠ y then Ev sh 227 41 [a0, a1, a2, a3] st σ Q else Ev sh 227 35 [a0, a1, a2, a3] st σ Q := Ev_if rfl
theorem s_M_longestRun_35 : Ev sh 227 35 [a0, a1, some (.int x), a3] st σ Q = Ev sh 227 36 [a0, a1, some (.int x), a3] (.int x :: st) σ Q := Ev_step rfl
theorem s_M_longestRun_36 : Ev sh 227 36 [a0, a1, a2, a3] st σ Q = Ev sh 227 37 [a0, a1, a2, a3] (.int 1 :: st) σ Q := Ev_step rfl
theorem s_M_longestRun_37 : Ev sh 227 37 [a0, a1, a2, a3] (.int y :: .int x :: st) σ Q = Ev sh 227 38 [a0, a1, a2, a3] (.int (x + y) :: st) σ Q := Ev_step rfl
theorem s_M_longestRun_38 : Ev sh 227 38 [a0, a1, a2, a3] st σ Q = Ev sh 227 42 [a0, a1, a2, a3] st σ Q := Ev_step rfl
theorem s_M_longestRun_41 : Ev sh 227 41 [a0, a1, a2, a3] st σ Q = Ev sh 227 42 [a0, a1, a2, a3] (.int 1 :: st) σ Q := Ev_step rfl
theorem s_M_longestRun_42 : Ev sh 227 42 [a0, a1, a2, a3] (.int x :: st) σ Q = Ev sh 227 43 [a0, zdrop2 a1, some (.int x), a3] st σ Q := Ev_step rfl
theorem s_M_longestRun_43 : Ev sh 227 43 [a0, a1, some (.int x), a3] st σ Q = Ev sh 227 44 [a0, a1, some (.int x), a3] (.int x :: st) σ Q := Ev_step rfl
theorem s_M_longestRun_44 : Ev sh 227 44 [a0, some (.int x), a2, a3] st σ Q = Ev sh 227 45 [a0, some (.int x), a2, a3] (.int x :: st) σ Q := Ev_step rfl
theorem s_M_longestRun_45 : Ev sh 227 45 [a0, a1, a2, a3] (.int y :: .int x :: st) σ Q = if x ≤ y then Ev sh 227 52 [a0, a1, a2, a3] st σ Q else Ev sh 227 48 [a0, a1, a2, a3] st σ Q := Ev_if rfl
theorem s_M_longestRun_48 : Ev sh 227 48 [a0, a1, some (.int x), a3] st σ Q = Ev sh 227 49 [a0, a1, some (.int x), a3] (.int x :: st) σ Q := Ev_step rfl
theorem s_M_longestRun_49 : Ev sh 227 49 [a0, a1, a2, a3] st σ Q = Ev sh 227 53 [a0, a1, a2, a3] st σ Q := Ev_step rfl
theorem s_M_longestRun_52 : Ev sh 227 52 [a0, some (.int x), a2, a3] st σ Q = Ev sh 227 53 [a0, some (.int x), a2, a3] (.int x :: st) σ Q := Ev_step rfl
theorem s_M_longestRun_53 : Ev sh 227 53 [a0, a1, a2, a3] (.int x :: st) σ Q = Ev sh 227 54 [zdrop2 a0, some (.int x), a2, a3] st σ Q := Ev_step rfl
theorem s_M_longestRun_54 : Ev sh 227 54 [a0, a1, a2, some (.int x)] st σ Q = Ev sh 227 57 [a0, a1, a2, some (.int (x + 1))] st σ Q := Ev_step rfl
theorem s_M_longestRun_57 : Ev sh 227 57 [a0, a1, a2, a3] st σ Q = Ev sh 227 6 [a0, a1, a2, a3] st σ Q := Ev_step rfl
theorem s_M_longestRun_60 : Ev sh 227 60 [a0, some (.int x), a2, a3] st σ Q = Ev sh 227 61 [a0, some (.int x), a2, a3] (.int x :: st) σ Q := Ev_step rfl
theorem s_M_longestRun_61 : Ev sh 227 61 [a0, a1, a2, a3] [.int x] σ Q = Q (some (.int x)) σ := Ev_ret rfl
theorem s_M_runs_0 : Ev sh 228 0 [a0, some (.int x), a2, a3, a4] st σ Q = Ev sh 228 1 [a0, some (.int x), a2, a3, a4] (.int x :: st) σ Q := Ev_step rfl
theorem s_M_runs_1 : Ev sh 228 1 [a0, a1, a2, a3, a4] st σ Q = Ev sh 228 2 [a0, a1, a2, a3, a4] (.int 0 :: st) σ Q := Ev_step rfl
theorem s_M_runs_2 : Ev sh 228 2 [a0, a1, a2, a3, a4] st σ Q = Ev sh 228 3 [a0, a1, a2, a3, a4] (.int 2 :: st) σ Q := Ev_step rfl
theorem s_M_runs_3 : Ev sh 228 3 [a0, a1, a2, a3, a4] [.int x2, .int x1, .int x0] σ Q = Ev sh 163 0 [some (.int x0), some (.int x1), some (.int x2)] [] σ (fun r s => Ev sh 228 6 [a0, a1, a2, a3, a4] (zpush r []) s Q) := Ev_call rfl
theorem s_M_runs_6 : Ev sh 228 6 [a0, a1, a2, a3, a4] (.int x :: st) σ Q = if x ≠ 0 then Ev sh 228 16 [a0, a1, a2, a3, a4] st σ Q else Ev sh 228 9 [a0, a1, a2, a3, a4] st σ Q := Ev_if rfl
theorem s_M_runs_9 : Ev sh 228 9 [some (.ref i), a1, a2, a3, a4] st σ Q = Ev sh 228 10 [some (.ref i), a1, a2, a3, a4] (.ref i :: st) σ Q := Ev_step rfl
theorem s_M_runs_10 : Ev sh 228 10 [a0, a1, a2, a3, a4] st σ Q = Ev sh 228 12 [a0, a1, a2, a3, a4] (.int (-2) :: st) σ Q := Ev_step rfl
theorem s_M_runs_12 (h : sh i0 = 9) : Ev sh 228 12 [a0, a1, a2, a3, a4] [.int x1, .ref i0] σ Q = Ev sh 160 0 [some (.ref i0), some (.int x1)] [] σ (fun r s => Ev sh 228 15 [a0, a1, a2, a3, a4] (zpush r []) s Q) := Ev_callh (zrecv_of (by decide) h) rfl
theorem s_M_runs_15 : Ev sh 228 15 [a0, a1, a2, a3, a4] [.int x] σ Q = Q (some (.int x)) σ := Ev_ret rfl
theorem s_M_runs_16 : Ev sh 228 16 [a0, some (.int x), a2, a3, a4] st σ Q = Ev sh 228 17 [a0, some (.int x), a2, a3, a4] (.int x :: st) σ Q := Ev_step rfl
theorem s_M_runs_17 : Ev sh 228 17 [a0, a1, a2, a3, a4] st σ Q = Ev sh 228 18 [a0, a1, a2, a3, a4] (.int 1 :: st) σ Q := Ev_step rfl
theorem s_M_runs_18 : Ev sh 228 18 [a0, a1, a2, a3, a4] (.int y :: .int x :: st) σ Q = if x ≠ y then Ev sh 228 26 [a0, a1, a2, a3, a4] st σ Q else Ev sh 228 21 [a0, a1, a2, a3, a4] st σ Q := Ev_if rfl
theorem s_M_runs_21 : Ev sh 228 21 [some (.ref i), a1, a2, a3, a4] st σ Q = Ev sh 228 22 [some (.ref i), a1, a2, a3, a4] (.ref i :: st) σ Q := Ev_step rfl
theorem s_M_runs_22 (h : sh i0 = 9) : Ev sh 228 22 [a0, a1, a2, a3, a4] [.ref i0] σ Q = Ev sh 227 0 [some (.ref i0), none, none, none] [] σ (fun r s => Ev sh 228 25 [a0, a1, a2, a3, a4] (zpush r []) s Q) := Ev_callh (zrecv_of (by decide) h) rfl
theorem s_M_runs_25 : Ev sh 228 25 [a0, a1, a2, a3, a4] [.int x] σ Q = Q (some (.int x)) σ := Ev_ret rfl
theorem s_M_runs_26 : Ev sh 228 26 [a0, some (.int x), a2, a3, a4] st σ Q = Ev sh 228 27 [a0, some (.int x), a2, a3, a4] (.int x :: st) σ Q := Ev_step rfl
theorem s_M_runs_27 : Ev sh 228 27 [a0, a1, a2, a3, a4] (.int x :: st) σ Q = if x ≠ 0 then Ev sh 228 41 [a0, a1, a2, a3, a4] st σ Q else Ev sh 228 30 [a0, a1, a2, a3, a4] st σ Q := Ev_if rfl
theorem s_M_runs_30 : Ev sh 228 30 [some (.ref i), a1, a2, a3, a4] st σ Q = Ev sh 228 31 [some (.ref i), a1, a2, a3, a4] (.ref i :: st) σ Q := Ev_step rfl
theorem s_M_runs_31 (h : sh i = 9) : Ev sh 228 31 [a0, a1, a2, a3, a4] (.ref i :: st) σ Q = Ev sh 228 34 [a0, a1, a2, a3, a4] (.int (σ i 7) :: st) σ Q := Ev_h h rfl
theorem s_M_runs_34 : Ev sh 228 34 [a0, a1, a2, a3, a4] (.int x :: st) σ Q = if x ≤ 0 then Ev sh 228 41 [a0, a1, a2, a3, a4] st σ Q else Ev sh 228 37 [a0, a1, a2, a3, a4] st σ Q := Ev_if rfl
theorem s_M_runs_37 : Ev sh 228 37 [a0, a1, a2, a3, a4] st σ Q = Ev sh 228 38 [a0, a1, a2, a3, a4] (.int 1 :: st) σ Q := Ev_step rfl
theorem s_M_runs_38 : Ev sh 228 38 [a0, a1, a2, a3, a4] st σ Q = Ev sh 228 42 [a0, a1, a2, a3, a4] st σ Q := Ev_step rfl
theorem s_M_runs_41 : Ev sh 228 41 [a0, a1, a2, a3, a4] st σ Q = Ev sh 228 42 [a0, a1, a2, a3, a4] (.int 0 :: st) σ Q := Ev_step rfl
theorem s_M_runs_42 : Ev sh 228 42 [a0, a1, a2, a3, a4] (.int x :: st) σ Q = Ev sh 228 43 [a0, zdrop2 a1, some (.int x), a3, a4] st σ Q := Ev_step rfl
theorem s_M_runs_43 : Ev sh 228 43 [a0, a1, a2, a3, a4] st σ Q = Ev sh 228 44 [a0, a1, a2, a3, a4] (.int 1 :: st) σ Q := Ev_step rfl
theorem s_M_runs_44 : Ev sh 228 44 [a0, a1, a2, a3, a4] (.int x :: st) σ Q = Ev sh 228 45 [a0, a1, zdrop2 a2, some (.int x), a4] st σ Q := Ev_step rfl
theorem s_M_runs_45 : Ev sh 228 45 [a0, a1, a2, some (.int x), a4] st σ Q = Ev sh 228 46 [a0, a1, a2, some (.int x), a4] (.int x :: st) σ Q := Ev_step rfl
theorem s_M_runs_46 : Ev sh 228 46 [some (.ref i), a1, a2, a3, a4] st σ Q = Ev sh 228 47 [some (.ref i), a1, a2, a3, a4] (.ref i :: st) σ Q := Ev_step rfl
theorem s_M_runs_47 (h : sh i = 9) : Ev sh 228 47 [a0, a1, a2, a3, a4] (.ref i :: st) σ Q = Ev sh 228 50 [a0, a1, a2, a3, a4] (.int (σ i 7) :: st) σ Q := Ev_h h rfl
theorem s_M_runs_50 : Ev sh 228 50 [a0, a1, a2, a3, a4] (.int y :: .int x :: st) σ Q = if y ≤ x then Ev sh 228 117 [a0, a1, a2, a3, a4] st σ Q else Ev sh 228 53 [a0, a1, a2, a3, a4] st σ Q := Ev_if rfl
theorem s_M_runs_53 : Ev sh 228 53 [some (.ref i), a1, a2, a3, a4] st σ Q = Ev sh 228 54 [some (.ref i), a1, a2, a3, a4] (.ref i :: st) σ Q := Ev_step rfl
theorem s_M_runs_54 (h : sh i = 9) : Ev sh 228 54 [a0, a1, a2, a3, a4] (.ref i :: st) σ Q = Ev sh 228 57 [a0, a1, a2, a3, a4] (.ref 4 :: st) σ Q := Ev_h h rfl
theorem s_M_runs_57 : Ev sh 228 57 [a0, a1, a2, some (.int x), a4] st σ Q = Ev sh 228 58 [a0, a1, a2, some (.int x), a4] (.int x :: st) σ Q := Ev_step rfl
theorem s_M_runs_58 (h : zin x (sh i) = true) : Ev sh 228 58 [a0, a1, a2, a3, a4] (.int x :: .ref i :: st) σ Q = Ev sh 228 59 [a0, a1, a2, a3, a4] (.int (σ i x.toNatClampNeg) :: st) σ Q := Ev_h h rfl
theorem s_M_runs_59 : Ev sh 228 59 [some (.ref i), a1, a2, a3, a4] st σ Q = Ev sh 228 60 [some (.ref i), a1, a2, a3, a4] (.ref i :: st) σ Q := Ev_step rfl
theorem s_M_runs_60 (h : sh i = 9) : Ev sh 228 60 [a0, a1, a2, a3, a4] (.ref i :: st) σ Q = Ev sh 228 63 [a0, a1, a2, a3, a4] (.ref 4 :: st) σ Q := Ev_h h rfl
theorem s_M_runs_63 : Ev sh 228 63 [a0, a1, a2, some (.int x), a4] st σ Q = Ev sh 228 64 [a0, a1, a2, some (.int x), a4] (.int x :: st) σ Q := Ev_step rfl
theorem s_M_runs_64 : Ev sh 228 64 [a0, a1, a2, a3, a4] st σ Q = Ev sh 228 65 [a0, a1, a2, a3, a4] (.int 1 :: st) σ Q := Ev_step rfl
theorem s_M_runs_65 : Ev sh 228 65 [a0, a1, a2, a3, a4] (.int y :: .int x :: st) σ Q = Ev sh 228 66 [a0, a1, a2, a3, a4] (.int (x - y) :: st) σ Q := Ev_step rfl
theorem s_M_runs_66 (h : zin x (sh i) = true) : Ev sh 228 66 [a0, a1, a2, a3, a4] (.int x :: .ref i :: st) σ Q = Ev sh 228 67 [a0, a1, a2, a3, a4] (.int (σ i x.toNatClampNeg) :: st) σ Q := Ev_h h rfl
theorem s_M_runs_67 : Ev sh 228 67 [a0, a1, a2, a3, a4] (.int y :: .int x :: st) σ Q = if x = y then Ev sh 228 74 [a0, a1, a2, a3, a4] st σ Q else Ev sh 228 70 [a0, a1, a2, a3, a4] st σ Q := Ev_if rfl
theorem s_M_runs_70 : Ev sh 228 70 [a0, a1, a2, a3, a4] st σ Q = Ev sh 228 71 [a0, a1, a2, a3, a4] (.int 1 :: st) σ Q := Ev_step rfl
theorem s_M_runs_71 : Ev sh 228 71 [a0, a1, a2, a3, a4] st σ Q = Ev sh 228 75 [a0, a1, a2, a3, a4] st σ Q := Ev_step rfl
theorem s_M_runs_74 : Ev sh 228 74 [a0, a1, a2, a3, a4] st σ Q = Ev sh 228 75 [a0, a1, a2, a3, a4] (.int 0 :: st) σ Q := Ev_step rfl
theorem s_M_runs_75 : Ev sh 228 75 [a0, a1, a2, a3, a4] (.int x :: st) σ Q = Ev sh 228 77 [a0, a1, a2, zdrop2 a3, some (.int x)] st σ Q := Ev_step rfl
theorem s_M_runs_77 : Ev sh 228 77 [a0, a1, some (.int x), a3, a4] st σ Q = Ev sh 228 78 [a0, a1, some (.int x), a3, a4] (.int x :: st) σ Q := Ev_step rfl
theorem s_M_runs_78 : Ev sh 228 78 [a0, a1, a2, a3, some (.int x)] st σ Q = Ev sh 228 80 [a0, a1, a2, a3, some (.int x)] (.int x :: st) σ Q := Ev_step rfl
theorem s_M_runs_80 : Ev sh 228 80 [a0, a1, a2, a3, a4] (.int x :: st) σ Q = if x = 0 then Ev sh 228 108 [a0, a1, a2, a3, a4] st σ Q else Ev sh 228 83 [a0, a1, a2, a3, a4] st σ Q := Ev_if rfl
theorem s_M_runs_83 : Ev sh 228 83 [a0, some (.int x), a2, a3, a4] st σ Q = Ev sh 228 84 [a0, some (.int x), a2, a3, a4] (.int x :: st) σ Q := Ev_step rfl
theorem s_M_runs_84 : Ev sh 228 84 [a0, a1, a2, a3, a4] (.int x :: st) σ Q = if x = 0 then Ev sh 228 104 [a0, a1, a2, a3, a4] st σ Q else Ev sh 228 87 [a0, a1, a2, a3, a4] st σ Q := Ev_if rfl
theorem s_M_runs_87 : Ev sh 228 87 [some (.ref i), a1, a2, a3, a4] st σ Q = Ev sh 228 88 [some (.ref i), a1, a2, a3, a4] (.ref i :: st) σ Q := Ev_step rfl
theorem s_M_runs_88 (h : sh i = 9) : Ev sh 228 88 [a0, a1, a2, a3, a4] (.ref i :: st) σ Q = Ev sh 228 91 [a0, a1, a2, a3, a4] (.ref 2 :: st) σ Q := Ev_h h rfl
theorem s_M_runs_91 : Ev sh 228 91 [a0, a1, a2, some (.int x), a4] st σ Q = Ev sh 228 92 [a0, a1, a2, some (.int x), a4] (.int x :: st) σ Q := Ev_step rfl
theorem s_M_runs_92 (h : zin x (sh i) = true) : Ev sh 228 92 [a0, a1, a2, a3, a4] (.int x :: .ref i :: st) σ Q = Ev sh 228 93 [a0, a1, a2, a3, a4] (.int (σ i x.toNatClampNeg) :: st) σ Q := Ev_h h rfl
theorem s_M_runs_93 : Ev sh 228 93 [some (.ref i), a1, a2, a3, a4] st σ Q = Ev sh 228 94 [some (.ref i), a1, a2, a3, a4] (.ref i :: st) σ Q := Ev_step rfl
theorem s_M_runs_94 (h : sh i = 9) : Ev sh 228 94 [a0, a1, a2, a3, a4] (.ref i :: st) σ Q = Ev sh 228 97 [a0, a1, a2, a3, a4] (.ref 2 :: st) σ Q := Ev_h h rfl
theorem s_M_runs_97 : Ev sh 228 97 [a0, a1, a2, some (.int x), a4] st σ Q = Ev sh 228 98 [a0, a1, a2, some (.int x), a4] (.int x :: st) σ Q := Ev_step rfl
theorem s_M_runs_98 : Ev sh 228 98 [a0, a1, a2, a3, a4] st σ Q = Ev sh 228 99 [a0, a1, a2, a3, a4] (.int 1 :: st) σ Q := Ev_step rfl
theorem s_M_runs_99 : Ev sh 228 99 [a0, a1, a2, a3, a4] (.int y :: .int x :: st) σ Q = Ev sh 228 100 [a0, a1, a2, a3, a4] (.int (x - y) :: st) σ Q := Ev_step rfl
theorem s_M_runs_100 (h : zin x (sh i) = true) : Ev sh 228 100 [a0, a1, a2, a3, a4] (.int x :: .ref i :: st) σ Q = Ev sh 228 101 [a0, a1, a2, a3, a4] (.int (σ i x.toNatClampNeg) :: st) σ Q := Ev_h h rfl
theorem s_M_runs_101 : Ev sh 228 101 [a0, a1, a2, a3, a4] (.int y :: .int x :: st) σ Q = if x ≠ y then Ev sh 228 108 [a0, a1, a2, a3, a4] st σ Q else Ev sh 228 104 [a0, a1, a2, a3, a4] st σ Q := Ev_if rfl
theorem s_M_runs_104 : Ev sh 228 104 [a0, a1, a2, a3, a4] st σ Q = Ev sh 228 105 [a0, a1, a2, a3, a4] (.int 1 :: st) σ Q := Ev_step rfl
theorem s_M_runs_105 : Ev sh 228 105 [a0, a1, a2, a3, a4] st σ Q = Ev sh 228 109 [a0, a1, a2, a3, a4] st σ Q := Ev_step rfl
theorem s_M_runs_108 : Ev sh 228 108 [a0, a1, a2, a3, a4] st σ Q = Ev sh 228 109 [a0, a1, a2, a3, a4] (.int 0 :: st) σ Q := Ev_step rfl
theorem s_M_runs_109 : Ev sh 228 109 [a0, a1, a2, a3, a4] (.int y :: .int x :: st) σ Q = Ev sh 228 110 [a0, a1, a2, a3, a4] (.int (x + y) :: st) σ Q := Ev_step rfl
theorem s_M_runs_110 : Ev sh 228 110 [a0, a1, a2, a3, a4] (.int x :: st) σ Q = Ev sh 228 111 [a0, zdrop2 a1, some (.int x), a3, a4] st σ Q := Ev_step rfl
theorem s_M_runs_111 : Ev sh 228 111 [a0, a1, a2, some (.int x), a4] st σ Q = Ev sh 228 114 [a0, a1, a2, some (.int (x + 1)), a4] st σ Q := Ev_step rfl
theorem s_M_runs_114 : Ev sh 228 114 [a0, a1, a2, a3, a4] st σ Q = Ev sh 228 45 [a0, a1, a2, a3, a4] st σ Q := Ev_step rfl
theorem s_M_runs_117 : Ev sh 228 117 [a0, a1, some (.int x), a3, a4] st σ Q = Ev sh 228 118 [a0, a1, some (.int x), a3, a4] (.int x :: st) σ Q := Ev_step rfl
theorem s_M_runs_118 : Ev sh 228 118 [a0, a1, a2, a3, a4] [.int x] σ Q = Q (some (.int x)) σ := Ev_ret rfl
theorem s_M_kinds_0 : Ev sh 229 0 [a0, some (.int x), a2, a3] st σ Q = Ev sh 229 1 [a0, some (.int x), a2, a3] (.int x :: st) σ Q := Ev_step rfl
theorem s_M_kinds_1 : Ev sh 229 1 [a0, a1, a2, a3] [.int x0] σ Q = Ev sh 169 0 [some (.int x0)] [] σ (fun r s => Ev sh 229 4 [a0, a1, a2, a3] (zpush r []) s Q) := Ev_call rfl
theorem s_M_kinds_4 : Ev sh 229 4 [a0, a1, a2, a3] (.int x :: st) σ Q = if x ≠ 0 then Ev sh 229 13 [a0, a1, a2, a3] st σ Q else Ev sh 229 7 [a0, a1, a2, a3] st σ Q := Ev_if rfl
theorem s_M_kinds_7 : Ev sh 229 7 [some (.ref i), a1, a2, a3] st σ Q = Ev sh 229 8 [some (.ref i), a1, a2, a3] (.ref i :: st) σ Q := Ev_step rfl
theorem s_M_kinds_8 : Ev sh 229 8 [a0, a1, a2, a3] st σ Q = Ev sh 229 9 [a0, a1, a2, a3] (.int (-1) :: st) σ Q := Ev_step rfl
theorem s_M_kinds_9 (h : sh i0 = 9) : Ev sh 229 9 [a0, a1, a2, a3] [.int x1, .ref i0] σ Q = Ev sh 160 0 [some (.ref i0), some (.int x1)] [] σ (fun r s => Ev sh 229 12 [a0, a1, a2, a3] (zpush r []) s Q) := Ev_callh (zrecv_of (by decide) h) rfl
theorem s_M_kinds_12 : Ev sh 229 12 [a0, a1, a2, a3] [.int x] σ Q = Q (some (.int x)) σ := Ev_ret rfl
theorem s_M_kinds_13 : Ev sh 229 13 [a0, a1, a2, a3] st σ Q = Ev sh 229 14 [a0, a1, a2, a3] (.int 0 :: st) σ Q := Ev_step rfl
theorem s_M_kinds_14 : Ev sh 229 14 [a0, a1, a2, a3] (.int x :: st) σ Q = Ev sh 229 15 [a0, zdrop2 a1, some (.int x), a3] st σ Q := Ev_step rfl
theorem s_M_kinds_15 : Ev sh 229 15 [a0, a1, a2, a3] st σ Q = Ev sh 229 16 [a0, a1, a2, a3] (.int 0 :: st) σ Q := Ev_step rfl
theorem s_M_kinds_16 : Ev sh 229 16 [a0, a1, a2, a3] (.int x :: st) σ Q = Ev sh 229 17 [a0, a1, zdrop2 a2, some (.int x)] st σ Q := Ev_step rfl
theorem s_M_kinds_17 : Ev sh 229 17 [a0, a1, a2, some (.int x)] st σ Q = Ev sh 229 18 [a0, a1, a2, some (.int x)] (.int x :: st) σ Q := Ev_step rfl
theorem s_M_kinds_18 : Ev sh 229 18 [some (.ref i), a1, a2, a3] st σ Q = Ev sh 229 19 [some (.ref i), a1, a2, a3] (.ref i :: st) σ Q := Ev_step rfl
theorem s_M_kinds_19 (h : sh i = 9) : Ev sh 229 19 [a0, a1, a2, a3] (.ref i :: st) σ Q = Ev sh 229 22 [a0, a1, a2, a3] (.int (σ i 7) :: st) σ Q := Ev_h h rfl
theorem s_M_kinds_22 : Ev sh 229 22 [a0, a1, a2, a3] (.int y :: .int x :: st) σ Q = if y ≤ x then Ev sh 229 56 [a0, a1, a2, a3] st σ Q else Ev sh 229 25 [a0, a1, a2, a3] st σ Q := Ev_if rfl
theorem s_M_kinds_25 : Ev sh 229 25 [a0, a1, some (.int x), a3] st σ Q = Ev sh 229 26 [a0, a1, some (.int x), a3] (.int x :: st) σ Q := Ev_step rfl
theorem s_M_kinds_26 : Ev sh 229 26 [some (.ref i), a1, a2, a3] st σ Q = Ev sh 229 27 [some (.ref i), a1, a2, a3] (.ref i :: st) σ Q := Ev_step rfl
theorem s_M_kinds_27 (h : sh i = 9) : Ev sh 229 27 [a0, a1, a2, a3] (.ref i :: st) σ Q = Ev sh 229 30 [a0, a1, a2, a3] (.ref 4 :: st) σ Q := Ev_h h rfl
theorem s_M_kinds_30 : Ev sh 229 30 [a0, a1, a2, some (.int x)] st σ Q = Ev sh 229 31 [a0, a1, a2, some (.int x)] (.int x :: st) σ Q := Ev_step rfl
theorem s_M_kinds_31 (h : zin x (sh i) = true) : Ev sh 229 31 [a0, a1, a2, a3] (.int x :: .ref i :: st) σ Q = Ev sh 229 32 [a0, a1, a2, a3] (.int (σ i x.toNatClampNeg) :: st) σ Q := Ev_h h rfl
theorem s_M_kinds_32 : Ev sh 229 32 [a0, some (.int x), a2, a3] st σ Q = Ev sh 229 33 [a0, some (.int x), a2, a3] (.int x :: st) σ Q := Ev_step rfl
theorem s_M_kinds_33 : Ev sh 229 33 [a0, a1, a2, a3] (.int y :: .int x :: st) σ Q = if x ≠ y then Ev sh 229 47 [a0, a1, a2, a3] st σ Q else Ev sh 229 36 [a0, a1, a2, a3] st σ Q := Ev_if rfl
theorem s_M_kinds_36 : Ev sh 229 36 [a0, a1, a2, a3] st σ Q = Ev sh 229 37 [a0, a1, a2, a3] (.int 1 :: st) σ Q := Ev_step rfl
theorem s_M_kinds_37 : Ev sh 229 37 [some (.ref i), a1, a2, a3] st σ Q = Ev sh 229 38 [some (.ref i), a1, a2, a3] (.ref i :: st) σ Q := Ev_step rfl
theorem s_M_kinds_38 (h : sh i = 9) : Ev sh 229 38 [a0, a1, a2, a3] (.ref i :: st) σ Q = Ev sh 229 41 [a0, a1, a2, a3] (.ref 2 :: st) σ Q := Ev_h h rfl
theorem s_M_kinds_41 : Ev sh 229 41 [a0, a1, a2, some (.int x)] st σ Q = Ev sh 229 42 [a0, a1, a2, some (.int x)] (.int x :: st) σ Q := Ev_step rfl
theorem s_M_kinds_42 (h : zin x (sh i) = true) : Ev sh 229 42 [a0, a1, a2, a3] (.int x :: .ref i :: st) σ Q = Ev sh 229 43 [a0, a1, a2, a3] (.int (σ i x.toNatClampNeg) :: st) σ Q := Ev_h h rfl
theorem s_M_kinds_43 : Ev sh 229 43 [a0, a1, a2, a3] (.int y :: .int x :: st) σ Q = Ev sh 229 44 [a0, a1, a2, a3] (.int (x <<< (y &&& 31)) :: st) σ Q := Ev_step rfl
theorem s_M_kinds_44 : Ev sh 229 44 [a0, a1, a2, a3] st σ Q = Ev sh 229 48 [a0, a1, a2, a3] st σ Q := Ev_step rfl
theorem s_M_kinds_47 : Ev sh 229 47 [a0, a1, a2, a3] st σ Q = Ev sh 229 48 [a0, a1, a2, a3] (.int 0 :: st) σ Q := Ev_step rfl
theorem s_M_kinds_48 : Ev sh 229 48 [a0, a1, a2, a3] (.int y :: .int x :: st) σ Q = Ev sh 229 49 [a0, a1, a2, a3] (.int (x ||| y) :: st) σ Q := Ev_step rfl
theorem s_M_kinds_49 : Ev sh 229 49 [a0, a1, a2, a3] (.int x :: st) σ Q = Ev sh 229 50 [a0, zdrop2 a1, some (.int x), a3] st σ Q := Ev_step rfl
theorem s_M_kinds_50 : Ev sh 229 50 [a0, a1, a2, some (.int x)] st σ Q = Ev sh 229 53 [a0, a1, a2, some (.int (x + 1))] st σ Q := Ev_step rfl
theorem s_M_kinds_53 : Ev sh 229 53 [a0, a1, a2, a3] st σ Q = Ev sh 229 17 [a0, a1, a2, a3] st σ Q := Ev_step rfl
theorem s_M_kinds_56 : Ev sh 229 56 [a0, a1, some (.int x), a3] st σ Q = Ev sh 229 57 [a0, a1, some (.int x), a3] (.int x :: st) σ Q := Ev_step rfl
theorem s_M_kinds_57 : Ev sh 229 57 [a0, a1, a2, a3] [.int x] σ Q = Q (some (.int x)) σ := Ev_ret rfl
theorem s_M_keystone_0 : Ev sh 230 0 [a0, a1, a2] st σ Q = Ev sh 230 2 [a0, a1, a2] (.int (-9) :: st) σ Q := Ev_step rfl
theorem s_M_keystone_2 : Ev sh 230 2 [a0, a1, a2] (.int x :: st) σ Q = Ev sh 230 3 [zdrop2 a0, some (.int x), a2] st σ Q := Ev_step rfl
theorem s_M_keystone_3 : Ev sh 230 3 [a0, a1, a2] st σ Q = Ev sh 230 4 [a0, a1, a2] (.int 0 :: st) σ Q := Ev_step rfl
theorem s_M_keystone_4 : Ev sh 230 4 [a0, a1, a2] (.int x :: st) σ Q = Ev sh 230 5 [a0, zdrop2 a1, some (.int x)] st σ Q := Ev_step rfl
theorem s_M_keystone_5 : Ev sh 230 5 [a0, a1, some (.int x)] st σ Q = Ev sh 230 6 [a0, a1, some (.int x)] (.int x :: st) σ Q := Ev_step rfl
theorem s_M_keystone_6 : Ev sh 230 6 [some (.ref i), a1, a2] st σ Q = Ev sh 230 7 [some (.ref i), a1, a2] (.ref i :: st) σ Q := Ev_step rfl
theorem s_M_keystone_7 (h : sh i = 9) : Ev sh 230 7 [a0, a1, a2] (.ref i :: st) σ Q = Ev sh 230 10 [a0, a1, a2] (.int (σ i 7) :: st) σ Q := Ev_h h rfl
theorem s_M_keystone_10 : Ev sh 230 10 [a0, a1, a2] (.int y :: .int x :: st) σ Q = if y ≤ x then Ev sh 230 42 [a0, a1, a2] st σ Q else Ev sh 230 13 [a0, a1, a2] st σ Q := Ev_if rfl
theorem s_M_keystone_13 : Ev sh 230 13 [a0, some (.int x), a2] st σ Q = Ev sh 230 14 [a0, some (.int x), a2] (.int x :: st) σ Q := Ev_step rfl
theorem s_M_keystone_14 : Ev sh 230 14 [a0, a1, a2] (.int x :: st) σ Q = if x < 0 then Ev sh 230 30 [a0, a1, a2] st σ Q else Ev sh 230 17 [a0, a1, a2] st σ Q := Ev_if rfl
theorem s_M_keystone_17 : Ev sh 230 17 [some (.ref i), a1, a2] st σ Q = Ev sh 230 18 [some (.ref i), a1, a2] (.ref i :: st) σ Q := Ev_step rfl
theorem s_M_keystone_18 : Ev sh 230 18 [a0, a1, some (.int x)] st σ Q = Ev sh 230 19 [a0, a1, some (.int x)] (.int x :: st) σ Q := Ev_step rfl
theorem s_M_keystone_19 (h : sh i0 = 9) : Ev sh 230 19 [a0, a1, a2] [.int x1, .ref i0] σ Q = Ev sh 190 0 [some (.ref i0), some (.int x1), none] [] σ (fun r s => Ev sh 230 22 [a0, a1, a2] (zpush r []) s Q) := Ev_callh (zrecv_of (by decide) h) rfl
theorem s_M_keystone_22 : Ev sh 230 22 [some (.ref i), a1, a2] st σ Q = Ev sh 230 23 [some (.ref i), a1, a2] (.ref i :: st) σ Q := Ev_step rfl
theorem s_M_keystone_23 : Ev sh 230 23 [a0, some (.int x), a2] st σ Q = Ev sh 230 24 [a0, some (.int x), a2] (.int x :: st) σ Q := Ev_step rfl
theorem s_M_keystone_24 (h : sh i1 = 9) : Ev sh 230 24 [a0, a1, a2] [.int x2, .ref i1, .int x0] σ Q = Ev sh 190 0 [some (.ref i1), some (.int x2), none] [] σ (fun r s => Ev sh 230 27 [a0, a1, a2] (zpush r [.int x0]) s Q) := Ev_callh (zrecv_of (by decide) h) rfl
theorem s_M_keystone_27 : Ev sh 230 27 [a0, a1, a2] (.int y :: .int x :: st) σ Q = if x ≤ y then Ev sh 230 34 [a0, a1, a2] st σ Q else Ev sh 230 30 [a0, a1, a2] st σ Q := Ev_if rfl
theorem s_M_keystone_30 : Ev sh 230 30 [a0, a1, some (.int x)] st σ Q = Ev sh 230 31 [a0, a1, some (.int x)] (.int x :: st) σ Q := Ev_step rfl
theorem s_M_keystone_31 : Ev sh 230 31 [a0, a1, a2] st σ Q = Ev sh 230 35 [a0, a1, a2] st σ Q := Ev_step rfl
theorem s_M_keystone_34 : Ev sh 230 34 [a0, some (.int x), a2] st σ Q = Ev sh 230 35 [a0, some (.int x), a2] (.int x :: st) σ Q := Ev_step rfl
theorem s_M_keystone_35 : Ev sh 230 35 [a0, a1, a2] (.int x :: st) σ Q = Ev sh 230 36 [zdrop2 a0, some (.int x), a2] st σ Q := Ev_step rfl
theorem s_M_keystone_36 : Ev sh 230 36 [a0, a1, some (.int x)] st σ Q = Ev sh 230 39 [a0, a1, some (.int (x + 1))] st σ Q := Ev_step rfl
theorem s_M_keystone_39 : Ev sh 230 39 [a0, a1, a2] st σ Q = Ev sh 230 5 [a0, a1, a2] st σ Q := Ev_step rfl
theorem s_M_keystone_42 : Ev sh 230 42 [a0, some (.int x), a2] st σ Q = Ev sh 230 43 [a0, some (.int x), a2] (.int x :: st) σ Q := Ev_step rfl
theorem s_M_keystone_43 : Ev sh 230 43 [a0, a1, a2] [.int x] σ Q = Q (some (.int x)) σ := Ev_ret rfl
theorem s_M_mortar_0 : Ev sh 231 0 [a0, a1, a2] st σ Q = Ev sh 231 1 [a0, a1, a2] (.int 0 :: st) σ Q := Ev_step rfl
theorem s_M_mortar_1 : Ev sh 231 1 [a0, a1, a2] (.int x :: st) σ Q = Ev sh 231 2 [zdrop2 a0, some (.int x), a2] st σ Q := Ev_step rfl
theorem s_M_mortar_2 : Ev sh 231 2 [a0, a1, a2] st σ Q = Ev sh 231 3 [a0, a1, a2] (.int 0 :: st) σ Q := Ev_step rfl
theorem s_M_mortar_3 : Ev sh 231 3 [a0, a1, a2] (.int x :: st) σ Q = Ev sh 231 4 [a0, zdrop2 a1, some (.int x)] st σ Q := Ev_step rfl
theorem s_M_mortar_4 : Ev sh 231 4 [a0, a1, some (.int x)] st σ Q = Ev sh 231 5 [a0, a1, some (.int x)] (.int x :: st) σ Q := Ev_step rfl
theorem s_M_mortar_5 : Ev sh 231 5 [a0, a1, a2] st σ Q = Ev sh 231 6 [a0, a1, a2] (.int 1 :: st) σ Q := Ev_step rfl
theorem s_M_mortar_6 : Ev sh 231 6 [a0, a1, a2] (.int y :: .int x :: st) σ Q = Ev sh 231 7 [a0, a1, a2] (.int (x + y) :: st) σ Q := Ev_step rfl
theorem s_M_mortar_7 : Ev sh 231 7 [some (.ref i), a1, a2] st σ Q = Ev sh 231 8 [some (.ref i), a1, a2] (.ref i :: st) σ Q := Ev_step rfl
theorem s_M_mortar_8 (h : sh i = 9) : Ev sh 231 8 [a0, a1, a2] (.ref i :: st) σ Q = Ev sh 231 11 [a0, a1, a2] (.int (σ i 7) :: st) σ Q := Ev_h h rfl
theorem s_M_mortar_11 : Ev sh 231 11 [a0, a1, a2] (.int y :: .int x :: st) σ Q = if y ≤ x then Ev sh 231 41 [a0, a1, a2] st σ Q else Ev sh 231 14 [a0, a1, a2] st σ Q := Ev_if rfl
theorem s_M_mortar_14 : Ev sh 231 14 [a0, some (.int x), a2] st σ Q = Ev sh 231 15 [a0, some (.int x), a2] (.int x :: st) σ Q := Ev_step rfl
theorem s_M_mortar_15 : Ev sh 231 15 [some (.ref i), a1, a2] st σ Q = Ev sh 231 16 [some (.ref i), a1, a2] (.ref i :: st) σ Q := Ev_step rfl
theorem s_M_mortar_16 : Ev sh 231 16 [a0, a1, some (.int x)] st σ Q = Ev sh 231 17 [a0, a1, some (.int x)] (.int x :: st) σ Q := Ev_step rfl
theorem s_M_mortar_17 (h : sh i1 = 9) : Ev sh 231 17 [a0, a1, a2] [.int x2, .ref i1, .int x0] σ Q = Ev sh 195 0 [some (.ref i1), some (.int x2)] [] σ (fun r s => Ev sh 231 20 [a0, a1, a2] (zpush r [.int x0]) s Q) := Ev_callh (zrecv_of (by decide) h) rfl
theorem s_M_mortar_20 : Ev sh 231 20 [a0, a1, a2] (.int x :: st) σ Q = if 0 ≤ x then Ev sh 231 32 [a0, a1, a2] st σ Q else Ev sh 231 23 [a0, a1, a2] st σ Q := Ev_if rfl
theorem s_M_mortar_23 : Ev sh 231 23 [some (.ref i), a1, a2] st σ Q = Ev sh 231 24 [some (.ref i), a1, a2] (.ref i :: st) σ Q := Ev_step rfl
theorem s_M_mortar_24 : Ev sh 231 24 [a0, a1, some (.int x)] st σ Q = Ev sh 231 25 [a0, a1, some (.int x)] (.int x :: st) σ Q := Ev_step rfl
theorem s_M_mortar_25 (h : sh i1 = 9) : Ev sh 231 25 [a0, a1, a2] [.int x2, .ref i1, .int x0] σ Q = Ev sh 195 0 [some (.ref i1), some (.int x2)] [] σ (fun r s => Ev sh 231 28 [a0, a1, a2] (zpush r [.int x0]) s Q) := Ev_callh (zrecv_of (by decide) h) rfl
theorem s_M_mortar_28 : Ev sh 231 28 [a0, a1, a2] (.int x :: st) σ Q = Ev sh 231 29 [a0, a1, a2] (.int (-x) :: st) σ Q := Ev_step rfl
theorem s_M_mortar_29 : Ev sh 231 29 [a0, a1, a2] st σ Q = Ev sh 231 33 [a0, a1, a2] st σ Q := Ev_step rfl
theorem s_M_mortar_32 : Ev sh 231 32 [a0, a1, a2] st σ Q = Ev sh 231 33 [a0, a1, a2] (.int 0 :: st) σ Q := Ev_step rfl
theorem s_M_mortar_33 : Ev sh 231 33 [a0, a1, a2] (.int y :: .int x :: st) σ Q = Ev sh 231 34 [a0, a1, a2] (.int (x + y) :: st) σ Q := Ev_step rfl
theorem s_M_mortar_34 : Ev sh 231 34 [a0, a1, a2] (.int x :: st) σ Q = Ev sh 231 35 [zdrop2 a0, some (.int x), a2] st σ Q := Ev_step rfl
theorem s_M_mortar_35 : Ev sh 231 35 [a0, a1, some (.int x)] st σ Q = Ev sh 231 38 [a0, a1, some (.int (x + 1))] st σ Q := Ev_step rfl
theorem s_M_mortar_38 : Ev sh 231 38 [a0, a1, a2] st σ Q = Ev sh 231 4 [a0, a1, a2] st σ Q := Ev_step rfl
theorem s_M_mortar_41 : Ev sh 231 41 [a0, some (.int x), a2] st σ Q = Ev sh 231 42 [a0, some (.int x), a2] (.int x :: st) σ Q := Ev_step rfl
theorem s_M_mortar_42 : Ev sh 231 42 [a0, a1, a2] [.int x] σ Q = Q (some (.int x)) σ := Ev_ret rfl
theorem s_M_quarrelsIn_0 : Ev sh 232 0 [some (.ref i), a1, a2] st σ Q = Ev sh 232 1 [some (.ref i), a1, a2] (.ref i :: st) σ Q := Ev_step rfl
theorem s_M_quarrelsIn_1 (h : sh i0 = 9) : Ev sh 232 1 [a0, a1, a2] [.ref i0] σ Q = Ev sh 184 0 [some (.ref i0)] [] σ (fun r s => Ev sh 232 4 [a0, a1, a2] (zpush r []) s Q) := Ev_callh (zrecv_of (by decide) h) rfl
theorem s_M_quarrelsIn_4 : Ev sh 232 4 [some (.ref i), a1, a2] st σ Q = Ev sh 232 5 [some (.ref i), a1, a2] (.ref i :: st) σ Q := Ev_step rfl
theorem s_M_quarrelsIn_5 : Ev sh 232 5 [a0, some (.int x), a2] st σ Q = Ev sh 232 6 [a0, some (.int x), a2] (.int x :: st) σ Q := Ev_step rfl
theorem s_M_quarrelsIn_6 (h : sh i0 = 9) : Ev sh 232 6 [a0, a1, a2] [.int x1, .ref i0] σ Q = Ev sh 203 0 [some (.ref i0), some (.int x1), none] [] σ (fun r s => Ev sh 232 9 [a0, a1, a2] (zpush r []) s Q) := Ev_callh (zrecv_of (by decide) h) rfl
theorem s_M_quarrelsIn_9 : Ev sh 232 9 [some (.ref i), a1, a2] st σ Q = Ev sh 232 10 [some (.ref i), a1, a2] (.ref i :: st) σ Q := Ev_step rfl
theorem s_M_quarrelsIn_10 (h : sh i = 9) : Ev sh 232 10 [a0, a1, a2] (.ref i :: st) σ Q = Ev sh 232 13 [a0, a1, a2] (.int (σ i 8) :: st) σ Q := Ev_h h rfl
theorem s_M_quarrelsIn_13 : Ev sh 232 13 [a0, a1, a2] (.int x :: st) σ Q = Ev sh 232 14 [a0, zdrop2 a1, some (.int x)] st σ Q := Ev_step rfl
theorem s_M_quarrelsIn_14 : Ev sh 232 14 [some (.ref i), a1, a2] st σ Q = Ev sh 232 15 [some (.ref i), a1, a2] (.ref i :: st) σ Q := Ev_step rfl
theorem s_M_quarrelsIn_15 (h : sh i0 = 9) : Ev sh 232 15 [a0, a1, a2] [.ref i0] σ Q = Ev sh 185 0 [some (.ref i0)] [] σ (fun r s => Ev sh 232 18 [a0, a1, a2] (zpush r []) s Q) := Ev_callh (zrecv_of (by decide) h) rfl
theorem s_M_quarrelsIn_18 : Ev sh 232 18 [a0, a1, some (.int x)] st σ Q = Ev sh 232 19 [a0, a1, some (.int x)] (.int x :: st) σ Q := Ev_step rfl
theorem s_M_quarrelsIn_19 : Ev sh 232 19 [a0, a1, a2] [.int x] σ Q = Q (some (.int x)) σ := Ev_ret rfl
theorem s_M_quarrelsWithout_0 : Ev sh 233 0 [some (.ref i), a1, a2, a3, a4] st σ Q = Ev sh 233 1 [some (.ref i), a1, a2, a3, a4] (.ref i :: st) σ Q := Ev_step rfl
theorem s_M_quarrelsWithout_1 (h : sh i = 9) : Ev sh 233 1 [a0, a1, a2, a3, a4] (.ref i :: st) σ Q = Ev sh 233 4 [a0, a1, a2, a3, a4] (.ref 7 :: st) σ Q := Ev_h h rfl
theorem s_M_quarrelsWithout_4 : Ev sh 233 4 [a0, some (.int x), a2, a3, a4] st σ Q = Ev sh 233 5 [a0, some (.int x), a2, a3, a4] (.int x :: st) σ Q := Ev_step rfl
theorem s_M_quarrelsWithout_5 (h : zin x (sh i) = true) : Ev sh 233 5 [a0, a1, a2, a3, a4] (.int x :: .ref i :: st) σ Q = Ev sh 233 6 [a0, a1, a2, a3, a4] (.int (σ i x.toNatClampNeg) :: st) σ Q := Ev_h h rfl
theorem s_M_quarrelsWithout_6 : Ev sh 233 6 [a0, a1, a2, a3, a4] (.int x :: st) σ Q = Ev sh 233 7 [a0, a1, zdrop2 a2, some (.int x), a4] st σ Q := Ev_step rfl
theorem s_M_quarrelsWithout_7 : Ev sh 233 7 [some (.ref i), a1, a2, a3, a4] st σ Q = Ev sh 233 8 [some (.ref i), a1, a2, a3, a4] (.ref i :: st) σ Q := Ev_step rfl
theorem s_M_quarrelsWithout_8 (h : sh i = 9) : Ev sh 233 8 [a0, a1, a2, a3, a4] (.ref i :: st) σ Q = Ev sh 233 11 [a0, a1, a2, a3, a4] (.ref 7 :: st) σ Q := Ev_h h rfl
theorem s_M_quarrelsWithout_11 : Ev sh 233 11 [a0, some (.int x), a2, a3, a4] st σ Q = Ev sh 233 12 [a0, some (.int x), a2, a3, a4] (.int x :: st) σ Q := Ev_step rfl
theorem s_M_quarrelsWithout_12 : Ev sh 233 12 [a0, a1, a2, a3, a4] st σ Q = Ev sh 233 13 [a0, a1, a2, a3, a4] (.int 0 :: st) σ Q := Ev_step rfl
theorem s_M_quarrelsWithout_13 (h : zin x (sh i) = true) : Ev sh 233 13 [a0, a1, a2, a3, a4] (.int y :: .int x :: .ref i :: st) σ Q = Ev sh 233 14 [a0, a1, a2, a3, a4] st (zup σ i x.toNatClampNeg y) Q := Ev_h h rfl
theorem s_M_quarrelsWithout_14 : Ev sh 233 14 [some (.ref i), a1, a2, a3, a4] st σ Q = Ev sh 233 15 [some (.ref i), a1, a2, a3, a4] (.ref i :: st) σ Q := Ev_step rfl
theorem s_M_quarrelsWithout_15 : Ev sh 233 15 [a0, a1, some (.int x), a3, a4] st σ Q = Ev sh 233 16 [a0, a1, some (.int x), a3, a4] (.int x :: st) σ Q := Ev_step rfl
theorem s_M_quarrelsWithout_16 (h : sh i0 = 9) : Ev sh 233 16 [a0, a1, a2, a3, a4] [.int x1, .ref i0] σ Q = Ev sh 232 0 [some (.ref i0), some (.int x1), none] [] σ (fun r s => Ev sh 233 19 [a0, a1, a2, a3, a4] (zpush r []) s Q) := Ev_callh (zrecv_of (by decide) h) rfl
theorem s_M_quarrelsWithout_19 : Ev sh 233 19 [a0, a1, a2, a3, a4] (.int x :: st) σ Q = Ev sh 233 21 [a0, a1, a2, zdrop2 a3, some (.int x)] st σ Q := Ev_step rfl
theorem s_M_quarrelsWithout_21 : Ev sh 233 21 [some (.ref i), a1, a2, a3, a4] st σ Q = Ev sh 233 22 [some (.ref i), a1, a2, a3, a4] (.ref i :: st) σ Q := Ev_step rfl
theorem s_M_quarrelsWithout_22 (h : sh i = 9) : Ev sh 233 22 [a0, a1, a2, a3, a4] (.ref i :: st) σ Q = Ev sh 233 25 [a0, a1, a2, a3, a4] (.ref 7 :: st) σ Q := Ev_h h rfl
theorem s_M_quarrelsWithout_25 : Ev sh 233 25 [a0, some (.int x), a2, a3, a4] st σ Q = Ev sh 233 26 [a0, some (.int x), a2, a3, a4] (.int x :: st) σ Q := Ev_step rfl
theorem s_M_quarrelsWithout_26 : Ev sh 233 26 [a0, a1, a2, some (.int x), a4] st σ Q = Ev sh 233 27 [a0, a1, a2, some (.int x), a4] (.int x :: st) σ Q := Ev_step rfl
theorem s_M_quarrelsWithout_27 (h : zin x (sh i) = true) : Ev sh 233 27 [a0, a1, a2, a3, a4] (.int y :: .int x :: .ref i :: st) σ Q = Ev sh 233 28 [a0, a1, a2, a3, a4] st (zup σ i x.toNatClampNeg y) Q := Ev_h h rfl
theorem s_M_quarrelsWithout_28 : Ev sh 233 28 [a0, a1, a2, a3, some (.int x)] st σ Q = Ev sh 233 30 [a0, a1, a2, a3, some (.int x)] (.int x :: st) σ Q := Ev_step rfl
theorem s_M_quarrelsWithout_30 : Ev sh 233 30 [a0, a1, a2, a3, a4] [.int x] σ Q = Q (some (.int x)) σ := Ev_ret rfl
theorem s_M_yields_0 : Ev sh 234 0 [a0, some (.int x), a2, a3, a4, a5, a6] st σ Q = Ev sh 234 1 [a0, some (.int x), a2, a3, a4, a5, a6] (.int x :: st) σ Q := Ev_step rfl
theorem s_M_yields_1 : Ev sh 234 1 [a0, a1, a2, a3, a4, a5, a6] st σ Q = Ev sh 234 2 [a0, a1, a2, a3, a4, a5, a6] (.int 0 :: st) σ Q := Ev_step rfl
theorem s_M_yields_2 : Ev sh 234 2 [a0, a1, a2, a3, a4, a5, a6] st σ Q = Ev sh 234 4 [a0, a1, a2, a3, a4, a5, a6] (.int 60 :: st) σ Q := Ev_step rfl
theorem s_M_yields_4 : Ev sh 234 4 [a0, a1, a2, a3, a4, a5, a6] [.int x2, .int x1, .int x0] σ Q = Ev sh 164 0 [some (.int x0), some (.int x1), some (.int x2)] [] σ (fun r s => Ev sh 234 7 [a0, a1, a2, a3, a4, a5, a6] (zpush r []) s Q) := Ev_call rfl
theorem s_M_yields_7 : Ev sh 234 7 [a0, a1, a2, a3, a4, a5, a6] (.int x :: st) σ Q = Ev sh 234 8 [a0, zdrop2 a1, some (.int x), a3, a4, a5, a6] st σ Q := Ev_step rfl
theorem s_M_yields_8 : Ev sh 234 8 [a0, a1, some (.int x), a3, a4, a5, a6] st σ Q = Ev sh 234 9 [a0, a1, some (.int x), a3, a4, a5, a6] (.int x :: st) σ Q := Ev_step rfl
theorem s_M_yields_9 : Ev sh 234 9 [a0, a1, a2, a3, a4, a5, a6] (.int x :: st) σ Q = if x = 0 then Ev sh 234 18 [a0, a1, a2, a3, a4, a5, a6] st σ Q else Ev sh 234 12 [a0, a1, a2, a3, a4, a5, a6] st σ Q := Ev_if rfl
theorem s_M_yields_12 : Ev sh 234 12 [some (.ref i), a1, a2, a3, a4, a5, a6] st σ Q = Ev sh 234 13 [some (.ref i), a1, a2, a3, a4, a5, a6] (.ref i :: st) σ Q := Ev_step rfl
theorem s_M_yields_13 : Ev sh 234 13 [a0, a1, some (.int x), a3, a4, a5, a6] st σ Q = Ev sh 234 14 [a0, a1, some (.int x), a3, a4, a5, a6] (.int x :: st) σ Q := Ev_step rfl
theorem s_M_yields_14 (h : sh i0 = 9) : Ev sh 234 14 [a0, a1, a2, a3, a4, a5, a6] [.int x1, .ref i0] σ Q = Ev sh 160 0 [some (.ref i0), some (.int x1)] [] σ (fun r s => Ev sh 234 17 [a0, a1, a2, a3, a4, a5, a6] (zpush r []) s Q) := Ev_callh (zrecv_of (by decide) h) rfl
theorem s_M_yields_17 : Ev sh 234 17 [a0, a1, a2, a3, a4, a5, a6] [.int x] σ Q = Q (some (.int x)) σ := Ev_ret rfl
theorem s_M_yields_18 : Ev sh 234 18 [some (.ref i), a1, a2, a3, a4, a5, a6] st σ Q = Ev sh 234 19 [some (.ref i), a1, a2, a3, a4, a5, a6] (.ref i :: st) σ Q := Ev_step rfl
theorem s_M_yields_19 : Ev sh 234 19 [a0, some (.int x), a2, a3, a4, a5, a6] st σ Q = Ev sh 234 20 [a0, some (.int x), a2, a3, a4, a5, a6] (.int x :: st) σ Q := Ev_step rfl
theorem s_M_yields_20 (h : sh i0 = 9) : Ev sh 234 20 [a0, a1, a2, a3, a4, a5, a6] [.int x1, .ref i0] σ Q = Ev sh 232 0 [some (.ref i0), some (.int x1), none] [] σ (fun r s => Ev sh 234 23 [a0, a1, a2, a3, a4, a5, a6] (zpush r []) s Q) := Ev_callh (zrecv_of (by decide) h) rfl
theorem s_M_yields_23 : Ev sh 234 23 [a0, a1, a2, a3, a4, a5, a6] (.int x :: st) σ Q = Ev sh 234 24 [a0, a1, zdrop2 a2, some (.int x), a4, a5, a6] st σ Q := Ev_step rfl
theorem s_M_yields_24 : Ev sh 234 24 [some (.ref i), a1, a2, a3, a4, a5, a6] st σ Q = Ev sh 234 25 [some (.ref i), a1, a2, a3, a4, a5, a6] (.ref i :: st) σ Q := Ev_step rfl
theorem s_M_yields_25 : Ev sh 234 25 [a0, a1, a2, a3, a4, a5, a6] st σ Q = Ev sh 234 26 [a0, a1, a2, a3, a4, a5, a6] (.int 0 :: st) σ Q := Ev_step rfl
theorem s_M_yields_26 : Ev sh 234 26 [a0, some (.int x), a2, a3, a4, a5, a6] st σ Q = Ev sh 234 27 [a0, some (.int x), a2, a3, a4, a5, a6] (.int x :: st) σ Q := Ev_step rfl
theorem s_M_yields_27 (h : sh i0 = 9) : Ev sh 234 27 [a0, a1, a2, a3, a4, a5, a6] [.int x2, .int x1, .ref i0] σ Q = Ev sh 233 0 [some (.ref i0), some (.int x1), some (.int x2), none, none] [] σ (fun r s => Ev sh 234 30 [a0, a1, a2, a3, a4, a5, a6] (zpush r []) s Q) := Ev_callh (zrecv_of (by decide) h) rfl
theorem s_M_yields_30 : Ev sh 234 30 [a0, a1, a2, a3, a4, a5, a6] (.int x :: st) σ Q = Ev sh 234 32 [a0, a1, a2, zdrop2 a3, some (.int x), a5, a6] st σ Q := Ev_step rfl
theorem s_M_yields_32 : Ev sh 234 32 [some (.ref i), a1, a2, a3, a4, a5, a6] st σ Q = Ev sh 234 33 [some (.ref i), a1, a2, a3, a4, a5, a6] (.ref i :: st) σ Q := Ev_step rfl
theorem s_M_yields_33 : Ev sh 234 33 [a0, a1, a2, a3, a4, a5, a6] st σ Q = Ev sh 234 34 [a0, a1, a2, a3, a4, a5, a6] (.int 1 :: st) σ Q := Ev_step rfl
theorem s_M_yields_34 : Ev sh 234 34 [a0, some (.int x), a2, a3, a4, a5, a6] st σ Q = Ev sh 234 35 [a0, some (.int x), a2, a3, a4, a5, a6] (.int x :: st) σ Q := Ev_step rfl
theorem s_M_yields_35 (h : sh i0 = 9) : Ev sh 234 35 [a0, a1, a2, a3, a4, a5, a6] [.int x2, .int x1, .ref i0] σ Q = Ev sh 233 0 [some (.ref i0), some (.int x1), some (.int x2), none, none] [] σ (fun r s => Ev sh 234 38 [a0, a1, a2, a3, a4, a5, a6] (zpush r []) s Q) := Ev_callh (zrecv_of (by decide) h) rfl
theorem s_M_yields_38 : Ev sh 234 38 [a0, a1, a2, a3, a4, a5, a6] (.int x :: st) σ Q = Ev sh 234 40 [a0, a1, a2, a3, zdrop2 a4, some (.int x), a6] st σ Q := Ev_step rfl
theorem s_M_yields_40 : Ev sh 234 40 [a0, a1, a2, a3, some (.int x), a5, a6] st σ Q = Ev sh 234 42 [a0, a1, a2, a3, some (.int x), a5, a6] (.int x :: st) σ Q := Ev_step rfl
theorem s_M_yields_42 : Ev sh 234 42 [a0, a1, a2, a3, a4, some (.int x), a6] st σ Q = Ev sh 234 44 [a0, a1, a2, a3, a4, some (.int x), a6] (.int x :: st) σ Q := Ev_step rfl
theorem s_M_yields_44 : Ev sh 234 44 [a0, a1, a2, a3, a4, a5, a6] (.int y :: .int x :: st) σ Q = if y ≤ x then Ev sh 234 52 [a0, a1, a2, a3, a4, a5, a6] st σ Q else Ev sh 234 47 [a0, a1, a2, a3, a4, a5, a6] st σ Q := Ev_if rfl
theorem s_M_yields_47 : Ev sh 234 47 [a0, a1, a2, a3, some (.int x), a5, a6] st σ Q = Ev sh 234 49 [a0, a1, a2, a3, some (.int x), a5, a6] (.int x :: st) σ Q := Ev_step rfl
theorem s_M_yields_49 : Ev sh 234 49 [a0, a1, a2, a3, a4, a5, a6] st σ Q = Ev sh 234 54 [a0, a1, a2, a3, a4, a5, a6] st σ Q := Ev_step rfl
theorem s_M_yields_52 : Ev sh 234 52 [a0, a1, a2, a3, a4, some (.int x), a6] st σ Q = Ev sh 234 54 [a0, a1, a2, a3, a4, some (.int x), a6] (.int x :: st) σ Q := Ev_step rfl
theorem s_M_yields_54 : Ev sh 234 54 [a0, a1, a2, a3, a4, a5, a6] (.int x :: st) σ Q = Ev sh 234 56 [a0, a1, a2, a3, a4, zdrop2 a5, some (.int x)] st σ Q := Ev_step rfl
theorem s_M_yields_56 : Ev sh 234 56 [a0, a1, a2, a3, a4, a5, some (.int x)] st σ Q = Ev sh 234 58 [a0, a1, a2, a3, a4, a5, some (.int x)] (.int x :: st) σ Q := Ev_step rfl
theorem s_M_yields_58 : Ev sh 234 58 [a0, a1, a2, some (.int x), a4, a5, a6] st σ Q = Ev sh 234 59 [a0, a1, a2, some (.int x), a4, a5, a6] (.int x :: st) σ Q := Ev_step rfl
theorem s_M_yields_59 : Ev sh 234 59 [a0, a1, a2, a3, a4, a5, a6] (.int y :: .int x :: st) σ Q = if x < y then Ev sh 234 67 [a0, a1, a2, a3, a4, a5, a6] st σ Q else Ev sh 234 62 [a0, a1, a2, a3, a4, a5, a6] st σ Q := Ev_if rfl
theorem s_M_yields_62 : Ev sh 234 62 [a0, a1, a2, a3, a4, a5, a6] st σ Q = Ev sh 234 64 [a0, a1, a2, a3, a4, a5, a6] (.int (-9) :: st) σ Q := Ev_step rfl
theorem s_M_yields_64 : Ev sh 234 64 [a0, a1, a2, a3, a4, a5, a6] st σ Q = Ev sh 234 79 [a0, a1, a2, a3, a4, a5, a6] st σ Q := Ev_step rfl
theorem s_M_yields_67 : Ev sh 234 67 [a0, a1, a2, a3, some (.int x), a5, a6] st σ Q = Ev sh 234 69 [a0, a1, a2, a3, some (.int x), a5, a6] (.int x :: st) σ Q := Ev_step rfl
theorem s_M_yields_69 : Ev sh 234 69 [a0, a1, a2, a3, a4, some (.int x), a6] st σ Q = Ev sh 234 71 [a0, a1, a2, a3, a4, some (.int x), a6] (.int x :: st) σ Q := Ev_step rfl
theorem s_M_yields_71 : Ev sh 234 71 [a0, a1, a2, a3, a4, a5, a6] (.int y :: .int x :: st) σ Q = if y < x then Ev sh 234 78 [a0, a1, a2, a3, a4, a5, a6] st σ Q else Ev sh 234 74 [a0, a1, a2, a3, a4, a5, a6] st σ Q := Ev_if rfl
theorem s_M_yields_74 : Ev sh 234 74 [a0, a1, a2, a3, a4, a5, a6] st σ Q = Ev sh 234 75 [a0, a1, a2, a3, a4, a5, a6] (.int 0 :: st) σ Q := Ev_step rfl
theorem s_M_yields_75 : Ev sh 234 75 [a0, a1, a2, a3, a4, a5, a6] st σ Q = Ev sh 234 79 [a0, a1, a2, a3, a4, a5, a6] st σ Q := Ev_step rfl
theorem s_M_yields_78 : Ev sh 234 78 [a0, a1, a2, a3, a4, a5, a6] st σ Q = Ev sh 234 79 [a0, a1, a2, a3, a4, a5, a6] (.int 1 :: st) σ Q := Ev_step rfl
theorem s_M_yields_79 : Ev sh 234 79 [a0, a1, a2, a3, a4, a5, a6] [.int x] σ Q = Q (some (.int x)) σ := Ev_ret rfl
theorem s_M_findStyle_0 : Ev sh 235 0 [some (.ref i), a1, a2, a3, a4, a5] st σ Q = Ev sh 235 1 [some (.ref i), a1, a2, a3, a4, a5] (.ref i :: st) σ Q := Ev_step rfl
theorem s_M_findStyle_1 (h : sh i = 9) : Ev sh 235 1 [a0, a1, a2, a3, a4, a5] (.ref i :: st) σ Q = Ev sh 235 4 [a0, a1, a2, a3, a4, a5] (.ref 5 :: st) σ Q := Ev_h h rfl
theorem s_M_findStyle_4 : Ev sh 235 4 [a0, some (.int x), a2, a3, a4, a5] st σ Q = Ev sh 235 5 [a0, some (.int x), a2, a3, a4, a5] (.int x :: st) σ Q := Ev_step rfl
theorem s_M_findStyle_5 (h : zin x (sh i) = true) : Ev sh 235 5 [a0, a1, a2, a3, a4, a5] (.int x :: .ref i :: st) σ Q = Ev sh 235 6 [a0, a1, a2, a3, a4, a5] (.int (σ i x.toNatClampNeg) :: st) σ Q := Ev_h h rfl
theorem s_M_findStyle_6 : Ev sh 235 6 [a0, a1, a2, a3, a4, a5] (.int x :: st) σ Q = Ev sh 235 7 [a0, a1, zdrop2 a2, some (.int x), a4, a5] st σ Q := Ev_step rfl
theorem s_M_findStyle_7 : Ev sh 235 7 [some (.ref i), a1, a2, a3, a4, a5] st σ Q = Ev sh 235 8 [some (.ref i), a1, a2, a3, a4, a5] (.ref i :: st) σ Q := Ev_step rfl
theorem s_M_findStyle_8 : Ev sh 235 8 [a0, a1, a2, a3, a4, a5] st σ Q = Ev sh 235 10 [a0, a1, a2, a3, a4, a5] (.int (-9) :: st) σ Q := Ev_step rfl
theorem s_M_findStyle_10 (h : sh i = 9) : Ev sh 235 10 [a0, a1, a2, a3, a4, a5] (.int x :: .ref i :: st) σ Q = Ev sh 235 13 [a0, a1, a2, a3, a4, a5] st (zup σ i 21 x) Q := Ev_h h rfl
theorem s_M_findStyle_13 : Ev sh 235 13 [a0, a1, a2, a3, a4, a5] st σ Q = Ev sh 235 14 [a0, a1, a2, a3, a4, a5] (.int 0 :: st) σ Q := Ev_step rfl
theorem s_M_findStyle_14 : Ev sh 235 14 [a0, a1, a2, a3, a4, a5] (.int x :: st) σ Q = Ev sh 235 16 [a0, a1, a2, zdrop2 a3, some (.int x), a5] st σ Q := Ev_step rfl
theorem s_M_findStyle_16 : Ev sh 235 16 [a0, a1, a2, a3, some (.int x), a5] st σ Q = Ev sh 235 18 [a0, a1, a2, a3, some (.int x), a5] (.int x :: st) σ Q := Ev_step rfl
theorem s_M_findStyle_18 : Ev sh 235 18 [a0, a1, a2, a3, a4, a5] st σ Q = Ev sh 235 20 [a0, a1, a2, a3, a4, a5] (.int 6 :: st) σ Q := Ev_step rfl
theorem s_M_findStyle_20 : Ev sh 235 20 [a0, a1, a2, a3, a4, a5] (.int y :: .int x :: st) σ Q = if y ≤ x then Ev sh 235 87 [a0, a1, a2, a3, a4, a5] st σ Q else Ev sh 235 23 [a0, a1, a2, a3, a4, a5] st σ Q := Ev_if rfl
theorem s_M_findStyle_23 : Ev sh 235 23 [some (.ref i), a1, a2, a3, a4, a5] st σ Q = Ev sh 235 24 [some (.ref i), a1, a2, a3, a4, a5] (.ref i :: st) σ Q := Ev_step rfl
theorem s_M_findStyle_24 (h : sh i = 9) : Ev sh 235 24 [a0, a1, a2, a3, a4, a5] (.ref i :: st) σ Q = Ev sh 235 27 [a0, a1, a2, a3, a4, a5] (.ref 5 :: st) σ Q := Ev_h h rfl
theorem s_M_findStyle_27 : Ev sh 235 27 [a0, some (.int x), a2, a3, a4, a5] st σ Q = Ev sh 235 28 [a0, some (.int x), a2, a3, a4, a5] (.int x :: st) σ Q := Ev_step rfl
theorem s_M_findStyle_28 : Ev sh 235 28 [a0, a1, a2, a3, some (.int x), a5] st σ Q = Ev sh 235 30 [a0, a1, a2, a3, some (.int x), a5] (.int x :: st) σ Q := Ev_step rfl
theorem s_M_findStyle_30 (h : zin x (sh i) = true) : Ev sh 235 30 [a0, a1, a2, a3, a4, a5] (.int y :: .int x :: .ref i :: st) σ Q = Ev sh 235 31 [a0, a1, a2, a3, a4, a5] st (zup σ i x.toNatClampNeg y) Q := Ev_h h rfl
theorem s_M_findStyle_31 : Ev sh 235 31 [some (.ref i), a1, a2, a3, a4, a5] st σ Q = Ev sh 235 32 [some (.ref i), a1, a2, a3, a4, a5] (.ref i :: st) σ Q := Ev_step rfl
theorem s_M_findStyle_32 (h : sh i0 = 9) : Ev sh 235 32 [a0, a1, a2, a3, a4, a5] [.ref i0] σ Q = Ev sh 184 0 [some (.ref i0)] [] σ (fun r s => Ev sh 235 35 [a0, a1, a2, a3, a4, a5] (zpush r []) s Q) := Ev_callh (zrecv_of (by decide) h) rfl
theorem s_M_findStyle_35 : Ev sh 235 35 [some (.ref i), a1, a2, a3, a4, a5] st σ Q = Ev sh 235 36 [some (.ref i), a1, a2, a3, a4, a5] (.ref i :: st) σ Q := Ev_step rfl
theorem s_M_findStyle_36 : Ev sh 235 36 [a0, a1, some (.int x), a3, a4, a5] st σ Q = Ev sh 235 37 [a0, a1, some (.int x), a3, a4, a5] (.int x :: st) σ Q := Ev_step rfl
theorem s_M_findStyle_37 (h : sh i0 = 9) : Ev sh 235 37 [a0, a1, a2, a3, a4, a5] [.int x1, .ref i0] σ Q = Ev sh 203 0 [some (.ref i0), some (.int x1), none] [] σ (fun r s => Ev sh 235 40 [a0, a1, a2, a3, a4, a5] (zpush r []) s Q) := Ev_callh (zrecv_of (by decide) h) rfl
theorem s_M_findStyle_40 : Ev sh 235 40 [some (.ref i), a1, a2, a3, a4, a5] st σ Q = Ev sh 235 41 [some (.ref i), a1, a2, a3, a4, a5] (.ref i :: st) σ Q := Ev_step rfl
theorem s_M_findStyle_41 (h : sh i0 = 9) : Ev sh 235 41 [a0, a1, a2, a3, a4, a5] [.ref i0] σ Q = Ev sh 200 0 [some (.ref i0)] [] σ (fun r s => Ev sh 235 44 [a0, a1, a2, a3, a4, a5] (zpush r []) s Q) := Ev_callh (zrecv_of (by decide) h) rfl
theorem s_M_findStyle_44 : Ev sh 235 44 [a0, a1, a2, a3, a4, a5] (.int x :: st) σ Q = Ev sh 235 46 [a0, a1, a2, a3, zdrop2 a4, some (.int x)] st σ Q := Ev_step rfl
theorem s_M_findStyle_46 : Ev sh 235 46 [some (.ref i), a1, a2, a3, a4, a5] st σ Q = Ev sh 235 47 [some (.ref i), a1, a2, a3, a4, a5] (.ref i :: st) σ Q := Ev_step rfl
theorem s_M_findStyle_47 (h : sh i0 = 9) : Ev sh 235 47 [a0, a1, a2, a3, a4, a5] [.ref i0] σ Q = Ev sh 185 0 [some (.ref i0)] [] σ (fun r s => Ev sh 235 50 [a0, a1, a2, a3, a4, a5] (zpush r []) s Q) := Ev_callh (zrecv_of (by decide) h) rfl
theorem s_M_findStyle_50 : Ev sh 235 50 [some (.ref i), a1, a2, a3, a4, a5] st σ Q = Ev sh 235 51 [some (.ref i), a1, a2, a3, a4, a5] (.ref i :: st) σ Q := Ev_step rfl
theorem s_M_findStyle_51 (h : sh i = 9) : Ev sh 235 51 [a0, a1, a2, a3, a4, a5] (.ref i :: st) σ Q = Ev sh 235 54 [a0, a1, a2, a3, a4, a5] (.int (σ i 21) :: st) σ Q := Ev_h h rfl
theorem s_M_findStyle_54 : Ev sh 235 54 [a0, a1, a2, a3, a4, a5] (.int x :: st) σ Q = if x < 0 then Ev sh 235 69 [a0, a1, a2, a3, a4, a5] st σ Q else Ev sh 235 57 [a0, a1, a2, a3, a4, a5] st σ Q := Ev_if rfl
theorem s_M_findStyle_57 : Ev sh 235 57 [a0, a1, a2, a3, a4, some (.int x)] st σ Q = Ev sh 235 59 [a0, a1, a2, a3, a4, some (.int x)] (.int x :: st) σ Q := Ev_step rfl
theorem s_M_findStyle_59 : Ev sh 235 59 [some (.ref i), a1, a2, a3, a4, a5] st σ Q = Ev sh 235 60 [some (.ref i), a1, a2, a3, a4, a5] (.ref i :: st) σ Q := Ev_step rfl
theorem s_M_findStyle_60 (h : sh i = 9) : Ev sh 235 60 [a0, a1, a2, a3, a4, a5] (.ref i :: st) σ Q = Ev sh 235 63 [a0, a1, a2, a3, a4, a5] (.int (σ i 22) :: st) σ Q := Ev_h h rfl
theorem s_M_findStyle_63 : Ev sh 235 63 [a0, a1, a2, a3, a4, a5] (.int y :: .int x :: st) σ Q = if y < x then Ev sh 235 69 [a0, a1, a2, a3, a4, a5] st σ Q else Ev sh 235 66 [a0, a1, a2, a3, a4, a5] st σ Q := Ev_if rfl
theorem s_M_findStyle_66 : Ev sh 235 66 [a0, a1, a2, a3, a4, a5] st σ Q = Ev sh 235 81 [a0, a1, a2, a3, a4, a5] st σ Q := Ev_step rfl
theorem s_M_findStyle_69 : Ev sh 235 69 [some (.ref i), a1, a2, a3, a4, a5] st σ Q = Ev sh 235 70 [some (.ref i), a1, a2, a3, a4, a5] (.ref i :: st) σ Q := Ev_step rfl
theorem s_M_findStyle_70 : Ev sh 235 70 [a0, a1, a2, a3, some (.int x), a5] st σ Q = Ev sh 235 72 [a0, a1, a2, a3, some (.int x), a5] (.int x :: st) σ Q := Ev_step rfl
theorem s_M_findStyle_72 (h : sh i = 9) : Ev sh 235 72 [a0, a1, a2, a3, a4, a5] (.int x :: .ref i :: st) σ Q = Ev sh 235 75 [a0, a1, a2, a3, a4, a5] st (zup σ i 21 x) Q := Ev_h h rfl
theorem s_M_findStyle_75 : Ev sh 235 75 [some (.ref i), a1, a2, a3, a4, a5] st σ Q = Ev sh 235 76 [some (.ref i), a1, a2, a3, a4, a5] (.ref i :: st) σ Q := Ev_step rfl
theorem s_M_findStyle_76 : Ev sh 235 76 [a0, a1, a2, a3, a4, some (.int x)] st σ Q = Ev sh 235 78 [a0, a1, a2, a3, a4, some (.int x)] (.int x :: st) σ Q := Ev_step rfl
theorem s_M_findStyle_78 (h : sh i = 9) : Ev sh 235 78 [a0, a1, a2, a3, a4, a5] (.int x :: .ref i :: st) σ Q = Ev sh 235 81 [a0, a1, a2, a3, a4, a5] st (zup σ i 22 x) Q := Ev_h h rfl
theorem s_M_findStyle_81 : Ev sh 235 81 [a0, a1, a2, a3, some (.int x), a5] st σ Q = Ev sh 235 84 [a0, a1, a2, a3, some (.int (x + 1)), a5] st σ Q := Ev_step rfl
theorem s_M_findStyle_84 : Ev sh 235 84 [a0, a1, a2, a3, a4, a5] st σ Q = Ev sh 235 16 [a0, a1, a2, a3, a4, a5] st σ Q := Ev_step rfl
theorem s_M_findStyle_87 : Ev sh 235 87 [some (.ref i), a1, a2, a3, a4, a5] st σ Q = Ev sh 235 88 [some (.ref i), a1, a2, a3, a4, a5] (.ref i :: st) σ Q := Ev_step rfl
theorem s_M_findStyle_88 (h : sh i = 9) : Ev sh 235 88 [a0, a1, a2, a3, a4, a5] (.ref i :: st) σ Q = Ev sh 235 91 [a0, a1, a2, a3, a4, a5] (.ref 5 :: st) σ Q := Ev_h h rfl
theorem s_M_findStyle_91 : Ev sh 235 91 [a0, some (.int x), a2, a3, a4, a5] st σ Q = Ev sh 235 92 [a0, some (.int x), a2, a3, a4, a5] (.int x :: st) σ Q := Ev_step rfl
theorem s_M_findStyle_92 : Ev sh 235 92 [a0, a1, a2, some (.int x), a4, a5] st σ Q = Ev sh 235 93 [a0, a1, a2, some (.int x), a4, a5] (.int x :: st) σ Q := Ev_step rfl
theorem s_M_findStyle_93 (h : zin x (sh i) = true) : Ev sh 235 93 [a0, a1, a2, a3, a4, a5] (.int y :: .int x :: .ref i :: st) σ Q = Ev sh 235 94 [a0, a1, a2, a3, a4, a5] st (zup σ i x.toNatClampNeg y) Q := Ev_h h rfl
theorem s_M_findStyle_94 : Ev sh 235 94 [a0, a1, a2, a3, a4, a5] [] σ Q = Q none σ := Ev_ret rfl
theorem s_M_best_0 : Ev sh 236 0 [a0, some (.int x), a2, a3, a4] st σ Q = Ev sh 236 1 [a0, some (.int x), a2, a3, a4] (.int x :: st) σ Q := Ev_step rfl
theorem s_M_best_1 : Ev sh 236 1 [a0, a1, a2, a3, a4] [.int x0] σ Q = Ev sh 169 0 [some (.int x0)] [] σ (fun r s => Ev sh 236 4 [a0, a1, a2, a3, a4] (zpush r []) s Q) := Ev_call rfl
theorem s_M_best_4 : Ev sh 236 4 [a0, a1, a2, a3, a4] (.int x :: st) σ Q = if x ≠ 0 then Ev sh 236 11 [a0, a1, a2, a3, a4] st σ Q else Ev sh 236 7 [a0, a1, a2, a3, a4] st σ Q := Ev_if rfl
theorem s_M_best_7 : Ev sh 236 7 [a0, a1, a2, a3, a4] st σ Q = Ev sh 236 8 [a0, a1, a2, a3, a4] (.int (-1) :: st) σ Q := Ev_step rfl
theorem s_M_best_8 : Ev sh 236 8 [a0, a1, a2, a3, a4] st σ Q = Ev sh 236 18 [a0, a1, a2, a3, a4] st σ Q := Ev_step rfl
theorem s_M_best_11 : Ev sh 236 11 [a0, a1, some (.int x), a3, a4] st σ Q = Ev sh 236 12 [a0, a1, some (.int x), a3, a4] (.int x :: st) σ Q := Ev_step rfl
theorem s_M_best_12 : Ev sh 236 12 [a0, a1, a2, a3, a4] st σ Q = Ev sh 236 13 [a0, a1, a2, a3, a4] (.int 0 :: st) σ Q := Ev_step rfl
theorem s_M_best_13 : Ev sh 236 13 [a0, a1, a2, a3, a4] st σ Q = Ev sh 236 15 [a0, a1, a2, a3, a4] (.int 20 :: st) σ Q := Ev_step rfl
theorem s_M_best_15 : Ev sh 236 15 [a0, a1, a2, a3, a4] [.int x2, .int x1, .int x0] σ Q = Ev sh 164 0 [some (.int x0), some (.int x1), some (.int x2)] [] σ (fun r s => Ev sh 236 18 [a0, a1, a2, a3, a4] (zpush r []) s Q) := Ev_call rfl
theorem s_M_best_18 : Ev sh 236 18 [a0, a1, a2, a3, a4] (.int x :: st) σ Q = Ev sh 236 20 [a0, a1, a2, zdrop2 a3, some (.int x)] st σ Q := Ev_step rfl
theorem s_M_best_20 : Ev sh 236 20 [a0, a1, a2, a3, some (.int x)] st σ Q = Ev sh 236 22 [a0, a1, a2, a3, some (.int x)] (.int x :: st) σ Q := Ev_step rfl
theorem s_M_best_22 : Ev sh 236 22 [a0, a1, a2, a3, a4] (.int x :: st) σ Q = if x ≠ 0 then Ev sh 236 38 [a0, a1, a2, a3, a4] st σ Q else Ev sh 236 25 [a0, a1, a2, a3, a4] st σ Q := Ev_if rfl
theorem s_M_best_25 : Ev sh 236 25 [a0, a1, a2, some (.int x), a4] st σ Q = Ev sh 236 26 [a0, a1, a2, some (.int x), a4] (.int x :: st) σ Q := Ev_step rfl
theorem s_M_best_26 : Ev sh 236 26 [a0, a1, a2, a3, a4] st σ Q = Ev sh 236 27 [a0, a1, a2, a3, a4] (.int 0 :: st) σ Q := Ev_step rfl
theorem s_M_best_27 : Ev sh 236 27 [a0, a1, a2, a3, a4] st σ Q = Ev sh 236 28 [a0, a1, a2, a3, a4] (.int 1 :: st) σ Q := Ev_step rfl
theorem s_M_best_28 : Ev sh 236 28 [a0, a1, a2, a3, a4] [.int x2, .int x1, .int x0] σ Q = Ev sh 163 0 [some (.int x0), some (.int x1), some (.int x2)] [] σ (fun r s => Ev sh 236 31 [a0, a1, a2, a3, a4] (zpush r []) s Q) := Ev_call rfl
theorem s_M_best_31 : Ev sh 236 31 [a0, a1, a2, a3, a4] (.int x :: st) σ Q = if x ≠ 0 then Ev sh 236 38 [a0, a1, a2, a3, a4] st σ Q else Ev sh 236 34 [a0, a1, a2, a3, a4] st σ Q := Ev_if rfl
theorem s_M_best_34 : Ev sh 236 34 [a0, a1, a2, a3, a4] st σ Q = Ev sh 236 36 [a0, a1, a2, a3, a4] (.int (-2) :: st) σ Q := Ev_step rfl
theorem s_M_best_36 : Ev sh 236 36 [a0, a1, a2, a3, a4] (.int x :: st) σ Q = Ev sh 236 38 [a0, a1, a2, zdrop2 a3, some (.int x)] st σ Q := Ev_step rfl
theorem s_M_best_38 : Ev sh 236 38 [a0, a1, a2, a3, some (.int x)] st σ Q = Ev sh 236 40 [a0, a1, a2, a3, some (.int x)] (.int x :: st) σ Q := Ev_step rfl
theorem s_M_best_40 : Ev sh 236 40 [a0, a1, a2, a3, a4] (.int x :: st) σ Q = if x = 0 then Ev sh 236 50 [a0, a1, a2, a3, a4] st σ Q else Ev sh 236 43 [a0, a1, a2, a3, a4] st σ Q := Ev_if rfl
theorem s_M_best_43 : Ev sh 236 43 [some (.ref i), a1, a2, a3, a4] st σ Q = Ev sh 236 44 [some (.ref i), a1, a2, a3, a4] (.ref i :: st) σ Q := Ev_step rfl
theorem s_M_best_44 : Ev sh 236 44 [a0, a1, a2, a3, some (.int x)] st σ Q = Ev sh 236 46 [a0, a1, a2, a3, some (.int x)] (.int x :: st) σ Q := Ev_step rfl
theorem s_M_best_46 (h : sh i0 = 9) : Ev sh 236 46 [a0, a1, a2, a3, a4] [.int x1, .ref i0] σ Q = Ev sh 161 0 [some (.ref i0), some (.int x1)] [] σ (fun r s => Ev sh 236 49 [a0, a1, a2, a3, a4] (zpush r []) s Q) := Ev_callh (zrecv_of (by decide) h) rfl
theorem s_M_best_49 : Ev sh 236 49 [a0, a1, a2, a3, a4] [.int x] σ Q = Q (some (.int x)) σ := Ev_ret rfl
theorem s_M_best_50 : Ev sh 236 50 [some (.ref i), a1, a2, a3, a4] st σ Q = Ev sh 236 51 [some (.ref i), a1, a2, a3, a4] (.ref i :: st) σ Q := Ev_step rfl
theorem s_M_best_51 : Ev sh 236 51 [a0, some (.int x), a2, a3, a4] st σ Q = Ev sh 236 52 [a0, some (.int x), a2, a3, a4] (.int x :: st) σ Q := Ev_step rfl
theorem s_M_best_52 : Ev sh 236 52 [a0, a1, some (.int x), a3, a4] st σ Q = Ev sh 236 53 [a0, a1, some (.int x), a3, a4] (.int x :: st) σ Q := Ev_step rfl
theorem s_M_best_53 (h : sh i0 = 9) : Ev sh 236 53 [a0, a1, a2, a3, a4] [.int x2, .int x1, .ref i0] σ Q = Ev sh 235 0 [some (.ref i0), some (.int x1), some (.int x2), none, none, none] [] σ (fun r s => Ev sh 236 56 [a0, a1, a2, a3, a4] (zpush r []) s Q) := Ev_callh (zrecv_of (by decide) h) rfl
theorem s_M_best_56 : Ev sh 236 56 [a0, a1, a2, some (.int x), a4] st σ Q = Ev sh 236 57 [a0, a1, a2, some (.int x), a4] (.int x :: st) σ Q := Ev_step rfl
theorem s_M_best_57 : Ev sh 236 57 [a0, a1, a2, a3, a4] (.int x :: st) σ Q = if x ≠ 0 then Ev sh 236 67 [a0, a1, a2, a3, a4] st σ Q else Ev sh 236 60 [a0, a1, a2, a3, a4] st σ Q := Ev_if rfl
theorem s_M_best_60 : Ev sh 236 60 [some (.ref i), a1, a2, a3, a4] st σ Q = Ev sh 236 61 [some (.ref i), a1, a2, a3, a4] (.ref i :: st) σ Q := Ev_step rfl
theorem s_M_best_61 (h : sh i = 9) : Ev sh 236 61 [a0, a1, a2, a3, a4] (.ref i :: st) σ Q = Ev sh 236 64 [a0, a1, a2, a3, a4] (.int (σ i 21) :: st) σ Q := Ev_h h rfl
theorem s_M_best_64 : Ev sh 236 64 [a0, a1, a2, a3, a4] st σ Q = Ev sh 236 71 [a0, a1, a2, a3, a4] st σ Q := Ev_step rfl
theorem s_M_best_67 : Ev sh 236 67 [some (.ref i), a1, a2, a3, a4] st σ Q = Ev sh 236 68 [some (.ref i), a1, a2, a3, a4] (.ref i :: st) σ Q := Ev_step rfl
theorem s_M_best_68 (h : sh i = 9) : Ev sh 236 68 [a0, a1, a2, a3, a4] (.ref i :: st) σ Q = Ev sh 236 71 [a0, a1, a2, a3, a4] (.int (σ i 22) :: st) σ Q := Ev_h h rfl
theorem s_M_best_71 : Ev sh 236 71 [a0, a1, a2, a3, a4] [.int x] σ Q = Q (some (.int x)) σ := Ev_ret rfl
theorem s_M_peace_0 : Ev sh 237 0 [a0, a1] st σ Q = Ev sh 237 1 [a0, a1] (.int 0 :: st) σ Q := Ev_step rfl
theorem s_M_peace_1 : Ev sh 237 1 [a0, a1] (.int x :: st) σ Q = Ev sh 237 2 [zdrop2 a0, some (.int x)] st σ Q := Ev_step rfl
theorem s_M_peace_2 : Ev sh 237 2 [a0, some (.int x)] st σ Q = Ev sh 237 3 [a0, some (.int x)] (.int x :: st) σ Q := Ev_step rfl
theorem s_M_peace_3 : Ev sh 237 3 [a0, a1] st σ Q = Ev sh 237 5 [a0, a1] (.int 60 :: st) σ Q := Ev_step rfl
theorem s_M_peace_5 : Ev sh 237 5 [a0, a1] (.int y :: .int x :: st) σ Q = if y < x then Ev sh 237 32 [a0, a1] st σ Q else Ev sh 237 8 [a0, a1] st σ Q := Ev_if rfl
theorem s_M_peace_8 : Ev sh 237 8 [some (.ref i), a1] st σ Q = Ev sh 237 9 [some (.ref i), a1] (.ref i :: st) σ Q := Ev_step rfl
theorem s_M_peace_9 : Ev sh 237 9 [a0, some (.int x)] st σ Q = Ev sh 237 10 [a0, some (.int x)] (.int x :: st) σ Q := Ev_step rfl
theorem s_M_peace_10 (h : sh i0 = 9) : Ev sh 237 10 [a0, a1] [.int x1, .ref i0] σ Q = Ev sh 232 0 [some (.ref i0), some (.int x1), none] [] σ (fun r s => Ev sh 237 13 [a0, a1] (zpush r []) s Q) := Ev_callh (zrecv_of (by decide) h) rfl
theorem s_M_peace_13 : Ev sh 237 13 [some (.ref i), a1] st σ Q = Ev sh 237 14 [some (.ref i), a1] (.ref i :: st) σ Q := Ev_step rfl
theorem s_M_peace_14 : Ev sh 237 14 [a0, some (.int x)] st σ Q = Ev sh 237 15 [a0, some (.int x)] (.int x :: st) σ Q := Ev_step rfl
theorem s_M_peace_15 : Ev sh 237 15 [a0, a1] st σ Q = Ev sh 237 17 [a0, a1] (.int 10 :: st) σ Q := Ev_step rfl
theorem s_M_peace_17 : Ev sh 237 17 [a0, a1] (.int y :: .int x :: st) σ Q = Ev sh 237 18 [a0, a1] (.int (x + y) :: st) σ Q := Ev_step rfl
theorem s_M_peace_18 (h : sh i1 = 9) : Ev sh 237 18 [a0, a1] [.int x2, .ref i1, .int x0] σ Q = Ev sh 232 0 [some (.ref i1), some (.int x2), none] [] σ (fun r s => Ev sh 237 21 [a0, a1] (zpush r [.int x0]) s Q) := Ev_callh (zrecv_of (by decide) h) rfl
theorem s_M_peace_21 : Ev sh 237 21 [a0, a1] (.int y :: .int x :: st) σ Q = if x ≠ y then Ev sh 237 26 [a0, a1] st σ Q else Ev sh 237 24 [a0, a1] st σ Q := Ev_if rfl
theorem s_M_peace_24 : Ev sh 237 24 [a0, some (.int x)] st σ Q = Ev sh 237 25 [a0, some (.int x)] (.int x :: st) σ Q := Ev_step rfl
theorem s_M_peace_25 : Ev sh 237 25 [a0, a1] [.int x] σ Q = Q (some (.int x)) σ := Ev_ret rfl
theorem s_M_peace_26 : Ev sh 237 26 [a0, some (.int x)] st σ Q = Ev sh 237 29 [a0, some (.int (x + 1))] st σ Q := Ev_step rfl
theorem s_M_peace_29 : Ev sh 237 29 [a0, a1] st σ Q = Ev sh 237 2 [a0, a1] st σ Q := Ev_step rfl
theorem s_M_peace_32 : Ev sh 237 32 [a0, a1] st σ Q = Ev sh 237 34 [a0, a1] (.int (-9) :: st) σ Q := Ev_step rfl
theorem s_M_peace_34 : Ev sh 237 34 [a0, a1] [.int x] σ Q = Q (some (.int x)) σ := Ev_ret rfl
theorem s_M_stonesIn_0 : Ev sh 238 0 [some (.ref i), a1, a2] st σ Q = Ev sh 238 1 [some (.ref i), a1, a2] (.ref i :: st) σ Q := Ev_step rfl
theorem s_M_stonesIn_1 (h : sh i0 = 9) : Ev sh 238 1 [a0, a1, a2] [.ref i0] σ Q = Ev sh 184 0 [some (.ref i0)] [] σ (fun r s => Ev sh 238 4 [a0, a1, a2] (zpush r []) s Q) := Ev_callh (zrecv_of (by decide) h) rfl
theorem s_M_stonesIn_4 : Ev sh 238 4 [some (.ref i), a1, a2] st σ Q = Ev sh 238 5 [some (.ref i), a1, a2] (.ref i :: st) σ Q := Ev_step rfl
theorem s_M_stonesIn_5 : Ev sh 238 5 [a0, some (.int x), a2] st σ Q = Ev sh 238 6 [a0, some (.int x), a2] (.int x :: st) σ Q := Ev_step rfl
theorem s_M_stonesIn_6 (h : sh i0 = 9) : Ev sh 238 6 [a0, a1, a2] [.int x1, .ref i0] σ Q = Ev sh 203 0 [some (.ref i0), some (.int x1), none] [] σ (fun r s => Ev sh 238 9 [a0, a1, a2] (zpush r []) s Q) := Ev_callh (zrecv_of (by decide) h) rfl
theorem s_M_stonesIn_9 : Ev sh 238 9 [some (.ref i), a1, a2] st σ Q = Ev sh 238 10 [some (.ref i), a1, a2] (.ref i :: st) σ Q := Ev_step rfl
theorem s_M_stonesIn_10 (h : sh i = 9) : Ev sh 238 10 [a0, a1, a2] (.ref i :: st) σ Q = Ev sh 238 13 [a0, a1, a2] (.int (σ i 7) :: st) σ Q := Ev_h h rfl
theorem s_M_stonesIn_13 : Ev sh 238 13 [a0, a1, a2] (.int x :: st) σ Q = Ev sh 238 14 [a0, zdrop2 a1, some (.int x)] st σ Q := Ev_step rfl
theorem s_M_stonesIn_14 : Ev sh 238 14 [some (.ref i), a1, a2] st σ Q = Ev sh 238 15 [some (.ref i), a1, a2] (.ref i :: st) σ Q := Ev_step rfl
theorem s_M_stonesIn_15 (h : sh i0 = 9) : Ev sh 238 15 [a0, a1, a2] [.ref i0] σ Q = Ev sh 185 0 [some (.ref i0)] [] σ (fun r s => Ev sh 238 18 [a0, a1, a2] (zpush r []) s Q) := Ev_callh (zrecv_of (by decide) h) rfl
theorem s_M_stonesIn_18 : Ev sh 238 18 [a0, a1, some (.int x)] st σ Q = Ev sh 238 19 [a0, a1, some (.int x)] (.int x :: st) σ Q := Ev_step rfl
theorem s_M_stonesIn_19 : Ev sh 238 19 [a0, a1, a2] [.int x] σ Q = Q (some (.int x)) σ := Ev_ret rfl
theorem s_M_swapsStyles_0 : Ev sh 239 0 [some (.ref i), a1] st σ Q = Ev sh 239 1 [some (.ref i), a1] (.ref i :: st) σ Q := Ev_step rfl
theorem s_M_swapsStyles_1 (h : sh i = 9) : Ev sh 239 1 [a0, a1] (.ref i :: st) σ Q = Ev sh 239 4 [a0, a1] (.ref 5 :: st) σ Q := Ev_h h rfl
theorem s_M_swapsStyles_4 : Ev sh 239 4 [a0, a1] st σ Q = Ev sh 239 5 [a0, a1] (.int 0 :: st) σ Q := Ev_step rfl
theorem s_M_swapsStyles_5 (h : zin x (sh i) = true) : Ev sh 239 5 [a0, a1] (.int x :: .ref i :: st) σ Q = Ev sh 239 6 [a0, a1] (.int (σ i x.toNatClampNeg) :: st) σ Q := Ev_h h rfl
theorem s_M_swapsStyles_6 : Ev sh 239 6 [a0, a1] (.int x :: st) σ Q = Ev sh 239 7 [zdrop2 a0, some (.int x)] st σ Q := Ev_step rfl
theorem s_M_swapsStyles_7 : Ev sh 239 7 [some (.ref i), a1] st σ Q = Ev sh 239 8 [some (.ref i), a1] (.ref i :: st) σ Q := Ev_step rfl
theorem s_M_swapsStyles_8 (h : sh i = 9) : Ev sh 239 8 [a0, a1] (.ref i :: st) σ Q = Ev sh 239 11 [a0, a1] (.ref 5 :: st) σ Q := Ev_h h rfl
theorem s_M_swapsStyles_11 : Ev sh 239 11 [a0, a1] st σ Q = Ev sh 239 12 [a0, a1] (.int 0 :: st) σ Q := Ev_step rfl
theorem s_M_swapsStyles_12 : Ev sh 239 12 [some (.ref i), a1] st σ Q = Ev sh 239 13 [some (.ref i), a1] (.ref i :: st) σ Q := Ev_step rfl
theorem s_M_swapsStyles_13 (h : sh i = 9) : Ev sh 239 13 [a0, a1] (.ref i :: st) σ Q = Ev sh 239 16 [a0, a1] (.ref 5 :: st) σ Q := Ev_h h rfl
theorem s_M_swapsStyles_16 : Ev sh 239 16 [a0, a1] st σ Q = Ev sh 239 17 [a0, a1] (.int 1 :: st) σ Q := Ev_step rfl
theorem s_M_swapsStyles_17 (h : zin x (sh i) = true) : Ev sh 239 17 [a0, a1] (.int x :: .ref i :: st) σ Q = Ev sh 239 18 [a0, a1] (.int (σ i x.toNatClampNeg) :: st) σ Q := Ev_h h rfl
theorem s_M_swapsStyles_18 (h : zin x (sh i) = true) : Ev sh 239 18 [a0, a1] (.int y :: .int x :: .ref i :: st) σ Q = Ev sh 239 19 [a0, a1] st (zup σ i x.toNatClampNeg y) Q := Ev_h h rfl
theorem s_M_swapsStyles_19 : Ev sh 239 19 [some (.ref i), a1] st σ Q = Ev sh 239 20 [some (.ref i), a1] (.ref i :: st) σ Q := Ev_step rfl
theorem s_M_swapsStyles_20 (h : sh i = 9) : Ev sh 239 20 [a0, a1] (.ref i :: st) σ Q = Ev sh 239 23 [a0, a1] (.ref 5 :: st) σ Q := Ev_h h rfl
theorem s_M_swapsStyles_23 : Ev sh 239 23 [a0, a1] st σ Q = Ev sh 239 24 [a0, a1] (.int 1 :: st) σ Q := Ev_step rfl
theorem s_M_swapsStyles_24 : Ev sh 239 24 [a0, some (.int x)] st σ Q = Ev sh 239 25 [a0, some (.int x)] (.int x :: st) σ Q := Ev_step rfl
theorem s_M_swapsStyles_25 (h : zin x (sh i) = true) : Ev sh 239 25 [a0, a1] (.int y :: .int x :: .ref i :: st) σ Q = Ev sh 239 26 [a0, a1] st (zup σ i x.toNatClampNeg y) Q := Ev_h h rfl
theorem s_M_swapsStyles_26 : Ev sh 239 26 [a0, a1] [] σ Q = Q none σ := Ev_ret rfl
theorem s_M_swap_0 : Ev sh 240 0 [a0, some (.int x), a2, a3, a4] st σ Q = Ev sh 240 1 [a0, some (.int x), a2, a3, a4] (.int x :: st) σ Q := Ev_step rfl
theorem s_M_swap_1 : Ev sh 240 1 [a0, a1, a2, a3, a4] st σ Q = Ev sh 240 2 [a0, a1, a2, a3, a4] (.int 0 :: st) σ Q := Ev_step rfl
theorem s_M_swap_2 : Ev sh 240 2 [a0, a1, a2, a3, a4] st σ Q = Ev sh 240 4 [a0, a1, a2, a3, a4] (.int 60 :: st) σ Q := Ev_step rfl
theorem s_M_swap_4 : Ev sh 240 4 [a0, a1, a2, a3, a4] [.int x2, .int x1, .int x0] σ Q = Ev sh 164 0 [some (.int x0), some (.int x1), some (.int x2)] [] σ (fun r s => Ev sh 240 7 [a0, a1, a2, a3, a4] (zpush r []) s Q) := Ev_call rfl
theorem s_M_swap_7 : Ev sh 240 7 [a0, a1, a2, a3, a4] (.int x :: st) σ Q = Ev sh 240 8 [a0, zdrop2 a1, some (.int x), a3, a4] st σ Q := Ev_step rfl
theorem s_M_swap_8 : Ev sh 240 8 [a0, a1, some (.int x), a3, a4] st σ Q = Ev sh 240 9 [a0, a1, some (.int x), a3, a4] (.int x :: st) σ Q := Ev_step rfl
theorem s_M_swap_9 : Ev sh 240 9 [a0, a1, a2, a3, a4] (.int x :: st) σ Q = if x = 0 then Ev sh 240 18 [a0, a1, a2, a3, a4] st σ Q else Ev sh 240 12 [a0, a1, a2, a3, a4] st σ Q := Ev_if rfl
theorem s_M_swap_12 : Ev sh 240 12 [some (.ref i), a1, a2, a3, a4] st σ Q = Ev sh 240 13 [some (.ref i), a1, a2, a3, a4] (.ref i :: st) σ Q := Ev_step rfl
theorem s_M_swap_13 : Ev sh 240 13 [a0, a1, some (.int x), a3, a4] st σ Q = Ev sh 240 14 [a0, a1, some (.int x), a3, a4] (.int x :: st) σ Q := Ev_step rfl
theorem s_M_swap_14 (h : sh i0 = 9) : Ev sh 240 14 [a0, a1, a2, a3, a4] [.int x1, .ref i0] σ Q = Ev sh 160 0 [some (.ref i0), some (.int x1)] [] σ (fun r s => Ev sh 240 17 [a0, a1, a2, a3, a4] (zpush r []) s Q) := Ev_callh (zrecv_of (by decide) h) rfl
theorem s_M_swap_17 : Ev sh 240 17 [a0, a1, a2, a3, a4] [.int x] σ Q = Q (some (.int x)) σ := Ev_ret rfl
theorem s_M_swap_18 : Ev sh 240 18 [some (.ref i), a1, a2, a3, a4] st σ Q = Ev sh 240 19 [some (.ref i), a1, a2, a3, a4] (.ref i :: st) σ Q := Ev_step rfl
theorem s_M_swap_19 : Ev sh 240 19 [a0, some (.int x), a2, a3, a4] st σ Q = Ev sh 240 20 [a0, some (.int x), a2, a3, a4] (.int x :: st) σ Q := Ev_step rfl
theorem s_M_swap_20 (h : sh i0 = 9) : Ev sh 240 20 [a0, a1, a2, a3, a4] [.int x1, .ref i0] σ Q = Ev sh 238 0 [some (.ref i0), some (.int x1), none] [] σ (fun r s => Ev sh 240 23 [a0, a1, a2, a3, a4] (zpush r []) s Q) := Ev_callh (zrecv_of (by decide) h) rfl
theorem s_M_swap_23 : Ev sh 240 23 [a0, a1, a2, a3, a4] (.int x :: st) σ Q = Ev sh 240 24 [a0, a1, zdrop2 a2, some (.int x), a4] st σ Q := Ev_step rfl
theorem s_M_swap_24 : Ev sh 240 24 [some (.ref i), a1, a2, a3, a4] st σ Q = Ev sh 240 25 [some (.ref i), a1, a2, a3, a4] (.ref i :: st) σ Q := Ev_step rfl
theorem s_M_swap_25 (h : sh i0 = 9) : Ev sh 240 25 [a0, a1, a2, a3, a4] [.ref i0] σ Q = Ev sh 239 0 [some (.ref i0), none] [] σ (fun r s => Ev sh 240 28 [a0, a1, a2, a3, a4] (zpush r []) s Q) := Ev_callh (zrecv_of (by decide) h) rfl
theorem s_M_swap_28 : Ev sh 240 28 [some (.ref i), a1, a2, a3, a4] st σ Q = Ev sh 240 29 [some (.ref i), a1, a2, a3, a4] (.ref i :: st) σ Q := Ev_step rfl
theorem s_M_swap_29 : Ev sh 240 29 [a0, some (.int x), a2, a3, a4] st σ Q = Ev sh 240 30 [a0, some (.int x), a2, a3, a4] (.int x :: st) σ Q := Ev_step rfl
theorem s_M_swap_30 (h : sh i0 = 9) : Ev sh 240 30 [a0, a1, a2, a3, a4] [.int x1, .ref i0] σ Q = Ev sh 238 0 [some (.ref i0), some (.int x1), none] [] σ (fun r s => Ev sh 240 33 [a0, a1, a2, a3, a4] (zpush r []) s Q) := Ev_callh (zrecv_of (by decide) h) rfl
theorem s_M_swap_33 : Ev sh 240 33 [a0, a1, a2, a3, a4] (.int x :: st) σ Q = Ev sh 240 35 [a0, a1, a2, zdrop2 a3, some (.int x)] st σ Q := Ev_step rfl
theorem s_M_swap_35 : Ev sh 240 35 [some (.ref i), a1, a2, a3, a4] st σ Q = Ev sh 240 36 [some (.ref i), a1, a2, a3, a4] (.ref i :: st) σ Q := Ev_step rfl
theorem s_M_swap_36 (h : sh i0 = 9) : Ev sh 240 36 [a0, a1, a2, a3, a4] [.ref i0] σ Q = Ev sh 239 0 [some (.ref i0), none] [] σ (fun r s => Ev sh 240 39 [a0, a1, a2, a3, a4] (zpush r []) s Q) := Ev_callh (zrecv_of (by decide) h) rfl
theorem s_M_swap_39 : Ev sh 240 39 [a0, a1, a2, a3, some (.int x)] st σ Q = Ev sh 240 41 [a0, a1, a2, a3, some (.int x)] (.int x :: st) σ Q := Ev_step rfl
theorem s_M_swap_41 : Ev sh 240 41 [a0, a1, a2, some (.int x), a4] st σ Q = Ev sh 240 42 [a0, a1, a2, some (.int x), a4] (.int x :: st) σ Q := Ev_step rfl
theorem s_M_swap_42 : Ev sh 240 42 [a0, a1, a2, a3, a4] (.int y :: .int x :: st) σ Q = if x ≤ y then Ev sh 240 49 [a0, a1, a2, a3, a4] st σ Q else Ev sh 240 45 [a0, a1, a2, a3, a4] st σ Q := Ev_if rfl
theorem s_M_swap_45 : Ev sh 240 45 [a0, a1, a2, a3, a4] st σ Q = Ev sh 240 46 [a0, a1, a2, a3, a4] (.int 1 :: st) σ Q := Ev_step rfl
theorem s_M_swap_46 : Ev sh 240 46 [a0, a1, a2, a3, a4] st σ Q = Ev sh 240 50 [a0, a1, a2, a3, a4] st σ Q := Ev_step rfl
theorem s_M_swap_49 : Ev sh 240 49 [a0, a1, a2, a3, a4] st σ Q = Ev sh 240 50 [a0, a1, a2, a3, a4] (.int 0 :: st) σ Q := Ev_step rfl
theorem s_M_swap_50 : Ev sh 240 50 [a0, a1, a2, a3, a4] [.int x] σ Q = Q (some (.int x)) σ := Ev_ret rfl
theorem s_M_findGets_0 : Ev sh 241 0 [some (.ref i), a1, a2, a3] st σ Q = Ev sh 241 1 [some (.ref i), a1, a2, a3] (.ref i :: st) σ Q := Ev_step rfl
theorem s_M_findGets_1 (h : sh i = 9) : Ev sh 241 1 [a0, a1, a2, a3] (.ref i :: st) σ Q = Ev sh 241 4 [a0, a1, a2, a3] (.int (σ i 8) :: st) σ Q := Ev_h h rfl
theorem s_M_findGets_4 : Ev sh 241 4 [a0, a1, a2, a3] (.int x :: st) σ Q = Ev sh 241 5 [a0, zdrop2 a1, some (.int x), a3] st σ Q := Ev_step rfl
theorem s_M_findGets_5 : Ev sh 241 5 [a0, a1, a2, a3] st σ Q = Ev sh 241 6 [a0, a1, a2, a3] (.int 0 :: st) σ Q := Ev_step rfl
theorem s_M_findGets_6 : Ev sh 241 6 [a0, a1, a2, a3] (.int x :: st) σ Q = Ev sh 241 7 [a0, a1, zdrop2 a2, some (.int x)] st σ Q := Ev_step rfl
theorem s_M_findGets_7 : Ev sh 241 7 [a0, a1, a2, some (.int x)] st σ Q = Ev sh 241 8 [a0, a1, a2, some (.int x)] (.int x :: st) σ Q := Ev_step rfl
theorem s_M_findGets_8 : Ev sh 241 8 [a0, a1, a2, a3] st σ Q = Ev sh 241 9 [a0, a1, a2, a3] (.int 4 :: st) σ Q := Ev_step rfl
theorem s_M_findGets_9 : Ev sh 241 9 [a0, a1, a2, a3] (.int y :: .int x :: st) σ Q = if y ≤ x then Ev sh 241 97 [a0, a1, a2, a3] st σ Q else Ev sh 241 12 [a0, a1, a2, a3] st σ Q := Ev_if rfl
theorem s_M_findGets_12 : Ev sh 241 12 [some (.ref i), a1, a2, a3] st σ Q = Ev sh 241 13 [some (.ref i), a1, a2, a3] (.ref i :: st) σ Q := Ev_step rfl
theorem s_M_findGets_13 (h : sh i0 = 9) : Ev sh 241 13 [a0, a1, a2, a3] [.ref i0] σ Q = Ev sh 184 0 [some (.ref i0)] [] σ (fun r s => Ev sh 241 16 [a0, a1, a2, a3] (zpush r []) s Q) := Ev_callh (zrecv_of (by decide) h) rfl
theorem s_M_findGets_16 : Ev sh 241 16 [some (.ref i), a1, a2, a3] st σ Q = Ev sh 241 17 [some (.ref i), a1, a2, a3] (.ref i :: st) σ Q := Ev_step rfl
theorem s_M_findGets_17 (h : sh i = 9) : Ev sh 241 17 [a0, a1, a2, a3] (.ref i :: st) σ Q = Ev sh 241 20 [a0, a1, a2, a3] (.ref 7 :: st) σ Q := Ev_h h rfl
theorem s_M_findGets_20 : Ev sh 241 20 [a0, a1, a2, a3] st σ Q = Ev sh 241 21 [a0, a1, a2, a3] (.int 0 :: st) σ Q := Ev_step rfl
theorem s_M_findGets_21 : Ev sh 241 21 [a0, a1, a2, a3] st σ Q = Ev sh 241 23 [a0, a1, a2, a3] (.int 9 :: st) σ Q := Ev_step rfl
theorem s_M_findGets_23 : Ev sh 241 23 [a0, a1, a2, some (.int x)] st σ Q = Ev sh 241 24 [a0, a1, a2, some (.int x)] (.int x :: st) σ Q := Ev_step rfl
theorem s_M_findGets_24 : Ev sh 241 24 [a0, a1, a2, a3] st σ Q = Ev sh 241 25 [a0, a1, a2, a3] (.int 2 :: st) σ Q := Ev_step rfl
theorem s_M_findGets_25 (h : ¬ y = 0) : Ev sh 241 25 [a0, a1, a2, a3] (.int y :: .int x :: st) σ Q = Ev sh 241 26 [a0, a1, a2, a3] (.int (x / y) :: st) σ Q := Ev_h h rfl
theorem s_M_findGets_26 : Ev sh 241 26 [a0, a1, a2, a3] (.int y :: .int x :: st) σ Q = Ev sh 241 27 [a0, a1, a2, a3] (.int (x * y) :: st) σ Q := Ev_step rfl
theorem s_M_findGets_27 (h : zin x (sh i) = true) : Ev sh 241 27 [a0, a1, a2, a3] (.int y :: .int x :: .ref i :: st) σ Q = Ev sh 241 28 [a0, a1, a2, a3] st (zup σ i x.toNatClampNeg y) Q := Ev_h h rfl
theorem s_M_findGets_28 : Ev sh 241 28 [some (.ref i), a1, a2, a3] st σ Q = Ev sh 241 29 [some (.ref i), a1, a2, a3] (.ref i :: st) σ Q := Ev_step rfl
theorem s_M_findGets_29 (h : sh i = 9) : Ev sh 241 29 [a0, a1, a2, a3] (.ref i :: st) σ Q = Ev sh 241 32 [a0, a1, a2, a3] (.ref 7 :: st) σ Q := Ev_h h rfl
theorem s_M_findGets_32 : Ev sh 241 32 [a0, a1, a2, a3] st σ Q = Ev sh 241 33 [a0, a1, a2, a3] (.int 1 :: st) σ Q := Ev_step rfl
theorem s_M_findGets_33 : Ev sh 241 33 [a0, a1, a2, a3] st σ Q = Ev sh 241 35 [a0, a1, a2, a3] (.int 9 :: st) σ Q := Ev_step rfl
theorem s_M_findGets_35 : Ev sh 241 35 [a0, a1, a2, some (.int x)] st σ Q = Ev sh 241 36 [a0, a1, a2, some (.int x)] (.int x :: st) σ Q := Ev_step rfl
theorem s_M_findGets_36 : Ev sh 241 36 [a0, a1, a2, a3] st σ Q = Ev sh 241 37 [a0, a1, a2, a3] (.int 2 :: st) σ Q := Ev_step rfl
theorem s_M_findGets_37 (h : ¬ y = 0) : Ev sh 241 37 [a0, a1, a2, a3] (.int y :: .int x :: st) σ Q = Ev sh 241 38 [a0, a1, a2, a3] (.int (x - x / y * y) :: st) σ Q := Ev_h h rfl
theorem s_M_findGets_38 : Ev sh 241 38 [a0, a1, a2, a3] (.int y :: .int x :: st) σ Q = Ev sh 241 39 [a0, a1, a2, a3] (.int (x * y) :: st) σ Q := Ev_step rfl
theorem s_M_findGets_39 (h : zin x (sh i) = true) : Ev sh 241 39 [a0, a1, a2, a3] (.int y :: .int x :: .ref i :: st) σ Q = Ev sh 241 40 [a0, a1, a2, a3] st (zup σ i x.toNatClampNeg y) Q := Ev_h h rfl
theorem s_M_findGets_40 : Ev sh 241 40 [some (.ref i), a1, a2, a3] st σ Q = Ev sh 241 41 [some (.ref i), a1, a2, a3] (.ref i :: st) σ Q := Ev_step rfl
theorem s_M_findGets_41 : Ev sh 241 41 [a0, some (.int x), a2, a3] st σ Q = Ev sh 241 42 [a0, some (.int x), a2, a3] (.int x :: st) σ Q := Ev_step rfl
theorem s_M_findGets_42 (h : sh i0 = 9) : Ev sh 241 42 [a0, a1, a2, a3] [.int x1, .ref i0] σ Q = Ev sh 203 0 [some (.ref i0), some (.int x1), none] [] σ (fun r s => Ev sh 241 45 [a0, a1, a2, a3] (zpush r []) s Q) := Ev_callh (zrecv_of (by decide) h) rfl
theorem s_M_findGets_45 : Ev sh 241 45 [some (.ref i), a1, a2, a3] st σ Q = Ev sh 241 46 [some (.ref i), a1, a2, a3] (.ref i :: st) σ Q := Ev_step rfl
theorem s_M_findGets_46 (h : sh i = 9) : Ev sh 241 46 [a0, a1, a2, a3] (.ref i :: st) σ Q = Ev sh 241 49 [a0, a1, a2, a3] (.ref 13 :: st) σ Q := Ev_h h rfl
theorem s_M_findGets_49 : Ev sh 241 49 [a0, a1, a2, a3] st σ Q = Ev sh 241 50 [a0, a1, a2, a3] (.int 2 :: st) σ Q := Ev_step rfl
theorem s_M_findGets_50 : Ev sh 241 50 [a0, a1, a2, some (.int x)] st σ Q = Ev sh 241 51 [a0, a1, a2, some (.int x)] (.int x :: st) σ Q := Ev_step rfl
theorem s_M_findGets_51 : Ev sh 241 51 [a0, a1, a2, a3] (.int y :: .int x :: st) σ Q = Ev sh 241 52 [a0, a1, a2, a3] (.int (x * y) :: st) σ Q := Ev_step rfl
theorem s_M_findGets_52 : Ev sh 241 52 [some (.ref i), a1, a2, a3] st σ Q = Ev sh 241 53 [some (.ref i), a1, a2, a3] (.ref i :: st) σ Q := Ev_step rfl
theorem s_M_findGets_53 : Ev sh 241 53 [a0, a1, a2, a3] st σ Q = Ev sh 241 54 [a0, a1, a2, a3] (.int 0 :: st) σ Q := Ev_step rfl
theorem s_M_findGets_54 (h : sh i2 = 9) : Ev sh 241 54 [a0, a1, a2, a3] [.int x3, .ref i2, .int x1, .ref i0] σ Q = Ev sh 204 0 [some (.ref i2), some (.int x3), none, none] [] σ (fun r s => Ev sh 241 57 [a0, a1, a2, a3] (zpush r [.int x1, .ref i0]) s Q) := Ev_callh (zrecv_of (by decide) h) rfl
theorem s_M_findGets_57 : Ev sh 241 57 [some (.ref i), a1, a2, a3] st σ Q = Ev sh 241 58 [some (.ref i), a1, a2, a3] (.ref i :: st) σ Q := Ev_step rfl
theorem s_M_findGets_58 (h : sh i = 9) : Ev sh 241 58 [a0, a1, a2, a3] (.ref i :: st) σ Q = Ev sh 241 61 [a0, a1, a2, a3] (.int (σ i 8) :: st) σ Q := Ev_h h rfl
theorem s_M_findGets_61 : Ev sh 241 61 [a0, a1, some (.int x), a3] st σ Q = Ev sh 241 62 [a0, a1, some (.int x), a3] (.int x :: st) σ Q := Ev_step rfl
theorem s_M_findGets_62 : Ev sh 241 62 [a0, a1, a2, a3] (.int y :: .int x :: st) σ Q = Ev sh 241 63 [a0, a1, a2, a3] (.int (x - y) :: st) σ Q := Ev_step rfl
theorem s_M_findGets_63 : Ev sh 241 63 [a0, a1, a2, a3] (.int y :: .int x :: st) σ Q = Ev sh 241 64 [a0, a1, a2, a3] (.int (x - y) :: st) σ Q := Ev_step rfl
theorem s_M_findGets_64 (h : zin x (sh i) = true) : Ev sh 241 64 [a0, a1, a2, a3] (.int y :: .int x :: .ref i :: st) σ Q = Ev sh 241 65 [a0, a1, a2, a3] st (zup σ i x.toNatClampNeg y) Q := Ev_h h rfl
theorem s_M_findGets_65 : Ev sh 241 65 [some (.ref i), a1, a2, a3] st σ Q = Ev sh 241 66 [some (.ref i), a1, a2, a3] (.ref i :: st) σ Q := Ev_step rfl
theorem s_M_findGets_66 (h : sh i = 9) : Ev sh 241 66 [a0, a1, a2, a3] (.ref i :: st) σ Q = Ev sh 241 69 [a0, a1, a2, a3] (.ref 13 :: st) σ Q := Ev_h h rfl
theorem s_M_findGets_69 : Ev sh 241 69 [a0, a1, a2, a3] st σ Q = Ev sh 241 70 [a0, a1, a2, a3] (.int 2 :: st) σ Q := Ev_step rfl
theorem s_M_findGets_70 : Ev sh 241 70 [a0, a1, a2, some (.int x)] st σ Q = Ev sh 241 71 [a0, a1, a2, some (.int x)] (.int x :: st) σ Q := Ev_step rfl
theorem s_M_findGets_71 : Ev sh 241 71 [a0, a1, a2, a3] (.int y :: .int x :: st) σ Q = Ev sh 241 72 [a0, a1, a2, a3] (.int (x * y) :: st) σ Q := Ev_step rfl
theorem s_M_findGets_72 : Ev sh 241 72 [a0, a1, a2, a3] st σ Q = Ev sh 241 73 [a0, a1, a2, a3] (.int 1 :: st) σ Q := Ev_step rfl
theorem s_M_findGets_73 : Ev sh 241 73 [a0, a1, a2, a3] (.int y :: .int x :: st) σ Q = Ev sh 241 74 [a0, a1, a2, a3] (.int (x + y) :: st) σ Q := Ev_step rfl
theorem s_M_findGets_74 : Ev sh 241 74 [some (.ref i), a1, a2, a3] st σ Q = Ev sh 241 75 [some (.ref i), a1, a2, a3] (.ref i :: st) σ Q := Ev_step rfl
theorem s_M_findGets_75 : Ev sh 241 75 [a0, a1, a2, a3] st σ Q = Ev sh 241 76 [a0, a1, a2, a3] (.int 1 :: st) σ Q := Ev_step rfl
theorem s_M_findGets_76 (h : sh i2 = 9) : Ev sh 241 76 [a0, a1, a2, a3] [.int x3, .ref i2, .int x1, .ref i0] σ Q = Ev sh 204 0 [some (.ref i2), some (.int x3), none, none] [] σ (fun r s => Ev sh 241 79 [a0, a1, a2, a3] (zpush r [.int x1, .ref i0]) s Q) := Ev_callh (zrecv_of (by decide) h) rfl
theorem s_M_findGets_79 : Ev sh 241 79 [some (.ref i), a1, a2, a3] st σ Q = Ev sh 241 80 [some (.ref i), a1, a2, a3] (.ref i :: st) σ Q := Ev_step rfl
theorem s_M_findGets_80 (h : sh i = 9) : Ev sh 241 80 [a0, a1, a2, a3] (.ref i :: st) σ Q = Ev sh 241 83 [a0, a1, a2, a3] (.int (σ i 8) :: st) σ Q := Ev_h h rfl
theorem s_M_findGets_83 : Ev sh 241 83 [a0, a1, some (.int x), a3] st σ Q = Ev sh 241 84 [a0, a1, some (.int x), a3] (.int x :: st) σ Q := Ev_step rfl
theorem s_M_findGets_84 : Ev sh 241 84 [a0, a1, a2, a3] (.int y :: .int x :: st) σ Q = Ev sh 241 85 [a0, a1, a2, a3] (.int (x - y) :: st) σ Q := Ev_step rfl
theorem s_M_findGets_85 : Ev sh 241 85 [a0, a1, a2, a3] (.int y :: .int x :: st) σ Q = Ev sh 241 86 [a0, a1, a2, a3] (.int (x - y) :: st) σ Q := Ev_step rfl
theorem s_M_findGets_86 (h : zin x (sh i) = true) : Ev sh 241 86 [a0, a1, a2, a3] (.int y :: .int x :: .ref i :: st) σ Q = Ev sh 241 87 [a0, a1, a2, a3] st (zup σ i x.toNatClampNeg y) Q := Ev_h h rfl
theorem s_M_findGets_87 : Ev sh 241 87 [some (.ref i), a1, a2, a3] st σ Q = Ev sh 241 88 [some (.ref i), a1, a2, a3] (.ref i :: st) σ Q := Ev_step rfl
theorem s_M_findGets_88 (h : sh i0 = 9) : Ev sh 241 88 [a0, a1, a2, a3] [.ref i0] σ Q = Ev sh 185 0 [some (.ref i0)] [] σ (fun r s => Ev sh 241 91 [a0, a1, a2, a3] (zpush r []) s Q) := Ev_callh (zrecv_of (by decide) h) rfl
theorem s_M_findGets_91 : Ev sh 241 91 [a0, a1, a2, some (.int x)] st σ Q = Ev sh 241 94 [a0, a1, a2, some (.int (x + 1))] st σ Q := Ev_step rfl
theorem s_M_findGets_94 : Ev sh 241 94 [a0, a1, a2, a3] st σ Q = Ev sh 241 7 [a0, a1, a2, a3] st σ Q := Ev_step rfl
theorem s_M_findGets_97 : Ev sh 241 97 [a0, a1, a2, a3] [] σ Q = Q none σ := Ev_ret rfl
theorem s_M_two_0 : Ev sh 242 0 [a0, some (.int x), a2, a3] st σ Q = Ev sh 242 1 [a0, some (.int x), a2, a3] (.int x :: st) σ Q := Ev_step rfl
theorem s_M_two_1 : Ev sh 242 1 [a0, a1, a2, a3] st σ Q = Ev sh 242 2 [a0, a1, a2, a3] (.int 0 :: st) σ Q := Ev_step rfl
theorem s_M_two_2 : Ev sh 242 2 [a0, a1, a2, a3] st σ Q = Ev sh 242 4 [a0, a1, a2, a3] (.int 30 :: st) σ Q := Ev_step rfl
theorem s_M_two_4 : Ev sh 242 4 [a0, a1, a2, a3] [.int x2, .int x1, .int x0] σ Q = Ev sh 164 0 [some (.int x0), some (.int x1), some (.int x2)] [] σ (fun r s => Ev sh 242 7 [a0, a1, a2, a3] (zpush r []) s Q) := Ev_call rfl
theorem s_M_two_7 : Ev sh 242 7 [a0, a1, a2, a3] (.int x :: st) σ Q = Ev sh 242 8 [a0, zdrop2 a1, some (.int x), a3] st σ Q := Ev_step rfl
theorem s_M_two_8 : Ev sh 242 8 [a0, a1, some (.int x), a3] st σ Q = Ev sh 242 9 [a0, a1, some (.int x), a3] (.int x :: st) σ Q := Ev_step rfl
theorem s_M_two_9 : Ev sh 242 9 [a0, a1, a2, a3] (.int x :: st) σ Q = if x = 0 then Ev sh 242 18 [a0, a1, a2, a3] st σ Q else Ev sh 242 12 [a0, a1, a2, a3] st σ Q := Ev_if rfl
theorem s_M_two_12 : Ev sh 242 12 [some (.ref i), a1, a2, a3] st σ Q = Ev sh 242 13 [some (.ref i), a1, a2, a3] (.ref i :: st) σ Q := Ev_step rfl
theorem s_M_two_13 : Ev sh 242 13 [a0, a1, some (.int x), a3] st σ Q = Ev sh 242 14 [a0, a1, some (.int x), a3] (.int x :: st) σ Q := Ev_step rfl
theorem s_M_two_14 (h : sh i0 = 9) : Ev sh 242 14 [a0, a1, a2, a3] [.int x1, .ref i0] σ Q = Ev sh 160 0 [some (.ref i0), some (.int x1)] [] σ (fun r s => Ev sh 242 17 [a0, a1, a2, a3] (zpush r []) s Q) := Ev_callh (zrecv_of (by decide) h) rfl
theorem s_M_two_17 : Ev sh 242 17 [a0, a1, a2, a3] [.int x] σ Q = Q (some (.int x)) σ := Ev_ret rfl
theorem s_M_two_18 : Ev sh 242 18 [some (.ref i), a1, a2, a3] st σ Q = Ev sh 242 19 [some (.ref i), a1, a2, a3] (.ref i :: st) σ Q := Ev_step rfl
theorem s_M_two_19 : Ev sh 242 19 [a0, some (.int x), a2, a3] st σ Q = Ev sh 242 20 [a0, some (.int x), a2, a3] (.int x :: st) σ Q := Ev_step rfl
theorem s_M_two_20 (h : sh i0 = 9) : Ev sh 242 20 [a0, a1, a2, a3] [.int x1, .ref i0] σ Q = Ev sh 241 0 [some (.ref i0), some (.int x1), none, none] [] σ (fun r s => Ev sh 242 23 [a0, a1, a2, a3] (zpush r []) s Q) := Ev_callh (zrecv_of (by decide) h) rfl
theorem s_M_two_23 : Ev sh 242 23 [a0, a1, a2, a3] st σ Q = Ev sh 242 24 [a0, a1, a2, a3] (.int 0 :: st) σ Q := Ev_step rfl
theorem s_M_two_24 : Ev sh 242 24 [a0, a1, a2, a3] (.int x :: st) σ Q = Ev sh 242 25 [a0, a1, zdrop2 a2, some (.int x)] st σ Q := Ev_step rfl
theorem s_M_two_25 : Ev sh 242 25 [a0, a1, a2, some (.int x)] st σ Q = Ev sh 242 26 [a0, a1, a2, some (.int x)] (.int x :: st) σ Q := Ev_step rfl
theorem s_M_two_26 : Ev sh 242 26 [a0, a1, a2, a3] st σ Q = Ev sh 242 27 [a0, a1, a2, a3] (.int 4 :: st) σ Q := Ev_step rfl
theorem s_M_two_27 : Ev sh 242 27 [a0, a1, a2, a3] (.int y :: .int x :: st) σ Q = if y ≤ x then Ev sh 242 93 [a0, a1, a2, a3] st σ Q else Ev sh 242 30 [a0, a1, a2, a3] st σ Q := Ev_if rfl
theorem s_M_two_30 : Ev sh 242 30 [some (.ref i), a1, a2, a3] st σ Q = Ev sh 242 31 [some (.ref i), a1, a2, a3] (.ref i :: st) σ Q := Ev_step rfl
theorem s_M_two_31 (h : sh i = 9) : Ev sh 242 31 [a0, a1, a2, a3] (.ref i :: st) σ Q = Ev sh 242 34 [a0, a1, a2, a3] (.ref 13 :: st) σ Q := Ev_h h rfl
theorem s_M_two_34 : Ev sh 242 34 [a0, a1, a2, a3] st σ Q = Ev sh 242 35 [a0, a1, a2, a3] (.int 2 :: st) σ Q := Ev_step rfl
theorem s_M_two_35 : Ev sh 242 35 [a0, a1, a2, some (.int x)] st σ Q = Ev sh 242 36 [a0, a1, a2, some (.int x)] (.int x :: st) σ Q := Ev_step rfl
theorem s_M_two_36 : Ev sh 242 36 [a0, a1, a2, a3] st σ Q = Ev sh 242 37 [a0, a1, a2, a3] (.int 2 :: st) σ Q := Ev_step rfl
theorem s_M_two_37 : Ev sh 242 37 [a0, a1, a2, a3] (.int y :: .int x :: st) σ Q = Ev sh 242 38 [a0, a1, a2, a3] (.int (x ^^^ y) :: st) σ Q := Ev_step rfl
theorem s_M_two_38 : Ev sh 242 38 [a0, a1, a2, a3] (.int y :: .int x :: st) σ Q = Ev sh 242 39 [a0, a1, a2, a3] (.int (x * y) :: st) σ Q := Ev_step rfl
theorem s_M_two_39 (h : zin x (sh i) = true) : Ev sh 242 39 [a0, a1, a2, a3] (.int x :: .ref i :: st) σ Q = Ev sh 242 40 [a0, a1, a2, a3] (.int (σ i x.toNatClampNeg) :: st) σ Q := Ev_h h rfl
theorem s_M_two_40 : Ev sh 242 40 [some (.ref i), a1, a2, a3] st σ Q = Ev sh 242 41 [some (.ref i), a1, a2, a3] (.ref i :: st) σ Q := Ev_step rfl
theorem s_M_two_41 (h : sh i = 9) : Ev sh 242 41 [a0, a1, a2, a3] (.ref i :: st) σ Q = Ev sh 242 44 [a0, a1, a2, a3] (.ref 13 :: st) σ Q := Ev_h h rfl
theorem s_M_two_44 : Ev sh 242 44 [a0, a1, a2, a3] st σ Q = Ev sh 242 45 [a0, a1, a2, a3] (.int 2 :: st) σ Q := Ev_step rfl
theorem s_M_two_45 : Ev sh 242 45 [a0, a1, a2, some (.int x)] st σ Q = Ev sh 242 46 [a0, a1, a2, some (.int x)] (.int x :: st) σ Q := Ev_step rfl
theorem s_M_two_46 : Ev sh 242 46 [a0, a1, a2, a3] (.int y :: .int x :: st) σ Q = Ev sh 242 47 [a0, a1, a2, a3] (.int (x * y) :: st) σ Q := Ev_step rfl
theorem s_M_two_47 (h : zin x (sh i) = true) : Ev sh 242 47 [a0, a1, a2, a3] (.int x :: .ref i :: st) σ Q = Ev sh 242 48 [a0, a1, a2, a3] (.int (σ i x.toNatClampNeg) :: st) σ Q := Ev_h h rfl
theorem s_M_two_48 : Ev sh 242 48 [a0, a1, a2, a3] (.int y :: .int x :: st) σ Q = if y < x then Ev sh 242 87 [a0, a1, a2, a3] st σ Q else Ev sh 242 51 [a0, a1, a2, a3] st σ Q := Ev_if rfl
theorem s_M_two_51 : Ev sh 242 51 [some (.ref i), a1, a2, a3] st σ Q = Ev sh 242 52 [some (.ref i), a1, a2, a3] (.ref i :: st) σ Q := Ev_step rfl
theorem s_M_two_52 (h : sh i = 9) : Ev sh 242 52 [a0, a1, a2, a3] (.ref i :: st) σ Q = Ev sh 242 55 [a0, a1, a2, a3] (.ref 13 :: st) σ Q := Ev_h h rfl
theorem s_M_two_55 : Ev sh 242 55 [a0, a1, a2, a3] st σ Q = Ev sh 242 56 [a0, a1, a2, a3] (.int 2 :: st) σ Q := Ev_step rfl
theorem s_M_two_56 : Ev sh 242 56 [a0, a1, a2, some (.int x)] st σ Q = Ev sh 242 57 [a0, a1, a2, some (.int x)] (.int x :: st) σ Q := Ev_step rfl
theorem s_M_two_57 : Ev sh 242 57 [a0, a1, a2, a3] st σ Q = Ev sh 242 58 [a0, a1, a2, a3] (.int 1 :: st) σ Q := Ev_step rfl
theorem s_M_two_58 : Ev sh 242 58 [a0, a1, a2, a3] (.int y :: .int x :: st) σ Q = Ev sh 242 59 [a0, a1, a2, a3] (.int (x ^^^ y) :: st) σ Q := Ev_step rfl
theorem s_M_two_59 : Ev sh 242 59 [a0, a1, a2, a3] (.int y :: .int x :: st) σ Q = Ev sh 242 60 [a0, a1, a2, a3] (.int (x * y) :: st) σ Q := Ev_step rfl
theorem s_M_two_60 : Ev sh 242 60 [a0, a1, a2, a3] st σ Q = Ev sh 242 61 [a0, a1, a2, a3] (.int 1 :: st) σ Q := Ev_step rfl
theorem s_M_two_61 : Ev sh 242 61 [a0, a1, a2, a3] (.int y :: .int x :: st) σ Q = Ev sh 242 62 [a0, a1, a2, a3] (.int (x + y) :: st) σ Q := Ev_step rfl
theorem s_M_two_62 (h : zin x (sh i) = true) : Ev sh 242 62 [a0, a1, a2, a3] (.int x :: .ref i :: st) σ Q = Ev sh 242 63 [a0, a1, a2, a3] (.int (σ i x.toNatClampNeg) :: st) σ Q := Ev_h h rfl
theorem s_M_two_63 : Ev sh 242 63 [some (.ref i), a1, a2, a3] st σ Q = Ev sh 242 64 [some (.ref i), a1, a2, a3] (.ref i :: st) σ Q := Ev_step rfl
theorem s_M_two_64 (h : sh i = 9) : Ev sh 242 64 [a0, a1, a2, a3] (.ref i :: st) σ Q = Ev sh 242 67 [a0, a1, a2, a3] (.ref 13 :: st) σ Q := Ev_h h rfl
theorem s_M_two_67 : Ev sh 242 67 [a0, a1, a2, a3] st σ Q = Ev sh 242 68 [a0, a1, a2, a3] (.int 2 :: st) σ Q := Ev_step rfl
theorem s_M_two_68 : Ev sh 242 68 [a0, a1, a2, some (.int x)] st σ Q = Ev sh 242 69 [a0, a1, a2, some (.int x)] (.int x :: st) σ Q := Ev_step rfl
theorem s_M_two_69 : Ev sh 242 69 [a0, a1, a2, a3] (.int y :: .int x :: st) σ Q = Ev sh 242 70 [a0, a1, a2, a3] (.int (x * y) :: st) σ Q := Ev_step rfl
theorem s_M_two_70 : Ev sh 242 70 [a0, a1, a2, a3] st σ Q = Ev sh 242 71 [a0, a1, a2, a3] (.int 1 :: st) σ Q := Ev_step rfl
theorem s_M_two_71 : Ev sh 242 71 [a0, a1, a2, a3] (.int y :: .int x :: st) σ Q = Ev sh 242 72 [a0, a1, a2, a3] (.int (x + y) :: st) σ Q := Ev_step rfl
theorem s_M_two_72 (h : zin x (sh i) = true) : Ev sh 242 72 [a0, a1, a2, a3] (.int x :: .ref i :: st) σ Q = Ev sh 242 73 [a0, a1, a2, a3] (.int (σ i x.toNatClampNeg) :: st) σ Q := Ev_h h rfl
theorem s_M_two_73 : Ev sh 242 73 [a0, a1, a2, a3] (.int y :: .int x :: st) σ Q = if y < x then Ev sh 242 87 [a0, a1, a2, a3] st σ Q else Ev sh 242 76 [a0, a1, a2, a3] st σ Q := Ev_if rfl
theorem s_M_two_76 : Ev sh 242 76 [a0, a1, a2, a3] st σ Q = Ev sh 242 78 [a0, a1, a2, a3] (.int 10 :: st) σ Q := Ev_step rfl
theorem s_M_two_78 : Ev sh 242 78 [a0, a1, a2, some (.int x)] st σ Q = Ev sh 242 79 [a0, a1, a2, some (.int x)] (.int x :: st) σ Q := Ev_step rfl
theorem s_M_two_79 : Ev sh 242 79 [a0, a1, a2, a3] st σ Q = Ev sh 242 80 [a0, a1, a2, a3] (.int 2 :: st) σ Q := Ev_step rfl
theorem s_M_two_80 (h : ¬ y = 0) : Ev sh 242 80 [a0, a1, a2, a3] (.int y :: .int x :: st) σ Q = Ev sh 242 81 [a0, a1, a2, a3] (.int (x / y) :: st) σ Q := Ev_h h rfl
theorem s_M_two_81 : Ev sh 242 81 [a0, a1, a2, a3] (.int y :: .int x :: st) σ Q = Ev sh 242 82 [a0, a1, a2, a3] (.int (x * y) :: st) σ Q := Ev_step rfl
theorem s_M_two_82 : Ev sh 242 82 [a0, a1, a2, some (.int x)] st σ Q = Ev sh 242 83 [a0, a1, a2, some (.int x)] (.int x :: st) σ Q := Ev_step rfl
theorem s_M_two_83 : Ev sh 242 83 [a0, a1, a2, a3] st σ Q = Ev sh 242 84 [a0, a1, a2, a3] (.int 2 :: st) σ Q := Ev_step rfl
theorem s_M_two_84 (h : ¬ y = 0) : Ev sh 242 84 [a0, a1, a2, a3] (.int y :: .int x :: st) σ Q = Ev sh 242 85 [a0, a1, a2, a3] (.int (x - x / y * y) :: st) σ Q := Ev_h h rfl
theorem s_M_two_85 : Ev sh 242 85 [a0, a1, a2, a3] (.int y :: .int x :: st) σ Q = Ev sh 242 86 [a0, a1, a2, a3] (.int (x + y) :: st) σ Q := Ev_step rfl
theorem s_M_two_86 : Ev sh 242 86 [a0, a1, a2, a3] [.int x] σ Q = Q (some (.int x)) σ := Ev_ret rfl
theorem s_M_two_87 : Ev sh 242 87 [a0, a1, a2, some (.int x)] st σ Q = Ev sh 242 90 [a0, a1, a2, some (.int (x + 1))] st σ Q := Ev_step rfl
theorem s_M_two_90 : Ev sh 242 90 [a0, a1, a2, a3] st σ Q = Ev sh 242 25 [a0, a1, a2, a3] st σ Q := Ev_step rfl
theorem s_M_two_93 : Ev sh 242 93 [a0, a1, a2, a3] st σ Q = Ev sh 242 95 [a0, a1, a2, a3] (.int (-9) :: st) σ Q := Ev_step rfl
theorem s_M_two_95 : Ev sh 242 95 [a0, a1, a2, a3] [.int x] σ Q = Q (some (.int x)) σ := Ev_ret rfl
theorem s_M_divisor_0 : Ev sh 243 0 [some (.long u), a1, a2, a3, a4, a5, a6, a7, a8, a9] st σ Q = Ev sh 243 1 [some (.long u), a1, a2, a3, a4, a5, a6, a7, a8, a9] (.long u :: st) σ Q := Ev_step rfl
theorem s_M_divisor_1 : Ev sh 243 1 [a0, a1, a2, a3, a4, a5, a6, a7, a8, a9] (.long u :: st) σ Q = Ev sh 243 3 [a0, a1, a2, zdrop2 a3, some (.long u), none, a6, a7, a8, a9] st σ Q := Ev_step rfl
theorem s_M_divisor_3 : Ev sh 243 3 [a0, a1, some (.long u), a3, a4, a5, a6, a7, a8, a9] st σ Q = Ev sh 243 4 [a0, a1, some (.long u), a3, a4, a5, a6, a7, a8, a9] (.long u :: st) σ Q := Ev_step rfl
theorem s_M_divisor_4 : Ev sh 243 4 [a0, a1, a2, a3, a4, a5, a6, a7, a8, a9] (.long u :: st) σ Q = Ev sh 243 6 [a0, a1, a2, a3, a4, zdrop2 a5, some (.long u), none, a8, a9] st σ Q := Ev_step rfl
theorem s_M_divisor_6 : Ev sh 243 6 [a0, a1, a2, a3, a4, a5, some (.long u), a7, a8, a9] st σ Q = Ev sh 243 8 [a0, a1, a2, a3, a4, a5, some (.long u), a7, a8, a9] (.long u :: st) σ Q := Ev_step rfl
theorem s_M_divisor_8 : Ev sh 243 8 [a0, a1, a2, a3, a4, a5, a6, a7, a8, a9] st σ Q = Ev sh 243 9 [a0, a1, a2, a3, a4, a5, a6, a7, a8, a9] (.long 0 :: st) σ Q := Ev_step rfl
theorem s_M_divisor_9 : Ev sh 243 9 [a0, a1, a2, a3, a4, a5, a6, a7, a8, a9] (.long v :: .long u :: st) σ Q = Ev sh 243 10 [a0, a1, a2, a3, a4, a5, a6, a7, a8, a9] (.int (lg_cmp u v) :: st) σ Q := Ev_step rfl
theorem s_M_divisor_10 : Ev sh 243 10 [a0, a1, a2, a3, a4, a5, a6, a7, a8, a9] (.int x :: st) σ Q = if x = 0 then Ev sh 243 31 [a0, a1, a2, a3, a4, a5, a6, a7, a8, a9] st σ Q else Ev sh 243 13 [a0, a1, a2, a3, a4, a5, a6, a7, a8, a9] st σ Q := Ev_if rfl
theorem s_M_divisor_13 : Ev sh 243 13 [a0, a1, a2, a3, some (.long u), a5, a6, a7, a8, a9] st σ Q = Ev sh 243 15 [a0, a1, a2, a3, some (.long u), a5, a6, a7, a8, a9] (.long u :: st) σ Q := Ev_step rfl
theorem s_M_divisor_15 : Ev sh 243 15 [a0, a1, a2, a3, a4, a5, some (.long u), a7, a8, a9] st σ Q = Ev sh 243 17 [a0, a1, a2, a3, a4, a5, some (.long u), a7, a8, a9] (.long u :: st) σ Q := Ev_step rfl
theorem s_M_divisor_17 (h : ¬ v = 0) : Ev sh 243 17 [a0, a1, a2, a3, a4, a5, a6, a7, a8, a9] (.long v :: .long u :: st) σ Q = Ev sh 243 18 [a0, a1, a2, a3, a4, a5, a6, a7, a8, a9] (.long (u - u / v * v) :: st) σ Q := Ev_h h rfl
theorem s_M_divisor_18 : Ev sh 243 18 [a0, a1, a2, a3, a4, a5, a6, a7, a8, a9] (.long u :: st) σ Q = Ev sh 243 20 [a0, a1, a2, a3, a4, a5, a6, zdrop2 a7, some (.long u), none] st σ Q := Ev_step rfl
theorem s_M_divisor_20 : Ev sh 243 20 [a0, a1, a2, a3, a4, a5, some (.long u), a7, a8, a9] st σ Q = Ev sh 243 22 [a0, a1, a2, a3, a4, a5, some (.long u), a7, a8, a9] (.long u :: st) σ Q := Ev_step rfl
theorem s_M_divisor_22 : Ev sh 243 22 [a0, a1, a2, a3, a4, a5, a6, a7, a8, a9] (.long u :: st) σ Q = Ev sh 243 24 [a0, a1, a2, zdrop2 a3, some (.long u), none, a6, a7, a8, a9] st σ Q := Ev_step rfl
theorem s_M_divisor_24 : Ev sh 243 24 [a0, a1, a2, a3, a4, a5, a6, a7, some (.long u), a9] st σ Q = Ev sh 243 26 [a0, a1, a2, a3, a4, a5, a6, a7, some (.long u), a9] (.long u :: st) σ Q := Ev_step rfl
theorem s_M_divisor_26 : Ev sh 243 26 [a0, a1, a2, a3, a4, a5, a6, a7, a8, a9] (.long u :: st) σ Q = Ev sh 243 28 [a0, a1, a2, a3, a4, zdrop2 a5, some (.long u), none, a8, a9] st σ Q := Ev_step rfl
theorem s_M_divisor_28 : Ev sh 243 28 [a0, a1, a2, a3, a4, a5, a6, a7, a8, a9] st σ Q = Ev sh 243 6 [a0, a1, a2, a3, a4, a5, a6, a7, a8, a9] st σ Q := Ev_step rfl
theorem s_M_divisor_31 : Ev sh 243 31 [a0, a1, a2, a3, some (.long u), a5, a6, a7, a8, a9] st σ Q = Ev sh 243 33 [a0, a1, a2, a3, some (.long u), a5, a6, a7, a8, a9] (.long u :: st) σ Q := Ev_step rfl
theorem s_M_divisor_33 : Ev sh 243 33 [a0, a1, a2, a3, a4, a5, a6, a7, a8, a9] [.long u] σ Q = Q (some (.long u)) σ := Ev_ret rfl
theorem s_M_partOf_0 : Ev sh 244 0 [a0, a1, a2, a3, some (.int x)] st σ Q = Ev sh 244 2 [a0, a1, a2, a3, some (.int x)] (.int x :: st) σ Q := Ev_step rfl
theorem s_M_partOf_2 : Ev sh 244 2 [a0, a1, a2, a3, a4] (.int x :: st) σ Q = if x ≠ 0 then Ev sh 244 9 [a0, a1, a2, a3, a4] st σ Q else Ev sh 244 5 [a0, a1, a2, a3, a4] st σ Q := Ev_if rfl
theorem s_M_partOf_5 : Ev sh 244 5 [some (.long u), a1, a2, a3, a4] st σ Q = Ev sh 244 6 [some (.long u), a1, a2, a3, a4] (.long u :: st) σ Q := Ev_step rfl
theorem s_M_partOf_6 : Ev sh 244 6 [a0, a1, a2, a3, a4] st σ Q = Ev sh 244 10 [a0, a1, a2, a3, a4] st σ Q := Ev_step rfl
theorem s_M_partOf_9 : Ev sh 244 9 [a0, a1, some (.long u), a3, a4] st σ Q = Ev sh 244 10 [a0, a1, some (.long u), a3, a4] (.long u :: st) σ Q := Ev_step rfl
theorem s_M_partOf_10 : Ev sh 244 10 [some (.long u), a1, a2, a3, a4] st σ Q = Ev sh 244 11 [some (.long u), a1, a2, a3, a4] (.long u :: st) σ Q := Ev_step rfl
theorem s_M_partOf_11 : Ev sh 244 11 [a0, a1, some (.long u), a3, a4] st σ Q = Ev sh 244 12 [a0, a1, some (.long u), a3, a4] (.long u :: st) σ Q := Ev_step rfl
theorem s_M_partOf_12 : Ev sh 244 12 [a0, a1, a2, a3, a4] [.long u2, .long u1, .long u0] σ Q = Ev sh 243 0 [some (.long u1), none, some (.long u2), none, none, none, none, none, none, none] [] σ (fun r s => Ev sh 244 15 [a0, a1, a2, a3, a4] (zpush r [.long u0]) s Q) := Ev_call rfl
theorem s_M_partOf_15 (h : ¬ v = 0) : Ev sh 244 15 [a0, a1, a2, a3, a4] (.long v :: .long u :: st) σ Q = Ev sh 244 16 [a0, a1, a2, a3, a4] (.long (u / v) :: st) σ Q := Ev_h h rfl
theorem s_M_partOf_16 : Ev sh 244 16 [a0, a1, a2, a3, a4] [.long u] σ Q = Q (some (.long u)) σ := Ev_ret rfl
theorem s_M_fever_0 : Ev sh 245 0 [a0, some (.int x), a2, a3, a4, a5, a6, a7, a8, a9, a10, a11, a12] st σ Q = Ev sh 245 1 [a0, some (.int x), a2, a3, a4, a5, a6, a7, a8, a9, a10, a11, a12] (.int x :: st) σ Q := Ev_step rfl
theorem s_M_fever_1 : Ev sh 245 1 [a0, a1, a2, a3, a4, a5, a6, a7, a8, a9, a10, a11, a12] (.int x :: st) σ Q = if x < 0 then Ev sh 245 9 [a0, a1, a2, a3, a4, a5, a6, a7, a8, a9, a10, a11, a12] st σ Q else Ev sh 245 4 [a0, a1, a2, a3, a4, a5, a6, a7, a8, a9, a10, a11, a12] st σ Q := Ev_if rfl
theorem s_M_fever_4 : Ev sh 245 4 [a0, a1, some (.int x), a3, a4, a5, a6, a7, a8, a9, a10, a11, a12] st σ Q = Ev sh 245 5 [a0, a1, some (.int x), a3, a4, a5, a6, a7, a8, a9, a10, a11, a12] (.int x :: st) σ Q := Ev_step rfl
theorem s_M_fever_5 : Ev sh 245 5 [a0, a1, a2, a3, a4, a5, a6, a7, a8, a9, a10, a11, a12] st σ Q = Ev sh 245 6 [a0, a1, a2, a3, a4, a5, a6, a7, a8, a9, a10, a11, a12] (.int 2 :: st) σ Q := Ev_step rfl
theorem s_M_fever_6 : Ev sh 245 6 [a0, a1, a2, a3, a4, a5, a6, a7, a8, a9, a10, a11, a12] (.int y :: .int x :: st) σ Q = if y ≤ x then Ev sh 245 14 [a0, a1, a2, a3, a4, a5, a6, a7, a8, a9, a10, a11, a12] st σ Q else Ev sh 245 9 [a0, a1, a2, a3, a4, a5, a6, a7, a8, a9, a10, a11, a12] st σ Q := Ev_if rfl
theorem s_M_fever_9 : Ev sh 245 9 [a0, a1, a2, a3, a4, a5, a6, a7, a8, a9, a10, a11, a12] st σ Q = Ev sh 245 11 [a0, a1, a2, a3, a4, a5, a6, a7, a8, a9, a10, a11, a12] (.int (-4) :: st) σ Q := Ev_step rfl
theorem s_M_fever_11 : Ev sh 245 11 [a0, a1, a2, a3, a4, a5, a6, a7, a8, a9, a10, a11, a12] st σ Q = Ev sh 245 46 [a0, a1, a2, a3, a4, a5, a6, a7, a8, a9, a10, a11, a12] st σ Q := Ev_step rfl
theorem s_M_fever_14 : Ev sh 245 14 [a0, some (.int x), a2, a3, a4, a5, a6, a7, a8, a9, a10, a11, a12] st σ Q = Ev sh 245 15 [a0, some (.int x), a2, a3, a4, a5, a6, a7, a8, a9, a10, a11, a12] (.int x :: st) σ Q := Ev_step rfl
theorem s_M_fever_15 : Ev sh 245 15 [a0, a1, a2, a3, a4, a5, a6, a7, a8, a9, a10, a11, a12] st σ Q = Ev sh 245 17 [a0, a1, a2, a3, a4, a5, a6, a7, a8, a9, a10, a11, a12] (.int 7 :: st) σ Q := Ev_step rfl
theorem s_M_fever_17 : Ev sh 245 17 [a0, a1, a2, a3, a4, a5, a6, a7, a8, a9, a10, a11, a12] (.int y :: .int x :: st) σ Q = if y < x then Ev sh 245 26 [a0, a1, a2, a3, a4, a5, a6, a7, a8, a9, a10, a11, a12] st σ Q else Ev sh 245 20 [a0, a1, a2, a3, a4, a5, a6, a7, a8, a9, a10, a11, a12] st σ Q := Ev_if rfl
theorem s_M_fever_20 : Ev sh 245 20 [a0, a1, some (.int x), a3, a4, a5, a6, a7, a8, a9, a10, a11, a12] st σ Q = Ev sh 245 21 [a0, a1, some (.int x), a3, a4, a5, a6, a7, a8, a9, a10, a11, a12] (.int x :: st) σ Q := Ev_step rfl
theorem s_M_fever_21 : Ev sh 245 21 [a0, a1, a2, a3, a4, a5, a6, a7, a8, a9, a10, a11, a12] st σ Q = Ev sh 245 23 [a0, a1, a2, a3, a4, a5, a6, a7, a8, a9, a10, a11, a12] (.int 20 :: st) σ Q := Ev_step rfl
theorem s_M_fever_23 : Ev sh 245 23 [a0, a1, a2, a3, a4, a5, a6, a7, a8, a9, a10, a11, a12] (.int y :: .int x :: st) σ Q = if x ≤ y then Ev sh 245 31 [a0, a1, a2, a3, a4, a5, a6, a7, a8, a9, a10, a11, a12] st σ Q else Ev sh 245 26 [a0, a1, a2, a3, a4, a5, a6, a7, a8, a9, a10, a11, a12] st σ Q := Ev_if rfl
theorem s_M_fever_26 : Ev sh 245 26 [a0, a1, a2, a3, a4, a5, a6, a7, a8, a9, a10, a11, a12] st σ Q = Ev sh 245 28 [a0, a1, a2, a3, a4, a5, a6, a7, a8, a9, a10, a11, a12] (.int (-6) :: st) σ Q := Ev_step rfl
theorem s_M_fever_28 : Ev sh 245 28 [a0, a1, a2, a3, a4, a5, a6, a7, a8, a9, a10, a11, a12] st σ Q = Ev sh 245 46 [a0, a1, a2, a3, a4, a5, a6, a7, a8, a9, a10, a11, a12] st σ Q := Ev_step rfl
theorem s_M_fever_31 : Ev sh 245 31 [a0, a1, a2, some (.int x), a4, a5, a6, a7, a8, a9, a10, a11, a12] st σ Q = Ev sh 245 32 [a0, a1, a2, some (.int x), a4, a5, a6, a7, a8, a9, a10, a11, a12] (.int x :: st) σ Q := Ev_step rfl
theorem s_M_fever_32 : Ev sh 245 32 [a0, a1, a2, a3, a4, a5, a6, a7, a8, a9, a10, a11, a12] st σ Q = Ev sh 245 33 [a0, a1, a2, a3, a4, a5, a6, a7, a8, a9, a10, a11, a12] (.int 0 :: st) σ Q := Ev_step rfl
theorem s_M_fever_33 : Ev sh 245 33 [a0, a1, a2, a3, a4, a5, a6, a7, a8, a9, a10, a11, a12] st σ Q = Ev sh 245 34 [a0, a1, a2, a3, a4, a5, a6, a7, a8, a9, a10, a11, a12] (.int 1 :: st) σ Q := Ev_step rfl
theorem s_M_fever_34 : Ev sh 245 34 [a0, a1, a2, a3, a4, a5, a6, a7, a8, a9, a10, a11, a12] [.int x2, .int x1, .int x0] σ Q = Ev sh 163 0 [some (.int x0), some (.int x1), some (.int x2)] [] σ (fun r s => Ev sh 245 37 [a0, a1, a2, a3, a4, a5, a6, a7, a8, a9, a10, a11, a12] (zpush r []) s Q) := Ev_call rfl
theorem s_M_fever_37 : Ev sh 245 37 [a0, a1, a2, a3, a4, a5, a6, a7, a8, a9, a10, a11, a12] (.int x :: st) σ Q = if x ≠ 0 then Ev sh 245 45 [a0, a1, a2, a3, a4, a5, a6, a7, a8, a9, a10, a11, a12] st σ Q else Ev sh 245 40 [a0, a1, a2, a3, a4, a5, a6, a7, a8, a9, a10, a11, a12] st σ Q := Ev_if rfl
theorem s_M_fever_40 : Ev sh 245 40 [a0, a1, a2, a3, a4, a5, a6, a7, a8, a9, a10, a11, a12] st σ Q = Ev sh 245 42 [a0, a1, a2, a3, a4, a5, a6, a7, a8, a9, a10, a11, a12] (.int (-2) :: st) σ Q := Ev_step rfl
theorem s_M_fever_42 : Ev sh 245 42 [a0, a1, a2, a3, a4, a5, a6, a7, a8, a9, a10, a11, a12] st σ Q = Ev sh 245 46 [a0, a1, a2, a3, a4, a5, a6, a7, a8, a9, a10, a11, a12] st σ Q := Ev_step rfl
theorem s_M_fever_45 : Ev sh 245 45 [a0, a1, a2, a3, a4, a5, a6, a7, a8, a9, a10, a11, a12] st σ Q = Ev sh 245 46 [a0, a1, a2, a3, a4, a5, a6, a7, a8, a9, a10, a11, a12] (.int 0 :: st) σ Q := Ev_step rfl
theorem s_M_fever_46 : Ev sh 245 46 [a0, a1, a2, a3, a4, a5, a6, a7, a8, a9, a10, a11, a12] (.int x :: st) σ Q = Ev sh 245 48 [a0, a1, a2, zdrop2 a3, some (.int x), a5, a6, a7, a8, a9, a10, a11, a12] st σ Q := Ev_step rfl
theorem s_M_fever_48 : Ev sh 245 48 [a0, a1, a2, a3, some (.int x), a5, a6, a7, a8, a9, a10, a11, a12] st σ Q = Ev sh 245 50 [a0, a1, a2, a3, some (.int x), a5, a6, a7, a8, a9, a10, a11, a12] (.int x :: st) σ Q := Ev_step rfl
theorem s_M_fever_50 : Ev sh 245 50 [a0, a1, a2, a3, a4, a5, a6, a7, a8, a9, a10, a11, a12] (.int x :: st) σ Q = if x = 0 then Ev sh 245 60 [a0, a1, a2, a3, a4, a5, a6, a7, a8, a9, a10, a11, a12] st σ Q else Ev sh 245 53 [a0, a1, a2, a3, a4, a5, a6, a7, a8, a9, a10, a11, a12] st σ Q := Ev_if rfl
theorem s_M_fever_53 : Ev sh 245 53 [some (.ref i), a1, a2, a3, a4, a5, a6, a7, a8, a9, a10, a11, a12] st σ Q = Ev sh 245 54 [some (.ref i), a1, a2, a3, a4, a5, a6, a7, a8, a9, a10, a11, a12] (.ref i :: st) σ Q := Ev_step rfl
theorem s_M_fever_54 : Ev sh 245 54 [a0, a1, a2, a3, some (.int x), a5, a6, a7, a8, a9, a10, a11, a12] st σ Q = Ev sh 245 56 [a0, a1, a2, a3, some (.int x), a5, a6, a7, a8, a9, a10, a11, a12] (.int x :: st) σ Q := Ev_step rfl
theorem s_M_fever_56 (h : sh i0 = 9) : Ev sh 245 56 [a0, a1, a2, a3, a4, a5, a6, a7, a8, a9, a10, a11, a12] [.int x1, .ref i0] σ Q = Ev sh 162 0 [some (.ref i0), some (.int x1)] [] σ (fun r s => Ev sh 245 59 [a0, a1, a2, a3, a4, a5, a6, a7, a8, a9, a10, a11, a12] (zpush r []) s Q) := Ev_callh (zrecv_of (by decide) h) rfl
theorem s_M_fever_59 : Ev sh 245 59 [a0, a1, a2, a3, a4, a5, a6, a7, a8, a9, a10, a11, a12] [.long u] σ Q = Q (some (.long u)) σ := Ev_ret rfl
theorem s_M_fever_60 : Ev sh 245 60 [a0, a1, a2, a3, a4, a5, a6, a7, a8, a9, a10, a11, a12] st σ Q = Ev sh 245 61 [a0, a1, a2, a3, a4, a5, a6, a7, a8, a9, a10, a11, a12] (.long 0 :: st) σ Q := Ev_step rfl
theorem s_M_fever_61 : Ev sh 245 61 [a0, a1, a2, a3, a4, a5, a6, a7, a8, a9, a10, a11, a12] (.long u :: st) σ Q = Ev sh 245 63 [a0, a1, a2, a3, zdrop2 a4, some (.long u), none, a7, a8, a9, a10, a11, a12] st σ Q := Ev_step rfl
theorem s_M_fever_63 : Ev sh 245 63 [a0, a1, a2, a3, a4, a5, a6, a7, a8, a9, a10, a11, a12] st σ Q = Ev sh 245 64 [a0, a1, a2, a3, a4, a5, a6, a7, a8, a9, a10, a11, a12] (.long 1 :: st) σ Q := Ev_step rfl
theorem s_M_fever_64 : Ev sh 245 64 [a0, a1, a2, a3, a4, a5, a6, a7, a8, a9, a10, a11, a12] (.long u :: st) σ Q = Ev sh 245 66 [a0, a1, a2, a3, a4, a5, zdrop2 a6, some (.long u), none, a9, a10, a11, a12] st σ Q := Ev_step rfl
theorem s_M_fever_66 : Ev sh 245 66 [a0, a1, a2, a3, a4, a5, a6, a7, a8, a9, a10, a11, a12] st σ Q = Ev sh 245 67 [a0, a1, a2, a3, a4, a5, a6, a7, a8, a9, a10, a11, a12] (.int 0 :: st) σ Q := Ev_step rfl
theorem s_M_fever_67 : Ev sh 245 67 [a0, a1, a2, a3, a4, a5, a6, a7, a8, a9, a10, a11, a12] (.int x :: st) σ Q = Ev sh 245 69 [a0, a1, a2, a3, a4, a5, a6, a7, zdrop2 a8, some (.int x), a10, a11, a12] st σ Q := Ev_step rfl
theorem s_M_fever_69 : Ev sh 245 69 [a0, a1, a2, a3, a4, a5, a6, a7, a8, some (.int x), a10, a11, a12] st σ Q = Ev sh 245 71 [a0, a1, a2, a3, a4, a5, a6, a7, a8, some (.int x), a10, a11, a12] (.int x :: st) σ Q := Ev_step rfl
theorem s_M_fever_71 : Ev sh 245 71 [a0, some (.int x), a2, a3, a4, a5, a6, a7, a8, a9, a10, a11, a12] st σ Q = Ev sh 245 72 [a0, some (.int x), a2, a3, a4, a5, a6, a7, a8, a9, a10, a11, a12] (.int x :: st) σ Q := Ev_step rfl
theorem s_M_fever_72 : Ev sh 245 72 [a0, a1, a2, a3, a4, a5, a6, a7, a8, a9, a10, a11, a12] (.int y :: .int x :: st) σ Q = if y ≤ x then Ev sh 245 88 [a0, a1, a2, a3, a4, a5, a6, a7, a8, a9, a10, a11, a12] st σ Q else Ev sh 245 75 [a0, a1, a2, a3, a4, a5, a6, a7, a8, a9, a10, a11, a12] st σ Q := Ev_if rfl
theorem s_M_fever_75 : Ev sh 245 75 [a0, a1, a2, a3, a4, a5, a6, some (.long u), a8, a9, a10, a11, a12] st σ Q = Ev sh 245 77 [a0, a1, a2, a3, a4, a5, a6, some (.long u), a8, a9, a10, a11, a12] (.long u :: st) σ Q := Ev_step rfl
theorem s_M_fever_77 : Ev sh 245 77 [a0, a1, some (.int x), a3, a4, a5, a6, a7, a8, a9, a10, a11, a12] st σ Q = Ev sh 245 78 [a0, a1, some (.int x), a3, a4, a5, a6, a7, a8, a9, a10, a11, a12] (.int x :: st) σ Q := Ev_step rfl
theorem s_M_fever_78 : Ev sh 245 78 [a0, a1, a2, a3, a4, a5, a6, a7, a8, a9, a10, a11, a12] (.int x :: st) σ Q = Ev sh 245 79 [a0, a1, a2, a3, a4, a5, a6, a7, a8, a9, a10, a11, a12] (.long x.toInt64 :: st) σ Q := Ev_step rfl
theorem s_M_fever_79 : Ev sh 245 79 [a0, a1, a2, a3, a4, a5, a6, a7, a8, a9, a10, a11, a12] (.long v :: .long u :: st) σ Q = Ev sh 245 80 [a0, a1, a2, a3, a4, a5, a6, a7, a8, a9, a10, a11, a12] (.long (u * v) :: st) σ Q := Ev_step rfl
theorem s_M_fever_80 : Ev sh 245 80 [a0, a1, a2, a3, a4, a5, a6, a7, a8, a9, a10, a11, a12] (.long u :: st) σ Q = Ev sh 245 82 [a0, a1, a2, a3, a4, a5, zdrop2 a6, some (.long u), none, a9, a10, a11, a12] st σ Q := Ev_step rfl
theorem s_M_fever_82 : Ev sh 245 82 [a0, a1, a2, a3, a4, a5, a6, a7, a8, some (.int x), a10, a11, a12] st σ Q = Ev sh 245 85 [a0, a1, a2, a3, a4, a5, a6, a7, a8, some (.int (x + 1)), a10, a11, a12] st σ Q := Ev_step rfl
theorem s_M_fever_85 : Ev sh 245 85 [a0, a1, a2, a3, a4, a5, a6, a7, a8, a9, a10, a11, a12] st σ Q = Ev sh 245 69 [a0, a1, a2, a3, a4, a5, a6, a7, a8, a9, a10, a11, a12] st σ Q := Ev_step rfl
theorem s_M_fever_88 : Ev sh 245 88 [a0, a1, a2, a3, a4, a5, a6, a7, a8, a9, a10, a11, a12] st σ Q = Ev sh 245 89 [a0, a1, a2, a3, a4, a5, a6, a7, a8, a9, a10, a11, a12] (.int 0 :: st) σ Q := Ev_step rfl
theorem s_M_fever_89 : Ev sh 245 89 [a0, a1, a2, a3, a4, a5, a6, a7, a8, a9, a10, a11, a12] (.int x :: st) σ Q = Ev sh 245 91 [a0, a1, a2, a3, a4, a5, a6, a7, zdrop2 a8, some (.int x), a10, a11, a12] st σ Q := Ev_step rfl
theorem s_M_fever_91 : Ev sh 245 91 [a0, a1, a2, a3, a4, a5, a6, a7, a8, some (.int x), a10, a11, a12] st σ Q = Ev sh 245 93 [a0, a1, a2, a3, a4, a5, a6, a7, a8, some (.int x), a10, a11, a12] (.int x :: st) σ Q := Ev_step rfl
theorem s_M_fever_93 : Ev sh 245 93 [a0, a1, a2, a3, a4, a5, a6, a7, a8, a9, a10, a11, a12] st σ Q = Ev sh 245 94 [a0, a1, a2, a3, a4, a5, a6, a7, a8, a9, a10, a11, a12] (.int 1 :: st) σ Q := Ev_step rfl
theorem s_M_fever_94 : Ev sh 245 94 [a0, some (.int x), a2, a3, a4, a5, a6, a7, a8, a9, a10, a11, a12] st σ Q = Ev sh 245 95 [a0, some (.int x), a2, a3, a4, a5, a6, a7, a8, a9, a10, a11, a12] (.int x :: st) σ Q := Ev_step rfl
theorem s_M_fever_95 : Ev sh 245 95 [a0, a1, a2, a3, a4, a5, a6, a7, a8, a9, a10, a11, a12] (.int y :: .int x :: st) σ Q = Ev sh 245 96 [a0, a1, a2, a3, a4, a5, a6, a7, a8, a9, a10, a11, a12] (.int (x <<< (y &&& 31)) :: st) σ Q := Ev_step rfl
theorem s_M_fever_96 : Ev sh 245 96 [a0, a1, a2, a3, a4, a5, a6, a7, a8, a9, a10, a11, a12] (.int y :: .int x :: st) σ Q = if y ≤ x then Ev sh 245 183 [a0, a1, a2, a3, a4, a5, a6, a7, a8, a9, a10, a11, a12] st σ Q else Ev sh 245 99 [a0, a1, a2, a3, a4, a5, a6, a7, a8, a9, a10, a11, a12] st σ Q := Ev_if rfl
theorem s_M_fever_99 : Ev sh 245 99 [some (.ref i), a1, a2, a3, a4, a5, a6, a7, a8, a9, a10, a11, a12] st σ Q = Ev sh 245 100 [some (.ref i), a1, a2, a3, a4, a5, a6, a7, a8, a9, a10, a11, a12] (.ref i :: st) σ Q := Ev_step rfl
theorem s_M_fever_100 (h : sh i0 = 9) : Ev sh 245 100 [a0, a1, a2, a3, a4, a5, a6, a7, a8, a9, a10, a11, a12] [.ref i0] σ Q = Ev sh 184 0 [some (.ref i0)] [] σ (fun r s => Ev sh 245 103 [a0, a1, a2, a3, a4, a5, a6, a7, a8, a9, a10, a11, a12] (zpush r []) s Q) := Ev_callh (zrecv_of (by decide) h) rfl
theorem s_M_fever_103 : Ev sh 245 103 [a0, a1, a2, a3, a4, a5, a6, a7, a8, a9, a10, a11, a12] st σ Q = Ev sh 245 104 [a0, a1, a2, a3, a4, a5, a6, a7, a8, a9, a10, a11, a12] (.long 1 :: st) σ Q := Ev_step rfl
theorem s_M_fever_104 : Ev sh 245 104 [a0, a1, a2, a3, a4, a5, a6, a7, a8, a9, a10, a11, a12] (.long u :: st) σ Q = Ev sh 245 106 [a0, a1, a2, a3, a4, a5, a6, a7, a8, zdrop2 a9, some (.long u), none, a12] st σ Q := Ev_step rfl
theorem s_M_fever_106 : Ev sh 245 106 [a0, a1, a2, a3, a4, a5, a6, a7, a8, a9, a10, a11, a12] st σ Q = Ev sh 245 107 [a0, a1, a2, a3, a4, a5, a6, a7, a8, a9, a10, a11, a12] (.int 0 :: st) σ Q := Ev_step rfl
theorem s_M_fever_107 : Ev sh 245 107 [a0, a1, a2, a3, a4, a5, a6, a7, a8, a9, a10, a11, a12] (.int x :: st) σ Q = Ev sh 245 109 [a0, a1, a2, a3, a4, a5, a6, a7, a8, a9, a10, zdrop2 a11, some (.int x)] st σ Q := Ev_step rfl
theorem s_M_fever_109 : Ev sh 245 109 [a0, a1, a2, a3, a4, a5, a6, a7, a8, a9, a10, a11, some (.int x)] st σ Q = Ev sh 245 111 [a0, a1, a2, a3, a4, a5, a6, a7, a8, a9, a10, a11, some (.int x)] (.int x :: st) σ Q := Ev_step rfl
theorem s_M_fever_111 : Ev sh 245 111 [a0, some (.int x), a2, a3, a4, a5, a6, a7, a8, a9, a10, a11, a12] st σ Q = Ev sh 245 112 [a0, some (.int x), a2, a3, a4, a5, a6, a7, a8, a9, a10, a11, a12] (.int x :: st) σ Q := Ev_step rfl
theorem s_M_fever_112 : Ev sh 245 112 [a0, a1, a2, a3, a4, a5, a6, a7, a8, a9, a10, a11, a12] (.int y :: .int x :: st) σ Q = if y ≤ x then Ev sh 245 155 [a0, a1, a2, a3, a4, a5, a6, a7, a8, a9, a10, a11, a12] st σ Q else Ev sh 245 115 [a0, a1, a2, a3, a4, a5, a6, a7, a8, a9, a10, a11, a12] st σ Q := Ev_if rfl
theorem s_M_fever_115 : Ev sh 245 115 [a0, a1, a2, a3, a4, a5, a6, a7, a8, a9, some (.long u), a11, a12] st σ Q = Ev sh 245 117 [a0, a1, a2, a3, a4, a5, a6, a7, a8, a9, some (.long u), a11, a12] (.long u :: st) σ Q := Ev_step rfl
theorem s_M_fever_117 : Ev sh 245 117 [a0, a1, a2, a3, a4, a5, a6, a7, a8, some (.int x), a10, a11, a12] st σ Q = Ev sh 245 119 [a0, a1, a2, a3, a4, a5, a6, a7, a8, some (.int x), a10, a11, a12] (.int x :: st) σ Q := Ev_step rfl
theorem s_M_fever_119 : Ev sh 245 119 [a0, a1, a2, a3, a4, a5, a6, a7, a8, a9, a10, a11, some (.int x)] st σ Q = Ev sh 245 121 [a0, a1, a2, a3, a4, a5, a6, a7, a8, a9, a10, a11, some (.int x)] (.int x :: st) σ Q := Ev_step rfl
theorem s_M_fever_121 : Ev sh 245 121 [a0, a1, a2, a3, a4, a5, a6, a7, a8, a9, a10, a11, a12] [.int x2, .int x1, .long u0] σ Q = Ev sh 165 0 [some (.int x1), some (.int x2)] [] σ (fun r s => Ev sh 245 124 [a0, a1, a2, a3, a4, a5, a6, a7, a8, a9, a10, a11, a12] (zpush r [.long u0]) s Q) := Ev_call rfl
theorem s_M_fever_124 : Ev sh 245 124 [a0, a1, a2, a3, a4, a5, a6, a7, a8, a9, a10, a11, a12] (.int x :: st) σ Q = if x = 0 then Ev sh 245 131 [a0, a1, a2, a3, a4, a5, a6, a7, a8, a9, a10, a11, a12] st σ Q else Ev sh 245 127 [a0, a1, a2, a3, a4, a5, a6, a7, a8, a9, a10, a11, a12] st σ Q := Ev_if rfl
theorem s_M_fever_127 : Ev sh 245 127 [a0, a1, a2, a3, a4, a5, a6, a7, a8, a9, a10, a11, a12] st σ Q = Ev sh 245 128 [a0, a1, a2, a3, a4, a5, a6, a7, a8, a9, a10, a11, a12] (.long 1 :: st) σ Q := Ev_step rfl
theorem s_M_fever_128 : Ev sh 245 128 [a0, a1, a2, a3, a4, a5, a6, a7, a8, a9, a10, a11, a12] st σ Q = Ev sh 245 135 [a0, a1, a2, a3, a4, a5, a6, a7, a8, a9, a10, a11, a12] st σ Q := Ev_step rfl
theorem s_M_fever_131 : Ev sh 245 131 [a0, a1, some (.int x), a3, a4, a5, a6, a7, a8, a9, a10, a11, a12] st σ Q = Ev sh 245 132 [a0, a1, some (.int x), a3, a4, a5, a6, a7, a8, a9, a10, a11, a12] (.int x :: st) σ Q := Ev_step rfl
theorem s_M_fever_132 : Ev sh 245 132 [a0, a1, a2, a3, a4, a5, a6, a7, a8, a9, a10, a11, a12] st σ Q = Ev sh 245 133 [a0, a1, a2, a3, a4, a5, a6, a7, a8, a9, a10, a11, a12] (.int 1 :: st) σ Q := Ev_step rfl
theorem s_M_fever_133 : Ev sh 245 133 [a0, a1, a2, a3, a4, a5, a6, a7, a8, a9, a10, a11, a12] (.int y :: .int x :: st) σ Q = Ev sh 245 134 [a0, a1, a2, a3, a4, a5, a6, a7, a8, a9, a10, a11, a12] (.int (x - y) :: st) σ Q := Ev_step rfl
theorem s_M_fever_134 : Ev sh 245 134 [a0, a1, a2, a3, a4, a5, a6, a7, a8, a9, a10, a11, a12] (.int x :: st) σ Q = Ev sh 245 135 [a0, a1, a2, a3, a4, a5, a6, a7, a8, a9, a10, a11, a12] (.long x.toInt64 :: st) σ Q := Ev_step rfl
theorem s_M_fever_135 : Ev sh 245 135 [a0, a1, a2, a3, a4, a5, a6, a7, a8, a9, a10, a11, a12] (.long v :: .long u :: st) σ Q = Ev sh 245 136 [a0, a1, a2, a3, a4, a5, a6, a7, a8, a9, a10, a11, a12] (.long (u * v) :: st) σ Q := Ev_step rfl
theorem s_M_fever_136 : Ev sh 245 136 [a0, a1, a2, a3, a4, a5, a6, a7, a8, a9, a10, a11, a12] (.long u :: st) σ Q = Ev sh 245 138 [a0, a1, a2, a3, a4, a5, a6, a7, a8, zdrop2 a9, some (.long u), none, a12] st σ Q := Ev_step rfl
theorem s_M_fever_138 : Ev sh 245 138 [some (.ref i), a1, a2, a3, a4, a5, a6, a7, a8, a9, a10, a11, a12] st σ Q = Ev sh 245 139 [some (.ref i), a1, a2, a3, a4, a5, a6, a7, a8, a9, a10, a11, a12] (.ref i :: st) σ Q := Ev_step rfl
theorem s_M_fever_139 : Ev sh 245 139 [a0, a1, a2, a3, a4, a5, a6, a7, a8, some (.int x), a10, a11, a12] st σ Q = Ev sh 245 141 [a0, a1, a2, a3, a4, a5, a6, a7, a8, some (.int x), a10, a11, a12] (.int x :: st) σ Q := Ev_step rfl
theorem s_M_fever_141 : Ev sh 245 141 [a0, a1, a2, a3, a4, a5, a6, a7, a8, a9, a10, a11, some (.int x)] st σ Q = Ev sh 245 143 [a0, a1, a2, a3, a4, a5, a6, a7, a8, a9, a10, a11, some (.int x)] (.int x :: st) σ Q := Ev_step rfl
theorem s_M_fever_143 : Ev sh 245 143 [a0, a1, a2, a3, a4, a5, a6, a7, a8, a9, a10, a11, a12] [.int x2, .int x1, .ref i0] σ Q = Ev sh 165 0 [some (.int x1), some (.int x2)] [] σ (fun r s => Ev sh 245 146 [a0, a1, a2, a3, a4, a5, a6, a7, a8, a9, a10, a11, a12] (zpush r [.ref i0]) s Q) := Ev_call rfl
theorem s_M_fever_146 (h : sh i0 = 9) : Ev sh 245 146 [a0, a1, a2, a3, a4, a5, a6, a7, a8, a9, a10, a11, a12] [.int x1, .ref i0] σ Q = Ev sh 202 0 [some (.ref i0), some (.int x1)] [] σ (fun r s => Ev sh 245 149 [a0, a1, a2, a3, a4, a5, a6, a7, a8, a9, a10, a11, a12] (zpush r []) s Q) := Ev_callh (zrecv_of (by decide) h) rfl
theorem s_M_fever_149 : Ev sh 245 149 [a0, a1, a2, a3, a4, a5, a6, a7, a8, a9, a10, a11, some (.int x)] st σ Q = Ev sh 245 152 [a0, a1, a2, a3, a4, a5, a6, a7, a8, a9, a10, a11, some (.int (x + 1))] st σ Q := Ev_step rfl
theorem s_M_fever_152 : Ev sh 245 152 [a0, a1, a2, a3, a4, a5, a6, a7, a8, a9, a10, a11, a12] st σ Q = Ev sh 245 109 [a0, a1, a2, a3, a4, a5, a6, a7, a8, a9, a10, a11, a12] st σ Q := Ev_step rfl
theorem s_M_fever_155 : Ev sh 245 155 [a0, a1, a2, a3, a4, some (.long u), a6, a7, a8, a9, a10, a11, a12] st σ Q = Ev sh 245 157 [a0, a1, a2, a3, a4, some (.long u), a6, a7, a8, a9, a10, a11, a12] (.long u :: st) σ Q := Ev_step rfl
theorem s_M_fever_157 : Ev sh 245 157 [some (.ref i), a1, a2, a3, a4, a5, a6, a7, a8, a9, a10, a11, a12] st σ Q = Ev sh 245 158 [some (.ref i), a1, a2, a3, a4, a5, a6, a7, a8, a9, a10, a11, a12] (.ref i :: st) σ Q := Ev_step rfl
theorem s_M_fever_158 (h : sh i1 = 9) : Ev sh 245 158 [a0, a1, a2, a3, a4, a5, a6, a7, a8, a9, a10, a11, a12] [.ref i1, .long u0] σ Q = Ev sh 198 0 [some (.ref i1)] [] σ (fun r s => Ev sh 245 161 [a0, a1, a2, a3, a4, a5, a6, a7, a8, a9, a10, a11, a12] (zpush r [.long u0]) s Q) := Ev_callh (zrecv_of (by decide) h) rfl
theorem s_M_fever_161 : Ev sh 245 161 [a0, a1, a2, a3, a4, a5, a6, a7, a8, a9, a10, a11, a12] (.int x :: st) σ Q = if x = 0 then Ev sh 245 169 [a0, a1, a2, a3, a4, a5, a6, a7, a8, a9, a10, a11, a12] st σ Q else Ev sh 245 164 [a0, a1, a2, a3, a4, a5, a6, a7, a8, a9, a10, a11, a12] st σ Q := Ev_if rfl
theorem s_M_fever_164 : Ev sh 245 164 [a0, a1, a2, a3, a4, a5, a6, a7, a8, a9, some (.long u), a11, a12] st σ Q = Ev sh 245 166 [a0, a1, a2, a3, a4, a5, a6, a7, a8, a9, some (.long u), a11, a12] (.long u :: st) σ Q := Ev_step rfl
theorem s_M_fever_166 : Ev sh 245 166 [a0, a1, a2, a3, a4, a5, a6, a7, a8, a9, a10, a11, a12] st σ Q = Ev sh 245 170 [a0, a1, a2, a3, a4, a5, a6, a7, a8, a9, a10, a11, a12] st σ Q := Ev_step rfl
theorem s_M_fever_169 : Ev sh 245 169 [a0, a1, a2, a3, a4, a5, a6, a7, a8, a9, a10, a11, a12] st σ Q = Ev sh 245 170 [a0, a1, a2, a3, a4, a5, a6, a7, a8, a9, a10, a11, a12] (.long 0 :: st) σ Q := Ev_step rfl
theorem s_M_fever_170 : Ev sh 245 170 [a0, a1, a2, a3, a4, a5, a6, a7, a8, a9, a10, a11, a12] (.long v :: .long u :: st) σ Q = Ev sh 245 171 [a0, a1, a2, a3, a4, a5, a6, a7, a8, a9, a10, a11, a12] (.long (u + v) :: st) σ Q := Ev_step rfl
theorem s_M_fever_171 : Ev sh 245 171 [a0, a1, a2, a3, a4, a5, a6, a7, a8, a9, a10, a11, a12] (.long u :: st) σ Q = Ev sh 245 173 [a0, a1, a2, a3, zdrop2 a4, some (.long u), none, a7, a8, a9, a10, a11, a12] st σ Q := Ev_step rfl
theorem s_M_fever_173 : Ev sh 245 173 [some (.ref i), a1, a2, a3, a4, a5, a6, a7, a8, a9, a10, a11, a12] st σ Q = Ev sh 245 174 [some (.ref i), a1, a2, a3, a4, a5, a6, a7, a8, a9, a10, a11, a12] (.ref i :: st) σ Q := Ev_step rfl
theorem s_M_fever_174 (h : sh i0 = 9) : Ev sh 245 174 [a0, a1, a2, a3, a4, a5, a6, a7, a8, a9, a10, a11, a12] [.ref i0] σ Q = Ev sh 185 0 [some (.ref i0)] [] σ (fun r s => Ev sh 245 177 [a0, a1, a2, a3, a4, a5, a6, a7, a8, a9, a10, a11, a12] (zpush r []) s Q) := Ev_callh (zrecv_of (by decide) h) rfl
theorem s_M_fever_177 : Ev sh 245 177 [a0, a1, a2, a3, a4, a5, a6, a7, a8, some (.int x), a10, a11, a12] st σ Q = Ev sh 245 180 [a0, a1, a2, a3, a4, a5, a6, a7, a8, some (.int (x + 1)), a10, a11, a12] st σ Q := Ev_step rfl
theorem s_M_fever_180 : Ev sh 245 180 [a0, a1, a2, a3, a4, a5, a6, a7, a8, a9, a10, a11, a12] st σ Q = Ev sh 245 91 [a0, a1, a2, a3, a4, a5, a6, a7, a8, a9, a10, a11, a12] st σ Q := Ev_step rfl
theorem s_M_fever_183 : Ev sh 245 183 [a0, a1, a2, a3, a4, some (.long u), a6, a7, a8, a9, a10, a11, a12] st σ Q = Ev sh 245 185 [a0, a1, a2, a3, a4, some (.long u), a6, a7, a8, a9, a10, a11, a12] (.long u :: st) σ Q := Ev_step rfl
theorem s_M_fever_185 : Ev sh 245 185 [a0, a1, a2, a3, a4, a5, a6, some (.long u), a8, a9, a10, a11, a12] st σ Q = Ev sh 245 187 [a0, a1, a2, a3, a4, a5, a6, some (.long u), a8, a9, a10, a11, a12] (.long u :: st) σ Q := Ev_step rfl
theorem s_M_fever_187 : Ev sh 245 187 [a0, a1, a2, some (.int x), a4, a5, a6, a7, a8, a9, a10, a11, a12] st σ Q = Ev sh 245 188 [a0, a1, a2, some (.int x), a4, a5, a6, a7, a8, a9, a10, a11, a12] (.int x :: st) σ Q := Ev_step rfl
theorem s_M_fever_188 : Ev sh 245 188 [a0, a1, a2, a3, a4, a5, a6, a7, a8, a9, a10, a11, a12] [.int x2, .long u1, .long u0] σ Q = Ev sh 244 0 [some (.long u0), none, some (.long u1), none, some (.int x2)] [] σ (fun r s => Ev sh 245 191 [a0, a1, a2, a3, a4, a5, a6, a7, a8, a9, a10, a11, a12] (zpush r []) s Q) := Ev_call rfl
theorem s_M_fever_191 : Ev sh 245 191 [a0, a1, a2, a3, a4, a5, a6, a7, a8, a9, a10, a11, a12] [.long u] σ Q = Q (some (.long u)) σ := Ev_ret rfl
theorem s_M_allFigures_0 : Ev sh 246 0 [a0, a1, a2] st σ Q = Ev sh 246 1 [a0, a1, a2] (.int 0 :: st) σ Q := Ev_step rfl
theorem s_M_allFigures_1 : Ev sh 246 1 [a0, a1, a2] (.int x :: st) σ Q = Ev sh 246 2 [zdrop2 a0, some (.int x), a2] st σ Q := Ev_step rfl
theorem s_M_allFigures_2 : Ev sh 246 2 [a0, a1, a2] st σ Q = Ev sh 246 3 [a0, a1, a2] (.int 0 :: st) σ Q := Ev_step rfl
theorem s_M_allFigures_3 : Ev sh 246 3 [a0, a1, a2] (.int x :: st) σ Q = Ev sh 246 4 [a0, zdrop2 a1, some (.int x)] st σ Q := Ev_step rfl
theorem s_M_allFigures_4 : Ev sh 246 4 [a0, a1, some (.int x)] st σ Q = Ev sh 246 5 [a0, a1, some (.int x)] (.int x :: st) σ Q := Ev_step rfl
theorem s_M_allFigures_5 : Ev sh 246 5 [some (.ref i), a1, a2] st σ Q = Ev sh 246 6 [some (.ref i), a1, a2] (.ref i :: st) σ Q := Ev_step rfl
theorem s_M_allFigures_6 (h : sh i = 9) : Ev sh 246 6 [a0, a1, a2] (.ref i :: st) σ Q = Ev sh 246 9 [a0, a1, a2] (.int (σ i 7) :: st) σ Q := Ev_h h rfl
theorem s_M_allFigures_9 : Ev sh 246 9 [a0, a1, a2] (.int y :: .int x :: st) σ Q = if y ≤ x then Ev sh 246 27 [a0, a1, a2] st σ Q else Ev sh 246 12 [a0, a1, a2] st σ Q := Ev_if rfl
theorem s_M_allFigures_12 : Ev sh 246 12 [a0, some (.int x), a2] st σ Q = Ev sh 246 13 [a0, some (.int x), a2] (.int x :: st) σ Q := Ev_step rfl
theorem s_M_allFigures_13 : Ev sh 246 13 [some (.ref i), a1, a2] st σ Q = Ev sh 246 14 [some (.ref i), a1, a2] (.ref i :: st) σ Q := Ev_step rfl
theorem s_M_allFigures_14 (h : sh i = 9) : Ev sh 246 14 [a0, a1, a2] (.ref i :: st) σ Q = Ev sh 246 17 [a0, a1, a2] (.ref 3 :: st) σ Q := Ev_h h rfl
theorem s_M_allFigures_17 : Ev sh 246 17 [a0, a1, some (.int x)] st σ Q = Ev sh 246 18 [a0, a1, some (.int x)] (.int x :: st) σ Q := Ev_step rfl
theorem s_M_allFigures_18 (h : zin x (sh i) = true) : Ev sh 246 18 [a0, a1, a2] (.int x :: .ref i :: st) σ Q = Ev sh 246 19 [a0, a1, a2] (.int (σ i x.toNatClampNeg) :: st) σ Q := Ev_h h rfl
theorem s_M_allFigures_19 : Ev sh 246 19 [a0, a1, a2] (.int y :: .int x :: st) σ Q = Ev sh 246 20 [a0, a1, a2] (.int (x + y) :: st) σ Q := Ev_step rfl
theorem s_M_allFigures_20 : Ev sh 246 20 [a0, a1, a2] (.int x :: st) σ Q = Ev sh 246 21 [zdrop2 a0, some (.int x), a2] st σ Q := Ev_step rfl
theorem s_M_allFigures_21 : Ev sh 246 21 [a0, a1, some (.int x)] st σ Q = Ev sh 246 24 [a0, a1, some (.int (x + 1))] st σ Q := Ev_step rfl
theorem s_M_allFigures_24 : Ev sh 246 24 [a0, a1, a2] st σ Q = Ev sh 246 4 [a0, a1, a2] st σ Q := Ev_step rfl
theorem s_M_allFigures_27 : Ev sh 246 27 [a0, some (.int x), a2] st σ Q = Ev sh 246 28 [a0, some (.int x), a2] (.int x :: st) σ Q := Ev_step rfl
theorem s_M_allFigures_28 : Ev sh 246 28 [a0, a1, a2] [.int x] σ Q = Q (some (.int x)) σ := Ev_ret rfl
theorem s_M_mean_0 : Ev sh 247 0 [a0, some (.int x)] st σ Q = Ev sh 247 1 [a0, some (.int x)] (.int x :: st) σ Q := Ev_step rfl
theorem s_M_mean_1 : Ev sh 247 1 [a0, a1] st σ Q = Ev sh 247 2 [a0, a1] (.int 0 :: st) σ Q := Ev_step rfl
theorem s_M_mean_2 : Ev sh 247 2 [a0, a1] st σ Q = Ev sh 247 3 [a0, a1] (.int 1 :: st) σ Q := Ev_step rfl
theorem s_M_mean_3 : Ev sh 247 3 [a0, a1] [.int x2, .int x1, .int x0] σ Q = Ev sh 163 0 [some (.int x0), some (.int x1), some (.int x2)] [] σ (fun r s => Ev sh 247 6 [a0, a1] (zpush r []) s Q) := Ev_call rfl
theorem s_M_mean_6 : Ev sh 247 6 [a0, a1] (.int x :: st) σ Q = if x ≠ 0 then Ev sh 247 16 [a0, a1] st σ Q else Ev sh 247 9 [a0, a1] st σ Q := Ev_if rfl
theorem s_M_mean_9 : Ev sh 247 9 [some (.ref i), a1] st σ Q = Ev sh 247 10 [some (.ref i), a1] (.ref i :: st) σ Q := Ev_step rfl
theorem s_M_mean_10 : Ev sh 247 10 [a0, a1] st σ Q = Ev sh 247 12 [a0, a1] (.int (-2) :: st) σ Q := Ev_step rfl
theorem s_M_mean_12 (h : sh i0 = 9) : Ev sh 247 12 [a0, a1] [.int x1, .ref i0] σ Q = Ev sh 162 0 [some (.ref i0), some (.int x1)] [] σ (fun r s => Ev sh 247 15 [a0, a1] (zpush r []) s Q) := Ev_callh (zrecv_of (by decide) h) rfl
theorem s_M_mean_15 : Ev sh 247 15 [a0, a1] [.long u] σ Q = Q (some (.long u)) σ := Ev_ret rfl
theorem s_M_mean_16 : Ev sh 247 16 [some (.ref i), a1] st σ Q = Ev sh 247 17 [some (.ref i), a1] (.ref i :: st) σ Q := Ev_step rfl
theorem s_M_mean_17 (h : sh i = 9) : Ev sh 247 17 [a0, a1] (.ref i :: st) σ Q = Ev sh 247 20 [a0, a1] (.int (σ i 7) :: st) σ Q := Ev_h h rfl
theorem s_M_mean_20 : Ev sh 247 20 [a0, a1] (.int x :: st) σ Q = if x ≠ 0 then Ev sh 247 28 [a0, a1] st σ Q else Ev sh 247 23 [a0, a1] st σ Q := Ev_if rfl
theorem s_M_mean_23 : Ev sh 247 23 [a0, some (.int x)] st σ Q = Ev sh 247 24 [a0, some (.int x)] (.int x :: st) σ Q := Ev_step rfl
theorem s_M_mean_24 : Ev sh 247 24 [a0, a1] (.int x :: st) σ Q = Ev sh 247 25 [a0, a1] (.long x.toInt64 :: st) σ Q := Ev_step rfl
theorem s_M_mean_25 : Ev sh 247 25 [a0, a1] st σ Q = Ev sh 247 42 [a0, a1] st σ Q := Ev_step rfl
theorem s_M_mean_28 : Ev sh 247 28 [some (.ref i), a1] st σ Q = Ev sh 247 29 [some (.ref i), a1] (.ref i :: st) σ Q := Ev_step rfl
theorem s_M_mean_29 (h : sh i0 = 9) : Ev sh 247 29 [a0, a1] [.ref i0] σ Q = Ev sh 246 0 [some (.ref i0), none, none] [] σ (fun r s => Ev sh 247 32 [a0, a1] (zpush r []) s Q) := Ev_callh (zrecv_of (by decide) h) rfl
theorem s_M_mean_32 : Ev sh 247 32 [a0, a1] (.int x :: st) σ Q = Ev sh 247 33 [a0, a1] (.long x.toInt64 :: st) σ Q := Ev_step rfl
theorem s_M_mean_33 : Ev sh 247 33 [some (.ref i), a1] st σ Q = Ev sh 247 34 [some (.ref i), a1] (.ref i :: st) σ Q := Ev_step rfl
theorem s_M_mean_34 (h : sh i = 9) : Ev sh 247 34 [a0, a1] (.ref i :: st) σ Q = Ev sh 247 37 [a0, a1] (.int (σ i 7) :: st) σ Q := Ev_h h rfl
theorem s_M_mean_37 : Ev sh 247 37 [a0, a1] (.int x :: st) σ Q = Ev sh 247 38 [a0, a1] (.long x.toInt64 :: st) σ Q := Ev_step rfl
theorem s_M_mean_38 : Ev sh 247 38 [a0, some (.int x)] st σ Q = Ev sh 247 39 [a0, some (.int x)] (.int x :: st) σ Q := Ev_step rfl
theorem s_M_mean_39 : Ev sh 247 39 [a0, a1] [.int x2, .long u1, .long u0] σ Q = Ev sh 244 0 [some (.long u0), none, some (.long u1), none, some (.int x2)] [] σ (fun r s => Ev sh 247 42 [a0, a1] (zpush r []) s Q) := Ev_call rfl
theorem s_M_mean_42 : Ev sh 247 42 [a0, a1] [.long u] σ Q = Q (some (.long u)) σ := Ev_ret rfl
theorem s_M_isSo_0 : Ev sh 248 0 [a0, a1] st σ Q = Ev sh 248 1 [a0, a1] (.int 0 :: st) σ Q := Ev_step rfl
theorem s_M_isSo_1 : Ev sh 248 1 [a0, a1] (.int x :: st) σ Q = Ev sh 248 2 [zdrop2 a0, some (.int x)] st σ Q := Ev_step rfl
theorem s_M_isSo_2 : Ev sh 248 2 [a0, some (.int x)] st σ Q = Ev sh 248 3 [a0, some (.int x)] (.int x :: st) σ Q := Ev_step rfl
theorem s_M_isSo_3 : Ev sh 248 3 [some (.ref i), a1] st σ Q = Ev sh 248 4 [some (.ref i), a1] (.ref i :: st) σ Q := Ev_step rfl
theorem s_M_isSo_4 (h : sh i = 9) : Ev sh 248 4 [a0, a1] (.ref i :: st) σ Q = Ev sh 248 7 [a0, a1] (.int (σ i 25) :: st) σ Q := Ev_h h rfl
theorem s_M_isSo_7 : Ev sh 248 7 [a0, a1] (.int y :: .int x :: st) σ Q = if y ≤ x then Ev sh 248 42 [a0, a1] st σ Q else Ev sh 248 10 [a0, a1] st σ Q := Ev_if rfl
theorem s_M_isSo_10 : Ev sh 248 10 [a0, some (.int x)] st σ Q = Ev sh 248 11 [a0, some (.int x)] (.int x :: st) σ Q := Ev_step rfl
theorem s_M_isSo_11 : Ev sh 248 11 [some (.ref i), a1] st σ Q = Ev sh 248 12 [some (.ref i), a1] (.ref i :: st) σ Q := Ev_step rfl
theorem s_M_isSo_12 (h : sh i = 9) : Ev sh 248 12 [a0, a1] (.ref i :: st) σ Q = Ev sh 248 15 [a0, a1] (.int (σ i 7) :: st) σ Q := Ev_h h rfl
theorem s_M_isSo_15 : Ev sh 248 15 [a0, a1] st σ Q = Ev sh 248 16 [a0, a1] (.int 1 :: st) σ Q := Ev_step rfl
theorem s_M_isSo_16 : Ev sh 248 16 [a0, a1] (.int y :: .int x :: st) σ Q = Ev sh 248 17 [a0, a1] (.int (x - y) :: st) σ Q := Ev_step rfl
theorem s_M_isSo_17 : Ev sh 248 17 [a0, a1] (.int y :: .int x :: st) σ Q = if y ≤ x then Ev sh 248 34 [a0, a1] st σ Q else Ev sh 248 20 [a0, a1] st σ Q := Ev_if rfl
theorem s_M_isSo_20 : Ev sh 248 20 [some (.ref i), a1] st σ Q = Ev sh 248 21 [some (.ref i), a1] (.ref i :: st) σ Q := Ev_step rfl
theorem s_M_isSo_21 : Ev sh 248 21 [a0, some (.int x)] st σ Q = Ev sh 248 22 [a0, some (.int x)] (.int x :: st) σ Q := Ev_step rfl
theorem s_M_isSo_22 (h : sh i0 = 9) : Ev sh 248 22 [a0, a1] [.int x1, .ref i0] σ Q = Ev sh 193 0 [some (.ref i0), some (.int x1), none] [] σ (fun r s => Ev sh 248 25 [a0, a1] (zpush r []) s Q) := Ev_callh (zrecv_of (by decide) h) rfl
theorem s_M_isSo_25 : Ev sh 248 25 [some (.ref i), a1] st σ Q = Ev sh 248 26 [some (.ref i), a1] (.ref i :: st) σ Q := Ev_step rfl
theorem s_M_isSo_26 (h : sh i = 9) : Ev sh 248 26 [a0, a1] (.ref i :: st) σ Q = Ev sh 248 29 [a0, a1] (.ref 14 :: st) σ Q := Ev_h h rfl
theorem s_M_isSo_29 : Ev sh 248 29 [a0, some (.int x)] st σ Q = Ev sh 248 30 [a0, some (.int x)] (.int x :: st) σ Q := Ev_step rfl
theorem s_M_isSo_30 (h : zin x (sh i) = true) : Ev sh 248 30 [a0, a1] (.int x :: .ref i :: st) σ Q = Ev sh 248 31 [a0, a1] (.int (σ i x.toNatClampNeg) :: st) σ Q := Ev_h h rfl
theorem s_M_isSo_31 : Ev sh 248 31 [a0, a1] (.int y :: .int x :: st) σ Q = if x = y then Ev sh 248 36 [a0, a1] st σ Q else Ev sh 248 34 [a0, a1] st σ Q := Ev_if rfl
theorem s_M_isSo_34 : Ev sh 248 34 [a0, a1] st σ Q = Ev sh 248 35 [a0, a1] (.int 0 :: st) σ Q := Ev_step rfl
theorem s_M_isSo_35 (h : x = 0 ∨ x = 1) : Ev sh 248 35 [a0, a1] [.int x] σ Q = Q (some (.int x)) σ := Ev_rh h rfl
theorem s_M_isSo_36 : Ev sh 248 36 [a0, some (.int x)] st σ Q = Ev sh 248 39 [a0, some (.int (x + 1))] st σ Q := Ev_step rfl
theorem s_M_isSo_39 : Ev sh 248 39 [a0, a1] st σ Q = Ev sh 248 2 [a0, a1] st σ Q := Ev_step rfl
theorem s_M_isSo_42 : Ev sh 248 42 [a0, a1] st σ Q = Ev sh 248 43 [a0, a1] (.int 1 :: st) σ Q := Ev_step rfl
theorem s_M_isSo_43 (h : x = 0 ∨ x = 1) : Ev sh 248 43 [a0, a1] [.int x] σ Q = Q (some (.int x)) σ := Ev_rh h rfl
theorem s_M_bitsFor_0 : Ev sh 249 0 [a0, some (.ref i), a2, a3, a4, a5, a6] st σ Q = Ev sh 249 1 [a0, some (.ref i), a2, a3, a4, a5, a6] (.ref i :: st) σ Q := Ev_step rfl
theorem s_M_bitsFor_1 : Ev sh 249 1 [a0, a1, some (.int x), a3, a4, a5, a6] st σ Q = Ev sh 249 2 [a0, a1, some (.int x), a3, a4, a5, a6] (.int x :: st) σ Q := Ev_step rfl
theorem s_M_bitsFor_2 (h : zin x (sh i) = true) : Ev sh 249 2 [a0, a1, a2, a3, a4, a5, a6] (.int x :: .ref i :: st) σ Q = Ev sh 249 3 [a0, a1, a2, a3, a4, a5, a6] (.int (σ i x.toNatClampNeg) :: st) σ Q := Ev_h h rfl
theorem s_M_bitsFor_3 : Ev sh 249 3 [a0, a1, a2, a3, a4, a5, a6] (.int x :: st) σ Q = Ev sh 249 5 [a0, a1, a2, zdrop2 a3, some (.int x), a5, a6] st σ Q := Ev_step rfl
theorem s_M_bitsFor_5 : Ev sh 249 5 [a0, a1, a2, a3, a4, a5, a6] st σ Q = Ev sh 249 6 [a0, a1, a2, a3, a4, a5, a6] (.int 0 :: st) σ Q := Ev_step rfl
theorem s_M_bitsFor_6 : Ev sh 249 6 [a0, a1, a2, a3, a4, a5, a6] (.int x :: st) σ Q = Ev sh 249 8 [a0, a1, a2, a3, zdrop2 a4, some (.int x), a6] st σ Q := Ev_step rfl
theorem s_M_bitsFor_8 : Ev sh 249 8 [a0, a1, a2, a3, a4, a5, a6] st σ Q = Ev sh 249 9 [a0, a1, a2, a3, a4, a5, a6] (.int 0 :: st) σ Q := Ev_step rfl
theorem s_M_bitsFor_9 : Ev sh 249 9 [a0, a1, a2, a3, a4, a5, a6] (.int x :: st) σ Q = Ev sh 249 11 [a0, a1, a2, a3, a4, zdrop2 a5, some (.int x)] st σ Q := Ev_step rfl
theorem s_M_bitsFor_11 : Ev sh 249 11 [a0, a1, a2, a3, a4, a5, some (.int x)] st σ Q = Ev sh 249 13 [a0, a1, a2, a3, a4, a5, some (.int x)] (.int x :: st) σ Q := Ev_step rfl
theorem s_M_bitsFor_13 : Ev sh 249 13 [a0, a1, a2, some (.int x), a4, a5, a6] st σ Q = Ev sh 249 14 [a0, a1, a2, some (.int x), a4, a5, a6] (.int x :: st) σ Q := Ev_step rfl
theorem s_M_bitsFor_14 : Ev sh 249 14 [a0, a1, a2, a3, a4, a5, a6] (.int y :: .int x :: st) σ Q = if y ≤ x then Ev sh 249 48 [a0, a1, a2, a3, a4, a5, a6] st σ Q else Ev sh 249 17 [a0, a1, a2, a3, a4, a5, a6] st σ Q := Ev_if rfl
theorem s_M_bitsFor_17 : Ev sh 249 17 [a0, some (.ref i), a2, a3, a4, a5, a6] st σ Q = Ev sh 249 18 [a0, some (.ref i), a2, a3, a4, a5, a6] (.ref i :: st) σ Q := Ev_step rfl
theorem s_M_bitsFor_18 : Ev sh 249 18 [a0, a1, some (.int x), a3, a4, a5, a6] st σ Q = Ev sh 249 19 [a0, a1, some (.int x), a3, a4, a5, a6] (.int x :: st) σ Q := Ev_step rfl
theorem s_M_bitsFor_19 : Ev sh 249 19 [a0, a1, a2, a3, a4, a5, some (.int x)] st σ Q = Ev sh 249 21 [a0, a1, a2, a3, a4, a5, some (.int x)] (.int x :: st) σ Q := Ev_step rfl
theorem s_M_bitsFor_21 (h : zin x (sh i) = true) : Ev sh 249 21 [a0, a1, a2, a3, a4, a5, a6] (.int y :: .int x :: .ref i :: st) σ Q = Ev sh 249 22 [a0, a1, a2, a3, a4, a5, a6] st (zup σ i x.toNatClampNeg y) Q := Ev_h h rfl
theorem s_M_bitsFor_22 : Ev sh 249 22 [a0, a1, a2, a3, a4, some (.int x), a6] st σ Q = Ev sh 249 24 [a0, a1, a2, a3, a4, some (.int x), a6] (.int x :: st) σ Q := Ev_step rfl
theorem s_M_bitsFor_24 : Ev sh 249 24 [some (.ref i), a1, a2, a3, a4, a5, a6] st σ Q = Ev sh 249 25 [some (.ref i), a1, a2, a3, a4, a5, a6] (.ref i :: st) σ Q := Ev_step rfl
theorem s_M_bitsFor_25 (h : sh i1 = 9) : Ev sh 249 25 [a0, a1, a2, a3, a4, a5, a6] [.ref i1, .int x0] σ Q = Ev sh 248 0 [some (.ref i1), none] [] σ (fun r s => Ev sh 249 28 [a0, a1, a2, a3, a4, a5, a6] (zpush r [.int x0]) s Q) := Ev_callh (zrecv_of (by decide) h) rfl
theorem s_M_bitsFor_28 : Ev sh 249 28 [a0, a1, a2, a3, a4, a5, a6] (.int x :: st) σ Q = if x = 0 then Ev sh 249 38 [a0, a1, a2, a3, a4, a5, a6] st σ Q else Ev sh 249 31 [a0, a1, a2, a3, a4, a5, a6] st σ Q := Ev_if rfl
theorem s_M_bitsFor_31 : Ev sh 249 31 [a0, a1, a2, a3, a4, a5, a6] st σ Q = Ev sh 249 32 [a0, a1, a2, a3, a4, a5, a6] (.int 1 :: st) σ Q := Ev_step rfl
theorem s_M_bitsFor_32 : Ev sh 249 32 [a0, a1, a2, a3, a4, a5, some (.int x)] st σ Q = Ev sh 249 34 [a0, a1, a2, a3, a4, a5, some (.int x)] (.int x :: st) σ Q := Ev_step rfl
theorem s_M_bitsFor_34 : Ev sh 249 34 [a0, a1, a2, a3, a4, a5, a6] (.int y :: .int x :: st) σ Q = Ev sh 249 35 [a0, a1, a2, a3, a4, a5, a6] (.int (x <<< (y &&& 31)) :: st) σ Q := Ev_step rfl
theorem s_M_bitsFor_35 : Ev sh 249 35 [a0, a1, a2, a3, a4, a5, a6] st σ Q = Ev sh 249 39 [a0, a1, a2, a3, a4, a5, a6] st σ Q := Ev_step rfl
theorem s_M_bitsFor_38 : Ev sh 249 38 [a0, a1, a2, a3, a4, a5, a6] st σ Q = Ev sh 249 39 [a0, a1, a2, a3, a4, a5, a6] (.int 0 :: st) σ Q := Ev_step rfl
theorem s_M_bitsFor_39 : Ev sh 249 39 [a0, a1, a2, a3, a4, a5, a6] (.int y :: .int x :: st) σ Q = Ev sh 249 40 [a0, a1, a2, a3, a4, a5, a6] (.int (x ||| y) :: st) σ Q := Ev_step rfl
theorem s_M_bitsFor_40 : Ev sh 249 40 [a0, a1, a2, a3, a4, a5, a6] (.int x :: st) σ Q = Ev sh 249 42 [a0, a1, a2, a3, zdrop2 a4, some (.int x), a6] st σ Q := Ev_step rfl
theorem s_M_bitsFor_42 : Ev sh 249 42 [a0, a1, a2, a3, a4, a5, some (.int x)] st σ Q = Ev sh 249 45 [a0, a1, a2, a3, a4, a5, some (.int (x + 1))] st σ Q := Ev_step rfl
theorem s_M_bitsFor_45 : Ev sh 249 45 [a0, a1, a2, a3, a4, a5, a6] st σ Q = Ev sh 249 11 [a0, a1, a2, a3, a4, a5, a6] st σ Q := Ev_step rfl
theorem s_M_bitsFor_48 : Ev sh 249 48 [a0, some (.ref i), a2, a3, a4, a5, a6] st σ Q = Ev sh 249 49 [a0, some (.ref i), a2, a3, a4, a5, a6] (.ref i :: st) σ Q := Ev_step rfl
theorem s_M_bitsFor_49 : Ev sh 249 49 [a0, a1, some (.int x), a3, a4, a5, a6] st σ Q = Ev sh 249 50 [a0, a1, some (.int x), a3, a4, a5, a6] (.int x :: st) σ Q := Ev_step rfl
theorem s_M_bitsFor_50 : Ev sh 249 50 [a0, a1, a2, a3, some (.int x), a5, a6] st σ Q = Ev sh 249 52 [a0, a1, a2, a3, some (.int x), a5, a6] (.int x :: st) σ Q := Ev_step rfl
theorem s_M_bitsFor_52 (h : zin x (sh i) = true) : Ev sh 249 52 [a0, a1, a2, a3, a4, a5, a6] (.int y :: .int x :: .ref i :: st) σ Q = Ev sh 249 53 [a0, a1, a2, a3, a4, a5, a6] st (zup σ i x.toNatClampNeg y) Q := Ev_h h rfl
theorem s_M_bitsFor_53 : Ev sh 249 53 [a0, a1, a2, a3, a4, some (.int x), a6] st σ Q = Ev sh 249 55 [a0, a1, a2, a3, a4, some (.int x), a6] (.int x :: st) σ Q := Ev_step rfl
theorem s_M_bitsFor_55 : Ev sh 249 55 [a0, a1, a2, a3, a4, a5, a6] [.int x] σ Q = Q (some (.int x)) σ := Ev_ret rfl
theorem s_M_whoLaid_0 : Ev sh 250 0 [some (.ref i), a1] st σ Q = Ev sh 250 1 [some (.ref i), a1] (.ref i :: st) σ Q := Ev_step rfl
theorem s_M_whoLaid_1 : Ev sh 250 1 [a0, some (.int x)] st σ Q = Ev sh 250 2 [a0, some (.int x)] (.int x :: st) σ Q := Ev_step rfl
theorem s_M_whoLaid_2 (h : sh i0 = 9) : Ev sh 250 2 [a0, a1] [.int x1, .ref i0] σ Q = Ev sh 168 0 [some (.ref i0), some (.int x1)] [] σ (fun r s => Ev sh 250 5 [a0, a1] (zpush r []) s Q) := Ev_callh (zrecv_of (by decide) h) rfl
theorem s_M_whoLaid_5 : Ev sh 250 5 [a0, a1] (.int x :: st) σ Q = if x = 0 then Ev sh 250 21 [a0, a1] st σ Q else Ev sh 250 8 [a0, a1] st σ Q := Ev_if rfl
theorem s_M_whoLaid_8 : Ev sh 250 8 [some (.ref i), a1] st σ Q = Ev sh 250 9 [some (.ref i), a1] (.ref i :: st) σ Q := Ev_step rfl
theorem s_M_whoLaid_9 : Ev sh 250 9 [some (.ref i), a1] st σ Q = Ev sh 250 10 [some (.ref i), a1] (.ref i :: st) σ Q := Ev_step rfl
theorem s_M_whoLaid_10 (h : sh i = 9) : Ev sh 250 10 [a0, a1] (.ref i :: st) σ Q = Ev sh 250 13 [a0, a1] (.ref 4 :: st) σ Q := Ev_h h rfl
theorem s_M_whoLaid_13 : Ev sh 250 13 [a0, some (.int x)] st σ Q = Ev sh 250 14 [a0, some (.int x)] (.int x :: st) σ Q := Ev_step rfl
theorem s_M_whoLaid_14 : Ev sh 250 14 [a0, a1] st σ Q = Ev sh 250 15 [a0, a1] (.int 2 :: st) σ Q := Ev_step rfl
theorem s_M_whoLaid_15 (h : sh i0 = 9) : Ev sh 250 15 [a0, a1] [.int x3, .int x2, .ref i1, .ref i0] σ Q = Ev sh 249 0 [some (.ref i0), some (.ref i1), some (.int x2), some (.int x3), none, none, none] [] σ (fun r s => Ev sh 250 18 [a0, a1] (zpush r []) s Q) := Ev_callh (zrecv_of (by decide) h) rfl
theorem s_M_whoLaid_18 : Ev sh 250 18 [a0, a1] st σ Q = Ev sh 250 26 [a0, a1] st σ Q := Ev_step rfl
theorem s_M_whoLaid_21 : Ev sh 250 21 [some (.ref i), a1] st σ Q = Ev sh 250 22 [some (.ref i), a1] (.ref i :: st) σ Q := Ev_step rfl
theorem s_M_whoLaid_22 : Ev sh 250 22 [a0, a1] st σ Q = Ev sh 250 23 [a0, a1] (.int (-1) :: st) σ Q := Ev_step rfl
theorem s_M_whoLaid_23 (h : sh i0 = 9) : Ev sh 250 23 [a0, a1] [.int x1, .ref i0] σ Q = Ev sh 160 0 [some (.ref i0), some (.int x1)] [] σ (fun r s => Ev sh 250 26 [a0, a1] (zpush r []) s Q) := Ev_callh (zrecv_of (by decide) h) rfl
theorem s_M_whoLaid_26 : Ev sh 250 26 [a0, a1] [.int x] σ Q = Q (some (.int x)) σ := Ev_ret rfl
theorem s_M_whatIs_0 : Ev sh 251 0 [some (.ref i), a1, a2, a3] st σ Q = Ev sh 251 1 [some (.ref i), a1, a2, a3] (.ref i :: st) σ Q := Ev_step rfl
theorem s_M_whatIs_1 : Ev sh 251 1 [a0, some (.int x), a2, a3] st σ Q = Ev sh 251 2 [a0, some (.int x), a2, a3] (.int x :: st) σ Q := Ev_step rfl
theorem s_M_whatIs_2 (h : sh i0 = 9) : Ev sh 251 2 [a0, a1, a2, a3] [.int x1, .ref i0] σ Q = Ev sh 168 0 [some (.ref i0), some (.int x1)] [] σ (fun r s => Ev sh 251 5 [a0, a1, a2, a3] (zpush r []) s Q) := Ev_callh (zrecv_of (by decide) h) rfl
theorem s_M_whatIs_5 : Ev sh 251 5 [a0, a1, a2, a3] (.int x :: st) σ Q = if x ≠ 0 then Ev sh 251 12 [a0, a1, a2, a3] st σ Q else Ev sh 251 8 [a0, a1, a2, a3] st σ Q := Ev_if rfl
theorem s_M_whatIs_8 : Ev sh 251 8 [a0, a1, a2, a3] st σ Q = Ev sh 251 9 [a0, a1, a2, a3] (.int (-1) :: st) σ Q := Ev_step rfl
theorem s_M_whatIs_9 : Ev sh 251 9 [a0, a1, a2, a3] st σ Q = Ev sh 251 27 [a0, a1, a2, a3] st σ Q := Ev_step rfl
theorem s_M_whatIs_12 : Ev sh 251 12 [a0, a1, some (.int x), a3] st σ Q = Ev sh 251 13 [a0, a1, some (.int x), a3] (.int x :: st) σ Q := Ev_step rfl
theorem s_M_whatIs_13 : Ev sh 251 13 [a0, a1, a2, a3] st σ Q = Ev sh 251 14 [a0, a1, a2, a3] (.int 0 :: st) σ Q := Ev_step rfl
theorem s_M_whatIs_14 : Ev sh 251 14 [a0, a1, a2, a3] st σ Q = Ev sh 251 15 [a0, a1, a2, a3] (.int 1 :: st) σ Q := Ev_step rfl
theorem s_M_whatIs_15 : Ev sh 251 15 [a0, a1, a2, a3] [.int x2, .int x1, .int x0] σ Q = Ev sh 163 0 [some (.int x0), some (.int x1), some (.int x2)] [] σ (fun r s => Ev sh 251 18 [a0, a1, a2, a3] (zpush r []) s Q) := Ev_call rfl
theorem s_M_whatIs_18 : Ev sh 251 18 [a0, a1, a2, a3] (.int x :: st) σ Q = if x ≠ 0 then Ev sh 251 26 [a0, a1, a2, a3] st σ Q else Ev sh 251 21 [a0, a1, a2, a3] st σ Q := Ev_if rfl
theorem s_M_whatIs_21 : Ev sh 251 21 [a0, a1, a2, a3] st σ Q = Ev sh 251 23 [a0, a1, a2, a3] (.int (-2) :: st) σ Q := Ev_step rfl
theorem s_M_whatIs_23 : Ev sh 251 23 [a0, a1, a2, a3] st σ Q = Ev sh 251 27 [a0, a1, a2, a3] st σ Q := Ev_step rfl
theorem s_M_whatIs_26 : Ev sh 251 26 [a0, a1, a2, a3] st σ Q = Ev sh 251 27 [a0, a1, a2, a3] (.int 0 :: st) σ Q := Ev_step rfl
theorem s_M_whatIs_27 : Ev sh 251 27 [a0, a1, a2, a3] (.int x :: st) σ Q = Ev sh 251 28 [a0, a1, zdrop2 a2, some (.int x)] st σ Q := Ev_step rfl
theorem s_M_whatIs_28 : Ev sh 251 28 [a0, a1, a2, some (.int x)] st σ Q = Ev sh 251 29 [a0, a1, a2, some (.int x)] (.int x :: st) σ Q := Ev_step rfl
theorem s_M_whatIs_29 : Ev sh 251 29 [a0, a1, a2, a3] (.int x :: st) σ Q = if x = 0 then Ev sh 251 38 [a0, a1, a2, a3] st σ Q else Ev sh 251 32 [a0, a1, a2, a3] st σ Q := Ev_if rfl
theorem s_M_whatIs_32 : Ev sh 251 32 [some (.ref i), a1, a2, a3] st σ Q = Ev sh 251 33 [some (.ref i), a1, a2, a3] (.ref i :: st) σ Q := Ev_step rfl
theorem s_M_whatIs_33 : Ev sh 251 33 [a0, a1, a2, some (.int x)] st σ Q = Ev sh 251 34 [a0, a1, a2, some (.int x)] (.int x :: st) σ Q := Ev_step rfl
theorem s_M_whatIs_34 (h : sh i0 = 9) : Ev sh 251 34 [a0, a1, a2, a3] [.int x1, .ref i0] σ Q = Ev sh 160 0 [some (.ref i0), some (.int x1)] [] σ (fun r s => Ev sh 251 37 [a0, a1, a2, a3] (zpush r []) s Q) := Ev_callh (zrecv_of (by decide) h) rfl
theorem s_M_whatIs_37 : Ev sh 251 37 [a0, a1, a2, a3] [.int x] σ Q = Q (some (.int x)) σ := Ev_ret rfl
theorem s_M_whatIs_38 : Ev sh 251 38 [a0, a1, some (.int x), a3] st σ Q = Ev sh 251 39 [a0, a1, some (.int x), a3] (.int x :: st) σ Q := Ev_step rfl
theorem s_M_whatIs_39 : Ev sh 251 39 [a0, a1, a2, a3] (.int x :: st) σ Q = if x ≠ 0 then Ev sh 251 56 [a0, a1, a2, a3] st σ Q else Ev sh 251 42 [a0, a1, a2, a3] st σ Q := Ev_if rfl
theorem s_M_whatIs_42 : Ev sh 251 42 [some (.ref i), a1, a2, a3] st σ Q = Ev sh 251 43 [some (.ref i), a1, a2, a3] (.ref i :: st) σ Q := Ev_step rfl
theorem s_M_whatIs_43 : Ev sh 251 43 [some (.ref i), a1, a2, a3] st σ Q = Ev sh 251 44 [some (.ref i), a1, a2, a3] (.ref i :: st) σ Q := Ev_step rfl
theorem s_M_whatIs_44 (h : sh i = 9) : Ev sh 251 44 [a0, a1, a2, a3] (.ref i :: st) σ Q = Ev sh 251 47 [a0, a1, a2, a3] (.ref 2 :: st) σ Q := Ev_h h rfl
theorem s_M_whatIs_47 : Ev sh 251 47 [a0, some (.int x), a2, a3] st σ Q = Ev sh 251 48 [a0, some (.int x), a2, a3] (.int x :: st) σ Q := Ev_step rfl
theorem s_M_whatIs_48 : Ev sh 251 48 [a0, a1, a2, a3] st σ Q = Ev sh 251 50 [a0, a1, a2, a3] (.int 6 :: st) σ Q := Ev_step rfl
theorem s_M_whatIs_50 (h : sh i0 = 9) : Ev sh 251 50 [a0, a1, a2, a3] [.int x3, .int x2, .ref i1, .ref i0] σ Q = Ev sh 249 0 [some (.ref i0), some (.ref i1), some (.int x2), some (.int x3), none, none, none] [] σ (fun r s => Ev sh 251 53 [a0, a1, a2, a3] (zpush r []) s Q) := Ev_callh (zrecv_of (by decide) h) rfl
theorem s_M_whatIs_53 : Ev sh 251 53 [a0, a1, a2, a3] st σ Q = Ev sh 251 67 [a0, a1, a2, a3] st σ Q := Ev_step rfl
theorem s_M_whatIs_56 : Ev sh 251 56 [some (.ref i), a1, a2, a3] st σ Q = Ev sh 251 57 [some (.ref i), a1, a2, a3] (.ref i :: st) σ Q := Ev_step rfl
theorem s_M_whatIs_57 : Ev sh 251 57 [some (.ref i), a1, a2, a3] st σ Q = Ev sh 251 58 [some (.ref i), a1, a2, a3] (.ref i :: st) σ Q := Ev_step rfl
theorem s_M_whatIs_58 (h : sh i = 9) : Ev sh 251 58 [a0, a1, a2, a3] (.ref i :: st) σ Q = Ev sh 251 61 [a0, a1, a2, a3] (.ref 3 :: st) σ Q := Ev_h h rfl
theorem s_M_whatIs_61 : Ev sh 251 61 [a0, some (.int x), a2, a3] st σ Q = Ev sh 251 62 [a0, some (.int x), a2, a3] (.int x :: st) σ Q := Ev_step rfl
theorem s_M_whatIs_62 : Ev sh 251 62 [a0, a1, a2, a3] st σ Q = Ev sh 251 64 [a0, a1, a2, a3] (.int 10 :: st) σ Q := Ev_step rfl
theorem s_M_whatIs_64 (h : sh i0 = 9) : Ev sh 251 64 [a0, a1, a2, a3] [.int x3, .int x2, .ref i1, .ref i0] σ Q = Ev sh 249 0 [some (.ref i0), some (.ref i1), some (.int x2), some (.int x3), none, none, none] [] σ (fun r s => Ev sh 251 67 [a0, a1, a2, a3] (zpush r []) s Q) := Ev_callh (zrecv_of (by decide) h) rfl
theorem s_M_whatIs_67 : Ev sh 251 67 [a0, a1, a2, a3] [.int x] σ Q = Q (some (.int x)) σ := Ev_ret rfl
theorem s_M_row_0 : Ev sh 252 0 [a0, some (.int x), a2] st σ Q = Ev sh 252 1 [a0, some (.int x), a2] (.int x :: st) σ Q := Ev_step rfl
theorem s_M_row_1 : Ev sh 252 1 [a0, a1, a2] st σ Q = Ev sh 252 2 [a0, a1, a2] (.int 0 :: st) σ Q := Ev_step rfl
theorem s_M_row_2 : Ev sh 252 2 [a0, a1, a2] st σ Q = Ev sh 252 4 [a0, a1, a2] (.int 99 :: st) σ Q := Ev_step rfl
theorem s_M_row_4 : Ev sh 252 4 [a0, a1, a2] [.int x2, .int x1, .int x0] σ Q = Ev sh 164 0 [some (.int x0), some (.int x1), some (.int x2)] [] σ (fun r s => Ev sh 252 7 [a0, a1, a2] (zpush r []) s Q) := Ev_call rfl
theorem s_M_row_7 : Ev sh 252 7 [a0, a1, a2] (.int x :: st) σ Q = Ev sh 252 8 [a0, zdrop2 a1, some (.int x)] st σ Q := Ev_step rfl
theorem s_M_row_8 : Ev sh 252 8 [a0, a1, some (.int x)] st σ Q = Ev sh 252 9 [a0, a1, some (.int x)] (.int x :: st) σ Q := Ev_step rfl
theorem s_M_row_9 : Ev sh 252 9 [a0, a1, a2] (.int x :: st) σ Q = if x ≠ 0 then Ev sh 252 24 [a0, a1, a2] st σ Q else Ev sh 252 12 [a0, a1, a2] st σ Q := Ev_if rfl
theorem s_M_row_12 : Ev sh 252 12 [some (.ref i), a1, a2] st σ Q = Ev sh 252 13 [some (.ref i), a1, a2] (.ref i :: st) σ Q := Ev_step rfl
theorem s_M_row_13 (h : sh i = 9) : Ev sh 252 13 [a0, a1, a2] (.ref i :: st) σ Q = Ev sh 252 16 [a0, a1, a2] (.int (σ i 25) :: st) σ Q := Ev_h h rfl
theorem s_M_row_16 : Ev sh 252 16 [a0, a1, a2] st σ Q = Ev sh 252 18 [a0, a1, a2] (.int 16 :: st) σ Q := Ev_step rfl
theorem s_M_row_18 : Ev sh 252 18 [a0, a1, a2] (.int y :: .int x :: st) σ Q = if x ≠ y then Ev sh 252 24 [a0, a1, a2] st σ Q else Ev sh 252 21 [a0, a1, a2] st σ Q := Ev_if rfl
theorem s_M_row_21 : Ev sh 252 21 [a0, a1, a2] st σ Q = Ev sh 252 23 [a0, a1, a2] (.int (-6) :: st) σ Q := Ev_step rfl
theorem s_M_row_23 : Ev sh 252 23 [a0, a1, a2] (.int x :: st) σ Q = Ev sh 252 24 [a0, zdrop2 a1, some (.int x)] st σ Q := Ev_step rfl
theorem s_M_row_24 : Ev sh 252 24 [a0, a1, some (.int x)] st σ Q = Ev sh 252 25 [a0, a1, some (.int x)] (.int x :: st) σ Q := Ev_step rfl
theorem s_M_row_25 : Ev sh 252 25 [a0, a1, a2] (.int x :: st) σ Q = if x = 0 then Ev sh 252 34 [a0, a1, a2] st σ Q else Ev sh 252 28 [a0, a1, a2] st σ Q := Ev_if rfl
theorem s_M_row_28 : Ev sh 252 28 [some (.ref i), a1, a2] st σ Q = Ev sh 252 29 [some (.ref i), a1, a2] (.ref i :: st) σ Q := Ev_step rfl
theorem s_M_row_29 : Ev sh 252 29 [a0, a1, some (.int x)] st σ Q = Ev sh 252 30 [a0, a1, some (.int x)] (.int x :: st) σ Q := Ev_step rfl
theorem s_M_row_30 (h : sh i0 = 9) : Ev sh 252 30 [a0, a1, a2] [.int x1, .ref i0] σ Q = Ev sh 160 0 [some (.ref i0), some (.int x1)] [] σ (fun r s => Ev sh 252 33 [a0, a1, a2] (zpush r []) s Q) := Ev_callh (zrecv_of (by decide) h) rfl
theorem s_M_row_33 : Ev sh 252 33 [a0, a1, a2] [.int x] σ Q = Q (some (.int x)) σ := Ev_ret rfl
theorem s_M_row_34 : Ev sh 252 34 [some (.ref i), a1, a2] st σ Q = Ev sh 252 35 [some (.ref i), a1, a2] (.ref i :: st) σ Q := Ev_step rfl
theorem s_M_row_35 (h : sh i = 9) : Ev sh 252 35 [a0, a1, a2] (.ref i :: st) σ Q = Ev sh 252 38 [a0, a1, a2] (.ref 14 :: st) σ Q := Ev_h h rfl
theorem s_M_row_38 : Ev sh 252 38 [some (.ref i), a1, a2] st σ Q = Ev sh 252 39 [some (.ref i), a1, a2] (.ref i :: st) σ Q := Ev_step rfl
theorem s_M_row_39 (h : sh i = 9) : Ev sh 252 39 [a0, a1, a2] (.ref i :: st) σ Q = Ev sh 252 42 [a0, a1, a2] (.int (σ i 25) :: st) σ Q := Ev_h h rfl
theorem s_M_row_42 : Ev sh 252 42 [a0, some (.int x), a2] st σ Q = Ev sh 252 43 [a0, some (.int x), a2] (.int x :: st) σ Q := Ev_step rfl
theorem s_M_row_43 (h : zin x (sh i) = true) : Ev sh 252 43 [a0, a1, a2] (.int y :: .int x :: .ref i :: st) σ Q = Ev sh 252 44 [a0, a1, a2] st (zup σ i x.toNatClampNeg y) Q := Ev_h h rfl
theorem s_M_row_44 : Ev sh 252 44 [some (.ref i), a1, a2] st σ Q = Ev sh 252 45 [some (.ref i), a1, a2] (.ref i :: st) σ Q := Ev_step rfl
theorem s_M_row_45 : Ev sh 252 45 [a0, a1, a2] (.ref i :: st) σ Q = Ev sh 252 46 [a0, a1, a2] (.ref i :: .ref i :: st) σ Q := Ev_step rfl
theorem s_M_row_46 (h : sh i = 9) : Ev sh 252 46 [a0, a1, a2] (.ref i :: st) σ Q = Ev sh 252 49 [a0, a1, a2] (.int (σ i 25) :: st) σ Q := Ev_h h rfl
theorem s_M_row_49 : Ev sh 252 49 [a0, a1, a2] st σ Q = Ev sh 252 50 [a0, a1, a2] (.int 1 :: st) σ Q := Ev_step rfl
theorem s_M_row_50 : Ev sh 252 50 [a0, a1, a2] (.int y :: .int x :: st) σ Q = Ev sh 252 51 [a0, a1, a2] (.int (x + y) :: st) σ Q := Ev_step rfl
theorem s_M_row_51 (h : sh i = 9) : Ev sh 252 51 [a0, a1, a2] (.int x :: .ref i :: st) σ Q = Ev sh 252 54 [a0, a1, a2] st (zup σ i 25 x) Q := Ev_h h rfl
theorem s_M_row_54 : Ev sh 252 54 [some (.ref i), a1, a2] st σ Q = Ev sh 252 55 [some (.ref i), a1, a2] (.ref i :: st) σ Q := Ev_step rfl
theorem s_M_row_55 (h : sh i = 9) : Ev sh 252 55 [a0, a1, a2] (.ref i :: st) σ Q = Ev sh 252 58 [a0, a1, a2] (.int (σ i 25) :: st) σ Q := Ev_h h rfl
theorem s_M_row_58 : Ev sh 252 58 [a0, a1, a2] [.int x] σ Q = Q (some (.int x)) σ := Ev_ret rfl
theorem s_M_judge_0 : Ev sh 253 0 [some (.ref i), a1, a2] st σ Q = Ev sh 253 1 [some (.ref i), a1, a2] (.ref i :: st) σ Q := Ev_step rfl
theorem s_M_judge_1 (h : sh i = 9) : Ev sh 253 1 [a0, a1, a2] (.ref i :: st) σ Q = Ev sh 253 4 [a0, a1, a2] (.int (σ i 25) :: st) σ Q := Ev_h h rfl
theorem s_M_judge_4 : Ev sh 253 4 [a0, a1, a2] (.int x :: st) σ Q = Ev sh 253 5 [zdrop2 a0, some (.int x), a2] st σ Q := Ev_step rfl
theorem s_M_judge_5 : Ev sh 253 5 [some (.ref i), a1, a2] st σ Q = Ev sh 253 6 [some (.ref i), a1, a2] (.ref i :: st) σ Q := Ev_step rfl
theorem s_M_judge_6 : Ev sh 253 6 [a0, a1, a2] st σ Q = Ev sh 253 7 [a0, a1, a2] (.int 0 :: st) σ Q := Ev_step rfl
theorem s_M_judge_7 (h : sh i = 9) : Ev sh 253 7 [a0, a1, a2] (.int x :: .ref i :: st) σ Q = Ev sh 253 10 [a0, a1, a2] st (zup σ i 25 x) Q := Ev_h h rfl
theorem s_M_judge_10 : Ev sh 253 10 [a0, a1, a2] st σ Q = Ev sh 253 11 [a0, a1, a2] (.int 0 :: st) σ Q := Ev_step rfl
theorem s_M_judge_11 : Ev sh 253 11 [a0, a1, a2] (.int x :: st) σ Q = Ev sh 253 12 [a0, zdrop2 a1, some (.int x)] st σ Q := Ev_step rfl
theorem s_M_judge_12 : Ev sh 253 12 [a0, a1, some (.int x)] st σ Q = Ev sh 253 13 [a0, a1, some (.int x)] (.int x :: st) σ Q := Ev_step rfl
theorem s_M_judge_13 : Ev sh 253 13 [a0, some (.int x), a2] st σ Q = Ev sh 253 14 [a0, some (.int x), a2] (.int x :: st) σ Q := Ev_step rfl
theorem s_M_judge_14 : Ev sh 253 14 [a0, a1, a2] (.int y :: .int x :: st) σ Q = if y ≤ x then Ev sh 253 50 [a0, a1, a2] st σ Q else Ev sh 253 17 [a0, a1, a2] st σ Q := Ev_if rfl
theorem s_M_judge_17 : Ev sh 253 17 [a0, a1, some (.int x)] st σ Q = Ev sh 253 18 [a0, a1, some (.int x)] (.int x :: st) σ Q := Ev_step rfl
theorem s_M_judge_18 : Ev sh 253 18 [some (.ref i), a1, a2] st σ Q = Ev sh 253 19 [some (.ref i), a1, a2] (.ref i :: st) σ Q := Ev_step rfl
theorem s_M_judge_19 (h : sh i = 9) : Ev sh 253 19 [a0, a1, a2] (.ref i :: st) σ Q = Ev sh 253 22 [a0, a1, a2] (.int (σ i 7) :: st) σ Q := Ev_h h rfl
theorem s_M_judge_22 : Ev sh 253 22 [a0, a1, a2] (.int y :: .int x :: st) σ Q = if y ≤ x then Ev sh 253 42 [a0, a1, a2] st σ Q else Ev sh 253 25 [a0, a1, a2] st σ Q := Ev_if rfl
theorem s_M_judge_25 : Ev sh 253 25 [some (.ref i), a1, a2] st σ Q = Ev sh 253 26 [some (.ref i), a1, a2] (.ref i :: st) σ Q := Ev_step rfl
theorem s_M_judge_26 : Ev sh 253 26 [a0, a1, some (.int x)] st σ Q = Ev sh 253 27 [a0, a1, some (.int x)] (.int x :: st) σ Q := Ev_step rfl
theorem s_M_judge_27 (h : sh i0 = 9) : Ev sh 253 27 [a0, a1, a2] [.int x1, .ref i0] σ Q = Ev sh 192 0 [some (.ref i0), some (.int x1), none, none] [] σ (fun r s => Ev sh 253 30 [a0, a1, a2] (zpush r []) s Q) := Ev_callh (zrecv_of (by decide) h) rfl
theorem s_M_judge_30 : Ev sh 253 30 [a0, a1, a2] st σ Q = Ev sh 253 32 [a0, a1, a2] (.int 50 :: st) σ Q := Ev_step rfl
theorem s_M_judge_32 : Ev sh 253 32 [a0, a1, a2] (.int y :: .int x :: st) σ Q = Ev sh 253 33 [a0, a1, a2] (.int (x + y) :: st) σ Q := Ev_step rfl
theorem s_M_judge_33 : Ev sh 253 33 [some (.ref i), a1, a2] st σ Q = Ev sh 253 34 [some (.ref i), a1, a2] (.ref i :: st) σ Q := Ev_step rfl
theorem s_M_judge_34 (h : sh i = 9) : Ev sh 253 34 [a0, a1, a2] (.ref i :: st) σ Q = Ev sh 253 37 [a0, a1, a2] (.ref 14 :: st) σ Q := Ev_h h rfl
theorem s_M_judge_37 : Ev sh 253 37 [a0, a1, some (.int x)] st σ Q = Ev sh 253 38 [a0, a1, some (.int x)] (.int x :: st) σ Q := Ev_step rfl
theorem s_M_judge_38 (h : zin x (sh i) = true) : Ev sh 253 38 [a0, a1, a2] (.int x :: .ref i :: st) σ Q = Ev sh 253 39 [a0, a1, a2] (.int (σ i x.toNatClampNeg) :: st) σ Q := Ev_h h rfl
theorem s_M_judge_39 : Ev sh 253 39 [a0, a1, a2] (.int y :: .int x :: st) σ Q = if x = y then Ev sh 253 44 [a0, a1, a2] st σ Q else Ev sh 253 42 [a0, a1, a2] st σ Q := Ev_if rfl
theorem s_M_judge_42 : Ev sh 253 42 [a0, a1, some (.int x)] st σ Q = Ev sh 253 43 [a0, a1, some (.int x)] (.int x :: st) σ Q := Ev_step rfl
theorem s_M_judge_43 : Ev sh 253 43 [a0, a1, a2] [.int x] σ Q = Q (some (.int x)) σ := Ev_ret rfl
theorem s_M_judge_44 : Ev sh 253 44 [a0, a1, some (.int x)] st σ Q = Ev sh 253 47 [a0, a1, some (.int (x + 1))] st σ Q := Ev_step rfl
theorem s_M_judge_47 : Ev sh 253 47 [a0, a1, a2] st σ Q = Ev sh 253 12 [a0, a1, a2] st σ Q := Ev_step rfl
theorem s_M_judge_50 : Ev sh 253 50 [a0, a1, a2] st σ Q = Ev sh 253 52 [a0, a1, a2] (.int (-9) :: st) σ Q := Ev_step rfl
theorem s_M_judge_52 : Ev sh 253 52 [a0, a1, a2] [.int x] σ Q = Q (some (.int x)) σ := Ev_ret rfl
theorem s_M_clear_0 : Ev sh 254 0 [some (.ref i), a1] st σ Q = Ev sh 254 1 [some (.ref i), a1] (.ref i :: st) σ Q := Ev_step rfl
theorem s_M_clear_1 (h : sh i = 9) : Ev sh 254 1 [a0, a1] (.ref i :: st) σ Q = Ev sh 254 4 [a0, a1] (.int (σ i 25) :: st) σ Q := Ev_h h rfl
theorem s_M_clear_4 : Ev sh 254 4 [a0, a1] (.int x :: st) σ Q = Ev sh 254 5 [zdrop2 a0, some (.int x)] st σ Q := Ev_step rfl
theorem s_M_clear_5 : Ev sh 254 5 [some (.ref i), a1] st σ Q = Ev sh 254 6 [some (.ref i), a1] (.ref i :: st) σ Q := Ev_step rfl
theorem s_M_clear_6 : Ev sh 254 6 [a0, a1] st σ Q = Ev sh 254 7 [a0, a1] (.int 0 :: st) σ Q := Ev_step rfl
theorem s_M_clear_7 (h : sh i = 9) : Ev sh 254 7 [a0, a1] (.int x :: .ref i :: st) σ Q = Ev sh 254 10 [a0, a1] st (zup σ i 25 x) Q := Ev_h h rfl
theorem s_M_clear_10 : Ev sh 254 10 [a0, some (.int x)] st σ Q = Ev sh 254 11 [a0, some (.int x)] (.int x :: st) σ Q := Ev_step rfl
theorem s_M_clear_11 : Ev sh 254 11 [a0, a1] [.int x] σ Q = Q (some (.int x)) σ := Ev_ret rfl
theorem s_M_draw_0 : Ev sh 255 0 [some (.ref i), a1] st σ Q = Ev sh 255 1 [some (.ref i), a1] (.ref i :: st) σ Q := Ev_step rfl
theorem s_M_draw_1 : Ev sh 255 1 [some (.ref i), a1] st σ Q = Ev sh 255 2 [some (.ref i), a1] (.ref i :: st) σ Q := Ev_step rfl
theorem s_M_draw_2 (h : sh i = 9) : Ev sh 255 2 [a0, a1] (.ref i :: st) σ Q = Ev sh 255 5 [a0, a1] (.int (σ i 26) :: st) σ Q := Ev_h h rfl
theorem s_M_draw_5 : Ev sh 255 5 [a0, a1] st σ Q = Ev sh 255 8 [a0, a1] (.int 1664525 :: st) σ Q := Ev_step rfl
theorem s_M_draw_8 : Ev sh 255 8 [a0, a1] (.int y :: .int x :: st) σ Q = Ev sh 255 9 [a0, a1] (.int (x * y) :: st) σ Q := Ev_step rfl
theorem s_M_draw_9 : Ev sh 255 9 [a0, a1] st σ Q = Ev sh 255 12 [a0, a1] (.int 1013904223 :: st) σ Q := Ev_step rfl
theorem s_M_draw_12 : Ev sh 255 12 [a0, a1] (.int y :: .int x :: st) σ Q = Ev sh 255 13 [a0, a1] (.int (x + y) :: st) σ Q := Ev_step rfl
theorem s_M_draw_13 (h : sh i = 9) : Ev sh 255 13 [a0, a1] (.int x :: .ref i :: st) σ Q = Ev sh 255 16 [a0, a1] st (zup σ i 26 x) Q := Ev_h h rfl
theorem s_M_draw_16 : Ev sh 255 16 [some (.ref i), a1] st σ Q = Ev sh 255 17 [some (.ref i), a1] (.ref i :: st) σ Q := Ev_step rfl
theorem s_M_draw_17 (h : sh i = 9) : Ev sh 255 17 [a0, a1] (.ref i :: st) σ Q = Ev sh 255 20 [a0, a1] (.int (σ i 26) :: st) σ Q := Ev_h h rfl
theorem s_M_draw_20 : Ev sh 255 20 [a0, a1] st σ Q = Ev sh 255 23 [a0, a1] (.int 2147483647 :: st) σ Q := Ev_step rfl
theorem s_M_draw_23 : Ev sh 255 23 [a0, a1] (.int y :: .int x :: st) σ Q = Ev sh 255 24 [a0, a1] (.int (x &&& y) :: st) σ Q := Ev_step rfl
theorem s_M_draw_24 : Ev sh 255 24 [a0, a1] st σ Q = Ev sh 255 27 [a0, a1] (.int 256 :: st) σ Q := Ev_step rfl
theorem s_M_draw_27 (h : ¬ y = 0) : Ev sh 255 27 [a0, a1] (.int y :: .int x :: st) σ Q = Ev sh 255 28 [a0, a1] (.int (x / y) :: st) σ Q := Ev_h h rfl
theorem s_M_draw_28 : Ev sh 255 28 [a0, some (.int x)] st σ Q = Ev sh 255 29 [a0, some (.int x)] (.int x :: st) σ Q := Ev_step rfl
theorem s_M_draw_29 (h : ¬ y = 0) : Ev sh 255 29 [a0, a1] (.int y :: .int x :: st) σ Q = Ev sh 255 30 [a0, a1] (.int (x - x / y * y) :: st) σ Q := Ev_h h rfl
theorem s_M_draw_30 : Ev sh 255 30 [a0, a1] [.int x] σ Q = Q (some (.int x)) σ := Ev_ret rfl
theorem s_M_lots_0 : Ev sh 256 0 [a0, some (.int x), a2, a3, a4, a5, a6, a7, a8] st σ Q = Ev sh 256 1 [a0, some (.int x), a2, a3, a4, a5, a6, a7, a8] (.int x :: st) σ Q := Ev_step rfl
theorem s_M_lots_1 : Ev sh 256 1 [a0, a1, a2, a3, a4, a5, a6, a7, a8] st σ Q = Ev sh 256 2 [a0, a1, a2, a3, a4, a5, a6, a7, a8] (.int 1 :: st) σ Q := Ev_step rfl
theorem s_M_lots_2 : Ev sh 256 2 [a0, a1, a2, a3, a4, a5, a6, a7, a8] st σ Q = Ev sh 256 4 [a0, a1, a2, a3, a4, a5, a6, a7, a8] (.int 20 :: st) σ Q := Ev_step rfl
theorem s_M_lots_4 : Ev sh 256 4 [a0, a1, a2, a3, a4, a5, a6, a7, a8] [.int x2, .int x1, .int x0] σ Q = Ev sh 164 0 [some (.int x0), some (.int x1), some (.int x2)] [] σ (fun r s => Ev sh 256 7 [a0, a1, a2, a3, a4, a5, a6, a7, a8] (zpush r []) s Q) := Ev_call rfl
theorem s_M_lots_7 : Ev sh 256 7 [a0, a1, a2, a3, a4, a5, a6, a7, a8] (.int x :: st) σ Q = Ev sh 256 9 [a0, a1, a2, zdrop2 a3, some (.int x), a5, a6, a7, a8] st σ Q := Ev_step rfl
theorem s_M_lots_9 : Ev sh 256 9 [a0, a1, a2, a3, some (.int x), a5, a6, a7, a8] st σ Q = Ev sh 256 11 [a0, a1, a2, a3, some (.int x), a5, a6, a7, a8] (.int x :: st) σ Q := Ev_step rfl
theorem s_M_lots_11 : Ev sh 256 11 [a0, a1, a2, a3, a4, a5, a6, a7, a8] (.int x :: st) σ Q = if x ≠ 0 then Ev sh 256 27 [a0, a1, a2, a3, a4, a5, a6, a7, a8] st σ Q else Ev sh 256 14 [a0, a1, a2, a3, a4, a5, a6, a7, a8] st σ Q := Ev_if rfl
theorem s_M_lots_14 : Ev sh 256 14 [a0, a1, a2, some (.int x), a4, a5, a6, a7, a8] st σ Q = Ev sh 256 15 [a0, a1, a2, some (.int x), a4, a5, a6, a7, a8] (.int x :: st) σ Q := Ev_step rfl
theorem s_M_lots_15 : Ev sh 256 15 [a0, a1, a2, a3, a4, a5, a6, a7, a8] st σ Q = Ev sh 256 16 [a0, a1, a2, a3, a4, a5, a6, a7, a8] (.int 0 :: st) σ Q := Ev_step rfl
theorem s_M_lots_16 : Ev sh 256 16 [a0, a1, a2, a3, a4, a5, a6, a7, a8] st σ Q = Ev sh 256 17 [a0, a1, a2, a3, a4, a5, a6, a7, a8] (.int 1 :: st) σ Q := Ev_step rfl
theorem s_M_lots_17 : Ev sh 256 17 [a0, a1, a2, a3, a4, a5, a6, a7, a8] [.int x2, .int x1, .int x0] σ Q = Ev sh 163 0 [some (.int x0), some (.int x1), some (.int x2)] [] σ (fun r s => Ev sh 256 20 [a0, a1, a2, a3, a4, a5, a6, a7, a8] (zpush r []) s Q) := Ev_call rfl
theorem s_M_lots_20 : Ev sh 256 20 [a0, a1, a2, a3, a4, a5, a6, a7, a8] (.int x :: st) σ Q = if x ≠ 0 then Ev sh 256 27 [a0, a1, a2, a3, a4, a5, a6, a7, a8] st σ Q else Ev sh 256 23 [a0, a1, a2, a3, a4, a5, a6, a7, a8] st σ Q := Ev_if rfl
theorem s_M_lots_23 : Ev sh 256 23 [a0, a1, a2, a3, a4, a5, a6, a7, a8] st σ Q = Ev sh 256 25 [a0, a1, a2, a3, a4, a5, a6, a7, a8] (.int (-2) :: st) σ Q := Ev_step rfl
theorem s_M_lots_25 : Ev sh 256 25 [a0, a1, a2, a3, a4, a5, a6, a7, a8] (.int x :: st) σ Q = Ev sh 256 27 [a0, a1, a2, zdrop2 a3, some (.int x), a5, a6, a7, a8] st σ Q := Ev_step rfl
theorem s_M_lots_27 : Ev sh 256 27 [a0, a1, a2, a3, some (.int x), a5, a6, a7, a8] st σ Q = Ev sh 256 29 [a0, a1, a2, a3, some (.int x), a5, a6, a7, a8] (.int x :: st) σ Q := Ev_step rfl
theorem s_M_lots_29 : Ev sh 256 29 [a0, a1, a2, a3, a4, a5, a6, a7, a8] (.int x :: st) σ Q = if x = 0 then Ev sh 256 39 [a0, a1, a2, a3, a4, a5, a6, a7, a8] st σ Q else Ev sh 256 32 [a0, a1, a2, a3, a4, a5, a6, a7, a8] st σ Q := Ev_if rfl
theorem s_M_lots_32 : Ev sh 256 32 [some (.ref i), a1, a2, a3, a4, a5, a6, a7, a8] st σ Q = Ev sh 256 33 [some (.ref i), a1, a2, a3, a4, a5, a6, a7, a8] (.ref i :: st) σ Q := Ev_step rfl
theorem s_M_lots_33 : Ev sh 256 33 [a0, a1, a2, a3, some (.int x), a5, a6, a7, a8] st σ Q = Ev sh 256 35 [a0, a1, a2, a3, some (.int x), a5, a6, a7, a8] (.int x :: st) σ Q := Ev_step rfl
theorem s_M_lots_35 (h : sh i0 = 9) : Ev sh 256 35 [a0, a1, a2, a3, a4, a5, a6, a7, a8] [.int x1, .ref i0] σ Q = Ev sh 160 0 [some (.ref i0), some (.int x1)] [] σ (fun r s => Ev sh 256 38 [a0, a1, a2, a3, a4, a5, a6, a7, a8] (zpush r []) s Q) := Ev_callh (zrecv_of (by decide) h) rfl
theorem s_M_lots_38 : Ev sh 256 38 [a0, a1, a2, a3, a4, a5, a6, a7, a8] [.int x] σ Q = Q (some (.int x)) σ := Ev_ret rfl
theorem s_M_lots_39 : Ev sh 256 39 [some (.ref i), a1, a2, a3, a4, a5, a6, a7, a8] st σ Q = Ev sh 256 40 [some (.ref i), a1, a2, a3, a4, a5, a6, a7, a8] (.ref i :: st) σ Q := Ev_step rfl
theorem s_M_lots_40 : Ev sh 256 40 [a0, a1, some (.int x), a3, a4, a5, a6, a7, a8] st σ Q = Ev sh 256 41 [a0, a1, some (.int x), a3, a4, a5, a6, a7, a8] (.int x :: st) σ Q := Ev_step rfl
theorem s_M_lots_41 (h : sh i = 9) : Ev sh 256 41 [a0, a1, a2, a3, a4, a5, a6, a7, a8] (.int x :: .ref i :: st) σ Q = Ev sh 256 44 [a0, a1, a2, a3, a4, a5, a6, a7, a8] st (zup σ i 26 x) Q := Ev_h h rfl
theorem s_M_lots_44 : Ev sh 256 44 [some (.ref i), a1, a2, a3, a4, a5, a6, a7, a8] st σ Q = Ev sh 256 45 [some (.ref i), a1, a2, a3, a4, a5, a6, a7, a8] (.ref i :: st) σ Q := Ev_step rfl
theorem s_M_lots_45 (h : sh i = 9) : Ev sh 256 45 [a0, a1, a2, a3, a4, a5, a6, a7, a8] (.ref i :: st) σ Q = Ev sh 256 48 [a0, a1, a2, a3, a4, a5, a6, a7, a8] (.int (σ i 8) :: st) σ Q := Ev_h h rfl
theorem s_M_lots_48 : Ev sh 256 48 [a0, a1, a2, a3, a4, a5, a6, a7, a8] (.int x :: st) σ Q = Ev sh 256 50 [a0, a1, a2, a3, zdrop2 a4, some (.int x), a6, a7, a8] st σ Q := Ev_step rfl
theorem s_M_lots_50 : Ev sh 256 50 [a0, a1, a2, a3, a4, a5, a6, a7, a8] st σ Q = Ev sh 256 51 [a0, a1, a2, a3, a4, a5, a6, a7, a8] (.int 0 :: st) σ Q := Ev_step rfl
theorem s_M_lots_51 : Ev sh 256 51 [a0, a1, a2, a3, a4, a5, a6, a7, a8] (.int x :: st) σ Q = Ev sh 256 53 [a0, a1, a2, a3, a4, zdrop2 a5, some (.int x), a7, a8] st σ Q := Ev_step rfl
theorem s_M_lots_53 : Ev sh 256 53 [a0, a1, a2, a3, a4, a5, a6, a7, a8] st σ Q = Ev sh 256 54 [a0, a1, a2, a3, a4, a5, a6, a7, a8] (.int 0 :: st) σ Q := Ev_step rfl
theorem s_M_lots_54 : Ev sh 256 54 [a0, a1, a2, a3, a4, a5, a6, a7, a8] (.int x :: st) σ Q = Ev sh 256 56 [a0, a1, a2, a3, a4, a5, zdrop2 a6, some (.int x), a8] st σ Q := Ev_step rfl
theorem s_M_lots_56 : Ev sh 256 56 [a0, a1, a2, a3, a4, a5, a6, some (.int x), a8] st σ Q = Ev sh 256 58 [a0, a1, a2, a3, a4, a5, a6, some (.int x), a8] (.int x :: st) σ Q := Ev_step rfl
theorem s_M_lots_58 : Ev sh 256 58 [a0, some (.int x), a2, a3, a4, a5, a6, a7, a8] st σ Q = Ev sh 256 59 [a0, some (.int x), a2, a3, a4, a5, a6, a7, a8] (.int x :: st) σ Q := Ev_step rfl
theorem s_M_lots_59 : Ev sh 256 59 [a0, a1, a2, a3, a4, a5, a6, a7, a8] (.int y :: .int x :: st) σ Q = if y ≤ x then Ev sh 256 160 [a0, a1, a2, a3, a4, a5, a6, a7, a8] st σ Q else Ev sh 256 62 [a0, a1, a2, a3, a4, a5, a6, a7, a8] st σ Q := Ev_if rfl
theorem s_M_lots_62 : Ev sh 256 62 [some (.ref i), a1, a2, a3, a4, a5, a6, a7, a8] st σ Q = Ev sh 256 63 [some (.ref i), a1, a2, a3, a4, a5, a6, a7, a8] (.ref i :: st) σ Q := Ev_step rfl
theorem s_M_lots_63 (h : sh i0 = 9) : Ev sh 256 63 [a0, a1, a2, a3, a4, a5, a6, a7, a8] [.ref i0] σ Q = Ev sh 184 0 [some (.ref i0)] [] σ (fun r s => Ev sh 256 66 [a0, a1, a2, a3, a4, a5, a6, a7, a8] (zpush r []) s Q) := Ev_callh (zrecv_of (by decide) h) rfl
theorem s_M_lots_66 : Ev sh 256 66 [some (.ref i), a1, a2, a3, a4, a5, a6, a7, a8] st σ Q = Ev sh 256 67 [some (.ref i), a1, a2, a3, a4, a5, a6, a7, a8] (.ref i :: st) σ Q := Ev_step rfl
theorem s_M_lots_67 : Ev sh 256 67 [a0, a1, a2, a3, a4, a5, a6, a7, a8] st σ Q = Ev sh 256 68 [a0, a1, a2, a3, a4, a5, a6, a7, a8] (.int 0 :: st) σ Q := Ev_step rfl
theorem s_M_lots_68 (h : sh i = 9) : Ev sh 256 68 [a0, a1, a2, a3, a4, a5, a6, a7, a8] (.int x :: .ref i :: st) σ Q = Ev sh 256 71 [a0, a1, a2, a3, a4, a5, a6, a7, a8] st (zup σ i 7 x) Q := Ev_h h rfl
theorem s_M_lots_71 : Ev sh 256 71 [a0, a1, a2, a3, a4, a5, a6, a7, a8] st σ Q = Ev sh 256 72 [a0, a1, a2, a3, a4, a5, a6, a7, a8] (.int 0 :: st) σ Q := Ev_step rfl
theorem s_M_lots_72 : Ev sh 256 72 [a0, a1, a2, a3, a4, a5, a6, a7, a8] (.int x :: st) σ Q = Ev sh 256 74 [a0, a1, a2, a3, a4, a5, a6, zdrop2 a7, some (.int x)] st σ Q := Ev_step rfl
theorem s_M_lots_74 : Ev sh 256 74 [a0, a1, a2, a3, a4, a5, a6, a7, some (.int x)] st σ Q = Ev sh 256 76 [a0, a1, a2, a3, a4, a5, a6, a7, some (.int x)] (.int x :: st) σ Q := Ev_step rfl
theorem s_M_lots_76 : Ev sh 256 76 [a0, a1, a2, a3, a4, a5, a6, a7, a8] st σ Q = Ev sh 256 77 [a0, a1, a2, a3, a4, a5, a6, a7, a8] (.int 2 :: st) σ Q := Ev_step rfl
theorem s_M_lots_77 : Ev sh 256 77 [a0, a1, a2, a3, a4, a5, a6, a7, a8] (.int y :: .int x :: st) σ Q = if y ≤ x then Ev sh 256 112 [a0, a1, a2, a3, a4, a5, a6, a7, a8] st σ Q else Ev sh 256 80 [a0, a1, a2, a3, a4, a5, a6, a7, a8] st σ Q := Ev_if rfl
theorem s_M_lots_80 : Ev sh 256 80 [some (.ref i), a1, a2, a3, a4, a5, a6, a7, a8] st σ Q = Ev sh 256 81 [some (.ref i), a1, a2, a3, a4, a5, a6, a7, a8] (.ref i :: st) σ Q := Ev_step rfl
theorem s_M_lots_81 (h : sh i = 9) : Ev sh 256 81 [a0, a1, a2, a3, a4, a5, a6, a7, a8] (.ref i :: st) σ Q = Ev sh 256 84 [a0, a1, a2, a3, a4, a5, a6, a7, a8] (.ref 5 :: st) σ Q := Ev_h h rfl
theorem s_M_lots_84 : Ev sh 256 84 [a0, a1, a2, a3, a4, a5, a6, a7, some (.int x)] st σ Q = Ev sh 256 86 [a0, a1, a2, a3, a4, a5, a6, a7, some (.int x)] (.int x :: st) σ Q := Ev_step rfl
theorem s_M_lots_86 : Ev sh 256 86 [some (.ref i), a1, a2, a3, a4, a5, a6, a7, a8] st σ Q = Ev sh 256 87 [some (.ref i), a1, a2, a3, a4, a5, a6, a7, a8] (.ref i :: st) σ Q := Ev_step rfl
theorem s_M_lots_87 : Ev sh 256 87 [a0, a1, a2, a3, a4, a5, a6, a7, a8] st σ Q = Ev sh 256 89 [a0, a1, a2, a3, a4, a5, a6, a7, a8] (.int 6 :: st) σ Q := Ev_step rfl
theorem s_M_lots_89 (h : sh i2 = 9) : Ev sh 256 89 [a0, a1, a2, a3, a4, a5, a6, a7, a8] [.int x3, .ref i2, .int x1, .ref i0] σ Q = Ev sh 255 0 [some (.ref i2), some (.int x3)] [] σ (fun r s => Ev sh 256 92 [a0, a1, a2, a3, a4, a5, a6, a7, a8] (zpush r [.int x1, .ref i0]) s Q) := Ev_callh (zrecv_of (by decide) h) rfl
theorem s_M_lots_92 (h : zin x (sh i) = true) : Ev sh 256 92 [a0, a1, a2, a3, a4, a5, a6, a7, a8] (.int y :: .int x :: .ref i :: st) σ Q = Ev sh 256 93 [a0, a1, a2, a3, a4, a5, a6, a7, a8] st (zup σ i x.toNatClampNeg y) Q := Ev_h h rfl
theorem s_M_lots_93 : Ev sh 256 93 [some (.ref i), a1, a2, a3, a4, a5, a6, a7, a8] st σ Q = Ev sh 256 94 [some (.ref i), a1, a2, a3, a4, a5, a6, a7, a8] (.ref i :: st) σ Q := Ev_step rfl
theorem s_M_lots_94 (h : sh i = 9) : Ev sh 256 94 [a0, a1, a2, a3, a4, a5, a6, a7, a8] (.ref i :: st) σ Q = Ev sh 256 97 [a0, a1, a2, a3, a4, a5, a6, a7, a8] (.ref 6 :: st) σ Q := Ev_h h rfl
theorem s_M_lots_97 : Ev sh 256 97 [a0, a1, a2, a3, a4, a5, a6, a7, some (.int x)] st σ Q = Ev sh 256 99 [a0, a1, a2, a3, a4, a5, a6, a7, some (.int x)] (.int x :: st) σ Q := Ev_step rfl
theorem s_M_lots_99 : Ev sh 256 99 [some (.ref i), a1, a2, a3, a4, a5, a6, a7, a8] st σ Q = Ev sh 256 100 [some (.ref i), a1, a2, a3, a4, a5, a6, a7, a8] (.ref i :: st) σ Q := Ev_step rfl
theorem s_M_lots_100 : Ev sh 256 100 [a0, a1, a2, a3, a4, a5, a6, a7, a8] st σ Q = Ev sh 256 102 [a0, a1, a2, a3, a4, a5, a6, a7, a8] (.int 10 :: st) σ Q := Ev_step rfl
theorem s_M_lots_102 (h : sh i2 = 9) : Ev sh 256 102 [a0, a1, a2, a3, a4, a5, a6, a7, a8] [.int x3, .ref i2, .int x1, .ref i0] σ Q = Ev sh 255 0 [some (.ref i2), some (.int x3)] [] σ (fun r s => Ev sh 256 105 [a0, a1, a2, a3, a4, a5, a6, a7, a8] (zpush r [.int x1, .ref i0]) s Q) := Ev_callh (zrecv_of (by decide) h) rfl
theorem s_M_lots_105 (h : zin x (sh i) = true) : Ev sh 256 105 [a0, a1, a2, a3, a4, a5, a6, a7, a8] (.int y :: .int x :: .ref i :: st) σ Q = Ev sh 256 106 [a0, a1, a2, a3, a4, a5, a6, a7, a8] st (zup σ i x.toNatClampNeg y) Q := Ev_h h rfl
theorem s_M_lots_106 : Ev sh 256 106 [a0, a1, a2, a3, a4, a5, a6, a7, some (.int x)] st σ Q = Ev sh 256 109 [a0, a1, a2, a3, a4, a5, a6, a7, some (.int (x + 1))] st σ Q := Ev_step rfl
theorem s_M_lots_109 : Ev sh 256 109 [a0, a1, a2, a3, a4, a5, a6, a7, a8] st σ Q = Ev sh 256 74 [a0, a1, a2, a3, a4, a5, a6, a7, a8] st σ Q := Ev_step rfl
theorem s_M_lots_112 : Ev sh 256 112 [some (.ref i), a1, a2, a3, a4, a5, a6, a7, a8] st σ Q = Ev sh 256 113 [some (.ref i), a1, a2, a3, a4, a5, a6, a7, a8] (.ref i :: st) σ Q := Ev_step rfl
theorem s_M_lots_113 : Ev sh 256 113 [a0, a1, a2, a3, a4, a5, a6, a7, a8] st σ Q = Ev sh 256 115 [a0, a1, a2, a3, a4, a5, a6, a7, a8] (.int 9 :: st) σ Q := Ev_step rfl
theorem s_M_lots_115 (h : sh i0 = 9) : Ev sh 256 115 [a0, a1, a2, a3, a4, a5, a6, a7, a8] [.int x1, .ref i0] σ Q = Ev sh 203 0 [some (.ref i0), some (.int x1), none] [] σ (fun r s => Ev sh 256 118 [a0, a1, a2, a3, a4, a5, a6, a7, a8] (zpush r []) s Q) := Ev_callh (zrecv_of (by decide) h) rfl
theorem s_M_lots_118 : Ev sh 256 118 [a0, a1, a2, a3, a4, a5, some (.int x), a7, a8] st σ Q = Ev sh 256 120 [a0, a1, a2, a3, a4, a5, some (.int x), a7, a8] (.int x :: st) σ Q := Ev_step rfl
theorem s_M_lots_120 : Ev sh 256 120 [a0, a1, a2, some (.int x), a4, a5, a6, a7, a8] st σ Q = Ev sh 256 121 [a0, a1, a2, some (.int x), a4, a5, a6, a7, a8] (.int x :: st) σ Q := Ev_step rfl
theorem s_M_lots_121 : Ev sh 256 121 [a0, a1, a2, a3, a4, a5, a6, a7, a8] st σ Q = Ev sh 256 122 [a0, a1, a2, a3, a4, a5, a6, a7, a8] (.int 1 :: st) σ Q := Ev_step rfl
theorem s_M_lots_122 : Ev sh 256 122 [a0, a1, a2, a3, a4, a5, a6, a7, a8] (.int y :: .int x :: st) σ Q = if x ≠ y then Ev sh 256 135 [a0, a1, a2, a3, a4, a5, a6, a7, a8] st σ Q else Ev sh 256 125 [a0, a1, a2, a3, a4, a5, a6, a7, a8] st σ Q := Ev_if rfl
theorem s_M_lots_125 : Ev sh 256 125 [some (.ref i), a1, a2, a3, a4, a5, a6, a7, a8] st σ Q = Ev sh 256 126 [some (.ref i), a1, a2, a3, a4, a5, a6, a7, a8] (.ref i :: st) σ Q := Ev_step rfl
theorem s_M_lots_126 (h : sh i = 9) : Ev sh 256 126 [a0, a1, a2, a3, a4, a5, a6, a7, a8] (.ref i :: st) σ Q = Ev sh 256 129 [a0, a1, a2, a3, a4, a5, a6, a7, a8] (.int (σ i 8) :: st) σ Q := Ev_h h rfl
theorem s_M_lots_129 : Ev sh 256 129 [a0, a1, a2, a3, a4, some (.int x), a6, a7, a8] st σ Q = Ev sh 256 131 [a0, a1, a2, a3, a4, some (.int x), a6, a7, a8] (.int x :: st) σ Q := Ev_step rfl
theorem s_M_lots_131 : Ev sh 256 131 [a0, a1, a2, a3, a4, a5, a6, a7, a8] (.int y :: .int x :: st) σ Q = Ev sh 256 132 [a0, a1, a2, a3, a4, a5, a6, a7, a8] (.int (x - y) :: st) σ Q := Ev_step rfl
theorem s_M_lots_132 : Ev sh 256 132 [a0, a1, a2, a3, a4, a5, a6, a7, a8] st σ Q = Ev sh 256 147 [a0, a1, a2, a3, a4, a5, a6, a7, a8] st σ Q := Ev_step rfl
theorem s_M_lots_135 : Ev sh 256 135 [some (.ref i), a1, a2, a3, a4, a5, a6, a7, a8] st σ Q = Ev sh 256 136 [some (.ref i), a1, a2, a3, a4, a5, a6, a7, a8] (.ref i :: st) σ Q := Ev_step rfl
theorem s_M_lots_136 (h : sh i1 = 9) : Ev sh 256 136 [a0, a1, a2, a3, a4, a5, a6, a7, a8] [.ref i1, .int x0] σ Q = Ev sh 198 0 [some (.ref i1)] [] σ (fun r s => Ev sh 256 139 [a0, a1, a2, a3, a4, a5, a6, a7, a8] (zpush r [.int x0]) s Q) := Ev_callh (zrecv_of (by decide) h) rfl
theorem s_M_lots_139 : Ev sh 256 139 [a0, a1, a2, a3, a4, a5, a6, a7, a8] (.int x :: st) σ Q = if x = 0 then Ev sh 256 146 [a0, a1, a2, a3, a4, a5, a6, a7, a8] st σ Q else Ev sh 256 142 [a0, a1, a2, a3, a4, a5, a6, a7, a8] st σ Q := Ev_if rfl
theorem s_M_lots_142 : Ev sh 256 142 [a0, a1, a2, a3, a4, a5, a6, a7, a8] st σ Q = Ev sh 256 143 [a0, a1, a2, a3, a4, a5, a6, a7, a8] (.int 1 :: st) σ Q := Ev_step rfl
theorem s_M_lots_143 : Ev sh 256 143 [a0, a1, a2, a3, a4, a5, a6, a7, a8] st σ Q = Ev sh 256 147 [a0, a1, a2, a3, a4, a5, a6, a7, a8] st σ Q := Ev_step rfl
theorem s_M_lots_146 : Ev sh 256 146 [a0, a1, a2, a3, a4, a5, a6, a7, a8] st σ Q = Ev sh 256 147 [a0, a1, a2, a3, a4, a5, a6, a7, a8] (.int 0 :: st) σ Q := Ev_step rfl
theorem s_M_lots_147 : Ev sh 256 147 [a0, a1, a2, a3, a4, a5, a6, a7, a8] (.int y :: .int x :: st) σ Q = Ev sh 256 148 [a0, a1, a2, a3, a4, a5, a6, a7, a8] (.int (x + y) :: st) σ Q := Ev_step rfl
theorem s_M_lots_148 : Ev sh 256 148 [a0, a1, a2, a3, a4, a5, a6, a7, a8] (.int x :: st) σ Q = Ev sh 256 150 [a0, a1, a2, a3, a4, zdrop2 a5, some (.int x), a7, a8] st σ Q := Ev_step rfl
theorem s_M_lots_150 : Ev sh 256 150 [some (.ref i), a1, a2, a3, a4, a5, a6, a7, a8] st σ Q = Ev sh 256 151 [some (.ref i), a1, a2, a3, a4, a5, a6, a7, a8] (.ref i :: st) σ Q := Ev_step rfl
theorem s_M_lots_151 (h : sh i0 = 9) : Ev sh 256 151 [a0, a1, a2, a3, a4, a5, a6, a7, a8] [.ref i0] σ Q = Ev sh 185 0 [some (.ref i0)] [] σ (fun r s => Ev sh 256 154 [a0, a1, a2, a3, a4, a5, a6, a7, a8] (zpush r []) s Q) := Ev_callh (zrecv_of (by decide) h) rfl
theorem s_M_lots_154 : Ev sh 256 154 [a0, a1, a2, a3, a4, a5, a6, some (.int x), a8] st σ Q = Ev sh 256 157 [a0, a1, a2, a3, a4, a5, a6, some (.int (x + 1)), a8] st σ Q := Ev_step rfl
theorem s_M_lots_157 : Ev sh 256 157 [a0, a1, a2, a3, a4, a5, a6, a7, a8] st σ Q = Ev sh 256 56 [a0, a1, a2, a3, a4, a5, a6, a7, a8] st σ Q := Ev_step rfl
theorem s_M_lots_160 : Ev sh 256 160 [a0, a1, a2, a3, a4, a5, some (.int x), a7, a8] st σ Q = Ev sh 256 162 [a0, a1, a2, a3, a4, a5, some (.int x), a7, a8] (.int x :: st) σ Q := Ev_step rfl
theorem s_M_lots_162 : Ev sh 256 162 [a0, a1, a2, a3, a4, a5, a6, a7, a8] [.int x] σ Q = Q (some (.int x)) σ := Ev_ret rfl
theorem s_M_laidByNight_0 : Ev sh 257 0 [a0, a1, a2] st σ Q = Ev sh 257 1 [a0, a1, a2] (.int 0 :: st) σ Q := Ev_step rfl
theorem s_M_laidByNight_1 : Ev sh 257 1 [a0, a1, a2] (.int x :: st) σ Q = Ev sh 257 2 [zdrop2 a0, some (.int x), a2] st σ Q := Ev_step rfl
theorem s_M_laidByNight_2 : Ev sh 257 2 [a0, a1, a2] st σ Q = Ev sh 257 3 [a0, a1, a2] (.int 0 :: st) σ Q := Ev_step rfl
theorem s_M_laidByNight_3 : Ev sh 257 3 [a0, a1, a2] (.int x :: st) σ Q = Ev sh 257 4 [a0, zdrop2 a1, some (.int x)] st σ Q := Ev_step rfl
theorem s_M_laidByNight_4 : Ev sh 257 4 [a0, a1, some (.int x)] st σ Q = Ev sh 257 5 [a0, a1, some (.int x)] (.int x :: st) σ Q := Ev_step rfl
theorem s_M_laidByNight_5 : Ev sh 257 5 [some (.ref i), a1, a2] st σ Q = Ev sh 257 6 [some (.ref i), a1, a2] (.ref i :: st) σ Q := Ev_step rfl
theorem s_M_laidByNight_6 (h : sh i = 9) : Ev sh 257 6 [a0, a1, a2] (.ref i :: st) σ Q = Ev sh 257 9 [a0, a1, a2] (.int (σ i 7) :: st) σ Q := Ev_h h rfl
theorem s_M_laidByNight_9 : Ev sh 257 9 [a0, a1, a2] (.int y :: .int x :: st) σ Q = if y ≤ x then Ev sh 257 29 [a0, a1, a2] st σ Q else Ev sh 257 12 [a0, a1, a2] st σ Q := Ev_if rfl
theorem s_M_laidByNight_12 : Ev sh 257 12 [a0, some (.int x), a2] st σ Q = Ev sh 257 13 [a0, some (.int x), a2] (.int x :: st) σ Q := Ev_step rfl
theorem s_M_laidByNight_13 : Ev sh 257 13 [some (.ref i), a1, a2] st σ Q = Ev sh 257 14 [some (.ref i), a1, a2] (.ref i :: st) σ Q := Ev_step rfl
theorem s_M_laidByNight_14 (h : sh i = 9) : Ev sh 257 14 [a0, a1, a2] (.ref i :: st) σ Q = Ev sh 257 17 [a0, a1, a2] (.ref 4 :: st) σ Q := Ev_h h rfl
theorem s_M_laidByNight_17 : Ev sh 257 17 [a0, a1, some (.int x)] st σ Q = Ev sh 257 18 [a0, a1, some (.int x)] (.int x :: st) σ Q := Ev_step rfl
theorem s_M_laidByNight_18 (h : zin x (sh i) = true) : Ev sh 257 18 [a0, a1, a2] (.int x :: .ref i :: st) σ Q = Ev sh 257 19 [a0, a1, a2] (.int (σ i x.toNatClampNeg) :: st) σ Q := Ev_h h rfl
theorem s_M_laidByNight_19 : Ev sh 257 19 [a0, a1, some (.int x)] st σ Q = Ev sh 257 20 [a0, a1, some (.int x)] (.int x :: st) σ Q := Ev_step rfl
theorem s_M_laidByNight_20 : Ev sh 257 20 [a0, a1, a2] (.int y :: .int x :: st) σ Q = Ev sh 257 21 [a0, a1, a2] (.int (x <<< (y &&& 31)) :: st) σ Q := Ev_step rfl
theorem s_M_laidByNight_21 : Ev sh 257 21 [a0, a1, a2] (.int y :: .int x :: st) σ Q = Ev sh 257 22 [a0, a1, a2] (.int (x ||| y) :: st) σ Q := Ev_step rfl
theorem s_M_laidByNight_22 : Ev sh 257 22 [a0, a1, a2] (.int x :: st) σ Q = Ev sh 257 23 [zdrop2 a0, some (.int x), a2] st σ Q := Ev_step rfl
theorem s_M_laidByNight_23 : Ev sh 257 23 [a0, a1, some (.int x)] st σ Q = Ev sh 257 26 [a0, a1, some (.int (x + 1))] st σ Q := Ev_step rfl
theorem s_M_laidByNight_26 : Ev sh 257 26 [a0, a1, a2] st σ Q = Ev sh 257 4 [a0, a1, a2] st σ Q := Ev_step rfl
theorem s_M_laidByNight_29 : Ev sh 257 29 [a0, some (.int x), a2] st σ Q = Ev sh 257 30 [a0, some (.int x), a2] (.int x :: st) σ Q := Ev_step rfl
theorem s_M_laidByNight_30 : Ev sh 257 30 [a0, a1, a2] [.int x] σ Q = Q (some (.int x)) σ := Ev_ret rfl
theorem s_M_lacking_0 : Ev sh 258 0 [a0, a1, a2] st σ Q = Ev sh 258 1 [a0, a1, a2] (.int 0 :: st) σ Q := Ev_step rfl
theorem s_M_lacking_1 : Ev sh 258 1 [a0, a1, a2] (.int x :: st) σ Q = Ev sh 258 2 [zdrop2 a0, some (.int x), a2] st σ Q := Ev_step rfl
theorem s_M_lacking_2 : Ev sh 258 2 [a0, a1, a2] st σ Q = Ev sh 258 3 [a0, a1, a2] (.int 0 :: st) σ Q := Ev_step rfl
theorem s_M_lacking_3 : Ev sh 258 3 [a0, a1, a2] (.int x :: st) σ Q = Ev sh 258 4 [a0, zdrop2 a1, some (.int x)] st σ Q := Ev_step rfl
theorem s_M_lacking_4 : Ev sh 258 4 [a0, a1, some (.int x)] st σ Q = Ev sh 258 5 [a0, a1, some (.int x)] (.int x :: st) σ Q := Ev_step rfl
theorem s_M_lacking_5 : Ev sh 258 5 [a0, a1, a2] st σ Q = Ev sh 258 6 [a0, a1, a2] (.int 1 :: st) σ Q := Ev_step rfl
theorem s_M_lacking_6 : Ev sh 258 6 [a0, a1, a2] (.int y :: .int x :: st) σ Q = Ev sh 258 7 [a0, a1, a2] (.int (x + y) :: st) σ Q := Ev_step rfl
theorem s_M_lacking_7 : Ev sh 258 7 [some (.ref i), a1, a2] st σ Q = Ev sh 258 8 [some (.ref i), a1, a2] (.ref i :: st) σ Q := Ev_step rfl
theorem s_M_lacking_8 (h : sh i = 9) : Ev sh 258 8 [a0, a1, a2] (.ref i :: st) σ Q = Ev sh 258 11 [a0, a1, a2] (.int (σ i 7) :: st) σ Q := Ev_h h rfl
theorem s_M_lacking_11 : Ev sh 258 11 [a0, a1, a2] (.int y :: .int x :: st) σ Q = if y ≤ x then Ev sh 258 38 [a0, a1, a2] st σ Q else Ev sh 258 14 [a0, a1, a2] st σ Q := Ev_if rfl
theorem s_M_lacking_14 : Ev sh 258 14 [a0, some (.int x), a2] st σ Q = Ev sh 258 15 [a0, some (.int x), a2] (.int x :: st) σ Q := Ev_step rfl
theorem s_M_lacking_15 : Ev sh 258 15 [some (.ref i), a1, a2] st σ Q = Ev sh 258 16 [some (.ref i), a1, a2] (.ref i :: st) σ Q := Ev_step rfl
theorem s_M_lacking_16 : Ev sh 258 16 [a0, a1, some (.int x)] st σ Q = Ev sh 258 17 [a0, a1, some (.int x)] (.int x :: st) σ Q := Ev_step rfl
theorem s_M_lacking_17 (h : sh i1 = 9) : Ev sh 258 17 [a0, a1, a2] [.int x2, .ref i1, .int x0] σ Q = Ev sh 195 0 [some (.ref i1), some (.int x2)] [] σ (fun r s => Ev sh 258 20 [a0, a1, a2] (zpush r [.int x0]) s Q) := Ev_callh (zrecv_of (by decide) h) rfl
theorem s_M_lacking_20 : Ev sh 258 20 [a0, a1, a2] (.int x :: st) σ Q = if 0 ≤ x then Ev sh 258 29 [a0, a1, a2] st σ Q else Ev sh 258 23 [a0, a1, a2] st σ Q := Ev_if rfl
theorem s_M_lacking_23 : Ev sh 258 23 [a0, a1, a2] st σ Q = Ev sh 258 24 [a0, a1, a2] (.int 1 :: st) σ Q := Ev_step rfl
theorem s_M_lacking_24 : Ev sh 258 24 [a0, a1, some (.int x)] st σ Q = Ev sh 258 25 [a0, a1, some (.int x)] (.int x :: st) σ Q := Ev_step rfl
theorem s_M_lacking_25 : Ev sh 258 25 [a0, a1, a2] (.int y :: .int x :: st) σ Q = Ev sh 258 26 [a0, a1, a2] (.int (x <<< (y &&& 31)) :: st) σ Q := Ev_step rfl
theorem s_M_lacking_26 : Ev sh 258 26 [a0, a1, a2] st σ Q = Ev sh 258 30 [a0, a1, a2] st σ Q := Ev_step rfl
theorem s_M_lacking_29 : Ev sh 258 29 [a0, a1, a2] st σ Q = Ev sh 258 30 [a0, a1, a2] (.int 0 :: st) σ Q := Ev_step rfl
theorem s_M_lacking_30 : Ev sh 258 30 [a0, a1, a2] (.int y :: .int x :: st) σ Q = Ev sh 258 31 [a0, a1, a2] (.int (x ||| y) :: st) σ Q := Ev_step rfl
theorem s_M_lacking_31 : Ev sh 258 31 [a0, a1, a2] (.int x :: st) σ Q = Ev sh 258 32 [zdrop2 a0, some (.int x), a2] st σ Q := Ev_step rfl
theorem s_M_lacking_32 : Ev sh 258 32 [a0, a1, some (.int x)] st σ Q = Ev sh 258 35 [a0, a1, some (.int (x + 1))] st σ Q := Ev_step rfl
theorem s_M_lacking_35 : Ev sh 258 35 [a0, a1, a2] st σ Q = Ev sh 258 4 [a0, a1, a2] st σ Q := Ev_step rfl
theorem s_M_lacking_38 : Ev sh 258 38 [a0, some (.int x), a2] st σ Q = Ev sh 258 39 [a0, some (.int x), a2] (.int x :: st) σ Q := Ev_step rfl
theorem s_M_lacking_39 : Ev sh 258 39 [a0, a1, a2] [.int x] σ Q = Q (some (.int x)) σ := Ev_ret rfl
theorem s_M_count_0 : Ev sh 259 0 [a0, some (.int x)] st σ Q = Ev sh 259 1 [a0, some (.int x)] (.int x :: st) σ Q := Ev_step rfl
theorem s_M_count_1 : Ev sh 259 1 [a0, a1] st σ Q = Ev sh 259 3 [a0, a1] (.int 11 :: st) σ Q := Ev_step rfl
theorem s_M_count_3 : Ev sh 259 3 [a0, a1] st σ Q = Ev sh 259 5 [a0, a1] (.int 16 :: st) σ Q := Ev_step rfl
theorem s_M_count_5 : Ev sh 259 5 [a0, a1] [.int x2, .int x1, .int x0] σ Q = Ev sh 163 0 [some (.int x0), some (.int x1), some (.int x2)] [] σ (fun r s => Ev sh 259 8 [a0, a1] (zpush r []) s Q) := Ev_call rfl
theorem s_M_count_8 : Ev sh 259 8 [a0, a1] (.int x :: st) σ Q = if x = 0 then Ev sh 259 21 [a0, a1] st σ Q else Ev sh 259 11 [a0, a1] st σ Q := Ev_if rfl
theorem s_M_count_11 : Ev sh 259 11 [some (.ref i), a1] st σ Q = Ev sh 259 12 [some (.ref i), a1] (.ref i :: st) σ Q := Ev_step rfl
theorem s_M_count_12 (h : sh i = 9) : Ev sh 259 12 [a0, a1] (.ref i :: st) σ Q = Ev sh 259 15 [a0, a1] (.ref 1 :: st) σ Q := Ev_h h rfl
theorem s_M_count_15 : Ev sh 259 15 [a0, some (.int x)] st σ Q = Ev sh 259 16 [a0, some (.int x)] (.int x :: st) σ Q := Ev_step rfl
theorem s_M_count_16 : Ev sh 259 16 [a0, a1] st σ Q = Ev sh 259 18 [a0, a1] (.int 10 :: st) σ Q := Ev_step rfl
theorem s_M_count_18 : Ev sh 259 18 [a0, a1] (.int y :: .int x :: st) σ Q = Ev sh 259 19 [a0, a1] (.int (x - y) :: st) σ Q := Ev_step rfl
theorem s_M_count_19 (h : zin x (sh i) = true) : Ev sh 259 19 [a0, a1] (.int x :: .ref i :: st) σ Q = Ev sh 259 20 [a0, a1] (.int (σ i x.toNatClampNeg) :: st) σ Q := Ev_h h rfl
theorem s_M_count_20 : Ev sh 259 20 [a0, a1] [.int x] σ Q = Q (some (.int x)) σ := Ev_ret rfl
theorem s_M_count_21 : Ev sh 259 21 [a0, some (.int x)] st σ Q = Ev sh 259 22 [a0, some (.int x)] (.int x :: st) σ Q := Ev_step rfl
theorem s_M_count_22 : Ev sh 259 22 [a0, a1] (.int x :: st) σ Q = if x = 0 then Ev sh 259 68 [a0, a1] st σ Q else if x = 1 then Ev sh 259 73 [a0, a1] st σ Q else if x = 2 then Ev sh 259 78 [a0, a1] st σ Q else if x = 3 then Ev sh 259 83 [a0, a1] st σ Q else if x = 4 then Ev sh 259 88 [a0, a1] st σ Q else if x = 5 then Ev sh 259 93 [a0, a1] st σ Q else if x = 6 then Ev sh 259 98 [a0, a1] st σ Q else if x = 7 then Ev sh 259 103 [a0, a1] st σ Q else Ev sh 259 108 [a0, a1] st σ Q := (Ev_step (pc' := zsw x 108 [(0, 68), (1, 73), (2, 78), (3, 83), (4, 88), (5, 93), (6, 98), (7, 103)]) rfl).trans (by rw [Ev_swc, Ev_swc, Ev_swc, Ev_swc, Ev_swc, Ev_swc, Ev_swc, Ev_swc]; rfl)
theorem s_M_count_68 : Ev sh 259 68 [some (.ref i), a1] st σ Q = Ev sh 259 69 [some (.ref i), a1] (.ref i :: st) σ Q := Ev_step rfl
theorem s_M_count_69 (h : sh i = 9) : Ev sh 259 69 [a0, a1] (.ref i :: st) σ Q = Ev sh 259 72 [a0, a1] (.int (σ i 7) :: st) σ Q := Ev_h h rfl
theorem s_M_count_72 : Ev sh 259 72 [a0, a1] [.int x] σ Q = Q (some (.int x)) σ := Ev_ret rfl
theorem s_M_count_73 : Ev sh 259 73 [some (.ref i), a1] st σ Q = Ev sh 259 74 [some (.ref i), a1] (.ref i :: st) σ Q := Ev_step rfl
theorem s_M_count_74 (h : sh i = 9) : Ev sh 259 74 [a0, a1] (.ref i :: st) σ Q = Ev sh 259 77 [a0, a1] (.int (σ i 8) :: st) σ Q := Ev_h h rfl
theorem s_M_count_77 : Ev sh 259 77 [a0, a1] [.int x] σ Q = Q (some (.int x)) σ := Ev_ret rfl
theorem s_M_count_78 : Ev sh 259 78 [some (.ref i), a1] st σ Q = Ev sh 259 79 [some (.ref i), a1] (.ref i :: st) σ Q := Ev_step rfl
theorem s_M_count_79 (h : sh i = 9) : Ev sh 259 79 [a0, a1] (.ref i :: st) σ Q = Ev sh 259 82 [a0, a1] (.int (σ i 9) :: st) σ Q := Ev_h h rfl
theorem s_M_count_82 : Ev sh 259 82 [a0, a1] [.int x] σ Q = Q (some (.int x)) σ := Ev_ret rfl
theorem s_M_count_83 : Ev sh 259 83 [some (.ref i), a1] st σ Q = Ev sh 259 84 [some (.ref i), a1] (.ref i :: st) σ Q := Ev_step rfl
theorem s_M_count_84 (h : sh i0 = 9) : Ev sh 259 84 [a0, a1] [.ref i0] σ Q = Ev sh 246 0 [some (.ref i0), none, none] [] σ (fun r s => Ev sh 259 87 [a0, a1] (zpush r []) s Q) := Ev_callh (zrecv_of (by decide) h) rfl
theorem s_M_count_87 : Ev sh 259 87 [a0, a1] [.int x] σ Q = Q (some (.int x)) σ := Ev_ret rfl
theorem s_M_count_88 : Ev sh 259 88 [some (.ref i), a1] st σ Q = Ev sh 259 89 [some (.ref i), a1] (.ref i :: st) σ Q := Ev_step rfl
theorem s_M_count_89 (h : sh i0 = 9) : Ev sh 259 89 [a0, a1] [.ref i0] σ Q = Ev sh 257 0 [some (.ref i0), none, none] [] σ (fun r s => Ev sh 259 92 [a0, a1] (zpush r []) s Q) := Ev_callh (zrecv_of (by decide) h) rfl
theorem s_M_count_92 : Ev sh 259 92 [a0, a1] [.int x] σ Q = Q (some (.int x)) σ := Ev_ret rfl
theorem s_M_count_93 : Ev sh 259 93 [some (.ref i), a1] st σ Q = Ev sh 259 94 [some (.ref i), a1] (.ref i :: st) σ Q := Ev_step rfl
theorem s_M_count_94 (h : sh i0 = 9) : Ev sh 259 94 [a0, a1] [.ref i0] σ Q = Ev sh 258 0 [some (.ref i0), none, none] [] σ (fun r s => Ev sh 259 97 [a0, a1] (zpush r []) s Q) := Ev_callh (zrecv_of (by decide) h) rfl
theorem s_M_count_97 : Ev sh 259 97 [a0, a1] [.int x] σ Q = Q (some (.int x)) σ := Ev_ret rfl
theorem s_M_count_98 : Ev sh 259 98 [some (.ref i), a1] st σ Q = Ev sh 259 99 [some (.ref i), a1] (.ref i :: st) σ Q := Ev_step rfl
theorem s_M_count_99 (h : sh i = 9) : Ev sh 259 99 [a0, a1] (.ref i :: st) σ Q = Ev sh 259 102 [a0, a1] (.int (σ i 25) :: st) σ Q := Ev_h h rfl
theorem s_M_count_102 : Ev sh 259 102 [a0, a1] [.int x] σ Q = Q (some (.int x)) σ := Ev_ret rfl
theorem s_M_count_103 : Ev sh 259 103 [some (.ref i), a1] st σ Q = Ev sh 259 104 [some (.ref i), a1] (.ref i :: st) σ Q := Ev_step rfl
theorem s_M_count_104 (h : sh i = 9) : Ev sh 259 104 [a0, a1] (.ref i :: st) σ Q = Ev sh 259 107 [a0, a1] (.int (σ i 14) :: st) σ Q := Ev_h h rfl
theorem s_M_count_107 : Ev sh 259 107 [a0, a1] [.int x] σ Q = Q (some (.int x)) σ := Ev_ret rfl
theorem s_M_count_108 : Ev sh 259 108 [a0, a1] st σ Q = Ev sh 259 110 [a0, a1] (.int (-9) :: st) σ Q := Ev_step rfl
theorem s_M_count_110 : Ev sh 259 110 [a0, a1] [.int x] σ Q = Q (some (.int x)) σ := Ev_ret rfl
end
