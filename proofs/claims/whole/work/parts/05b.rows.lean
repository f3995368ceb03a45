section
variable {sh : Nat → Nat} {st : List Value} {σ : zG} {Q : Option Value → zG → Prop} {a0 a1 a2 a3 a4 a5 a6 a7 a8 a9 a10 a11 a12 : Option Value} {x y : Int32} {u v : Int64} {i : Nat} {x0 x1 x2 x3 x4 x5 x6 x7 x8 : Int32} {i0 i1 i2 i3 i4 i5 i6 i7 i8 : Nat} {u0 u1 u2 u3 u4 u5 u6 u7 u8 : Int64}

theorem s_Stones_become_0 : Ev sh 63 0 [a0, a1, a2] st σ Q = Ev sh 63 1 [a0, a1, a2] (.int 0 :: st) σ Q := Ev_step rfl
theorem s_Stones_become_1 : Ev sh 63 1 [a0, a1, a2] (.int x :: st) σ Q = Ev sh 63 2 [a0, zdrop2 a1, some (.int x)] st σ Q := Ev_step rfl
theorem s_Stones_become_2 : Ev sh 63 2 [a0, a1, some (.int x)] st σ Q = Ev sh 63 3 [a0, a1, some (.int x)] (.int x :: st) σ Q := Ev_step rfl
theorem s_Stones_become_3 : Ev sh 63 3 [a0, some (.ref i), a2] st σ Q = Ev sh 63 4 [a0, some (.ref i), a2] (.ref i :: st) σ Q := Ev_step rfl
theorem s_Stones_become_4 (h : sh i = 7) : Ev sh 63 4 [a0, a1, a2] (.ref i :: st) σ Q = Ev sh 63 7 [a0, a1, a2] (.int (σ i 3) :: st) σ Q := Ev_h h rfl
theorem s_Stones_become_7 : Ev sh 63 7 [a0, a1, a2] (.int y :: .int x :: st) σ Q = if y ≤ x then Ev sh 63 58 [a0, a1, a2] st σ Q else Ev sh 63 10 [a0, a1, a2] st σ Q := Ev_if rfl
theorem s_Stones_become_10 : Ev sh 63 10 [a0, a1, some (.int x)] st σ Q = Ev sh 63 11 [a0, a1, some (.int x)] (.int x :: st) σ Q := Ev_step rfl
theorem s_Stones_become_11 : Ev sh 63 11 [a0, a1, a2] st σ Q = Ev sh 63 13 [a0, a1, a2] (.int 13 :: st) σ Q := Ev_step rfl
theorem s_Stones_become_13 : Ev sh 63 13 [a0, a1, a2] (.int y :: .int x :: st) σ Q = if y ≤ x then Ev sh 63 58 [a0, a1, a2] st σ Q else Ev sh 63 16 [a0, a1, a2] st σ Q := Ev_if rfl
theorem s_Stones_become_16 : Ev sh 63 16 [some (.ref i), a1, a2] st σ Q = Ev sh 63 17 [some (.ref i), a1, a2] (.ref i :: st) σ Q := Ev_step rfl
theorem s_Stones_become_17 (h : sh i = 7) : Ev sh 63 17 [a0, a1, a2] (.ref i :: st) σ Q = Ev sh 63 20 [a0, a1, a2] (.ref (i + 1) :: st) σ Q := Ev_h h rfl
theorem s_Stones_become_20 : Ev sh 63 20 [a0, a1, some (.int x)] st σ Q = Ev sh 63 21 [a0, a1, some (.int x)] (.int x :: st) σ Q := Ev_step rfl
theorem s_Stones_become_21 : Ev sh 63 21 [a0, some (.ref i), a2] st σ Q = Ev sh 63 22 [a0, some (.ref i), a2] (.ref i :: st) σ Q := Ev_step rfl
theorem s_Stones_become_22 (h : sh i = 7) : Ev sh 63 22 [a0, a1, a2] (.ref i :: st) σ Q = Ev sh 63 25 [a0, a1, a2] (.ref (i + 1) :: st) σ Q := Ev_h h rfl
theorem s_Stones_become_25 : Ev sh 63 25 [a0, a1, some (.int x)] st σ Q = Ev sh 63 26 [a0, a1, some (.int x)] (.int x :: st) σ Q := Ev_step rfl
theorem s_Stones_become_26 (h : zin x (sh i) = true) : Ev sh 63 26 [a0, a1, a2] (.int x :: .ref i :: st) σ Q = Ev sh 63 27 [a0, a1, a2] (.int (σ i x.toNatClampNeg) :: st) σ Q := Ev_h h rfl
theorem s_Stones_become_27 (h : zin x (sh i) = true) : Ev sh 63 27 [a0, a1, a2] (.int y :: .int x :: .ref i :: st) σ Q = Ev sh 63 28 [a0, a1, a2] st (zup σ i x.toNatClampNeg y) Q := Ev_h h rfl
theorem s_Stones_become_28 : Ev sh 63 28 [some (.ref i), a1, a2] st σ Q = Ev sh 63 29 [some (.ref i), a1, a2] (.ref i :: st) σ Q := Ev_step rfl
theorem s_Stones_become_29 (h : sh i = 7) : Ev sh 63 29 [a0, a1, a2] (.ref i :: st) σ Q = Ev sh 63 32 [a0, a1, a2] (.ref (i + 2) :: st) σ Q := Ev_h h rfl
theorem s_Stones_become_32 : Ev sh 63 32 [a0, a1, some (.int x)] st σ Q = Ev sh 63 33 [a0, a1, some (.int x)] (.int x :: st) σ Q := Ev_step rfl
theorem s_Stones_become_33 : Ev sh 63 33 [a0, some (.ref i), a2] st σ Q = Ev sh 63 34 [a0, some (.ref i), a2] (.ref i :: st) σ Q := Ev_step rfl
theorem s_Stones_become_34 (h : sh i = 7) : Ev sh 63 34 [a0, a1, a2] (.ref i :: st) σ Q = Ev sh 63 37 [a0, a1, a2] (.ref (i + 2) :: st) σ Q := Ev_h h rfl
theorem s_Stones_become_37 : Ev sh 63 37 [a0, a1, some (.int x)] st σ Q = Ev sh 63 38 [a0, a1, some (.int x)] (.int x :: st) σ Q := Ev_step rfl
theorem s_Stones_become_38 (h : zin x (sh i) = true) : Ev sh 63 38 [a0, a1, a2] (.int x :: .ref i :: st) σ Q = Ev sh 63 39 [a0, a1, a2] (.int (σ i x.toNatClampNeg) :: st) σ Q := Ev_h h rfl
theorem s_Stones_become_39 (h : zin x (sh i) = true) : Ev sh 63 39 [a0, a1, a2] (.int y :: .int x :: .ref i :: st) σ Q = Ev sh 63 40 [a0, a1, a2] st (zup σ i x.toNatClampNeg y) Q := Ev_h h rfl
theorem s_Stones_become_40 : Ev sh 63 40 [some (.ref i), a1, a2] st σ Q = Ev sh 63 41 [some (.ref i), a1, a2] (.ref i :: st) σ Q := Ev_step rfl
theorem s_Stones_become_41 (h : sh i = 7) : Ev sh 63 41 [a0, a1, a2] (.ref i :: st) σ Q = Ev sh 63 44 [a0, a1, a2] (.ref (i + 3) :: st) σ Q := Ev_h h rfl
theorem s_Stones_become_44 : Ev sh 63 44 [a0, a1, some (.int x)] st σ Q = Ev sh 63 45 [a0, a1, some (.int x)] (.int x :: st) σ Q := Ev_step rfl
theorem s_Stones_become_45 : Ev sh 63 45 [a0, some (.ref i), a2] st σ Q = Ev sh 63 46 [a0, some (.ref i), a2] (.ref i :: st) σ Q := Ev_step rfl
theorem s_Stones_become_46 (h : sh i = 7) : Ev sh 63 46 [a0, a1, a2] (.ref i :: st) σ Q = Ev sh 63 49 [a0, a1, a2] (.ref (i + 3) :: st) σ Q := Ev_h h rfl
theorem s_Stones_become_49 : Ev sh 63 49 [a0, a1, some (.int x)] st σ Q = Ev sh 63 50 [a0, a1, some (.int x)] (.int x :: st) σ Q := Ev_step rfl
theorem s_Stones_become_50 (h : zin x (sh i) = true) : Ev sh 63 50 [a0, a1, a2] (.int x :: .ref i :: st) σ Q = Ev sh 63 51 [a0, a1, a2] (.int (σ i x.toNatClampNeg) :: st) σ Q := Ev_h h rfl
theorem s_Stones_become_51 (h : zin x (sh i) = true) : Ev sh 63 51 [a0, a1, a2] (.int y :: .int x :: .ref i :: st) σ Q = Ev sh 63 52 [a0, a1, a2] st (zup σ i x.toNatClampNeg y) Q := Ev_h h rfl
theorem s_Stones_become_52 : Ev sh 63 52 [a0, a1, some (.int x)] st σ Q = Ev sh 63 55 [a0, a1, some (.int (x + 1))] st σ Q := Ev_step rfl
theorem s_Stones_become_55 : Ev sh 63 55 [a0, a1, a2] st σ Q = Ev sh 63 2 [a0, a1, a2] st σ Q := Ev_step rfl
theorem s_Stones_become_58 : Ev sh 63 58 [some (.ref i), a1, a2] st σ Q = Ev sh 63 59 [some (.ref i), a1, a2] (.ref i :: st) σ Q := Ev_step rfl
theorem s_Stones_become_59 : Ev sh 63 59 [a0, some (.ref i), a2] st σ Q = Ev sh 63 60 [a0, some (.ref i), a2] (.ref i :: st) σ Q := Ev_step rfl
theorem s_Stones_become_60 (h : sh i = 7) : Ev sh 63 60 [a0, a1, a2] (.ref i :: st) σ Q = Ev sh 63 63 [a0, a1, a2] (.int (σ i 3) :: st) σ Q := Ev_h h rfl
theorem s_Stones_become_63 (h : sh i = 7) : Ev sh 63 63 [a0, a1, a2] (.int x :: .ref i :: st) σ Q = Ev sh 63 66 [a0, a1, a2] st (zup σ i 3 x) Q := Ev_h h rfl
theorem s_Stones_become_66 : Ev sh 63 66 [a0, a1, a2] [] σ Q = Q none σ := Ev_ret rfl
theorem s_Stones_add_0 : Ev sh 64 0 [some (.ref i), a1, a2, a3] st σ Q = Ev sh 64 1 [some (.ref i), a1, a2, a3] (.ref i :: st) σ Q := Ev_step rfl
theorem s_Stones_add_1 (h : sh i = 7) : Ev sh 64 1 [a0, a1, a2, a3] (.ref i :: st) σ Q = Ev sh 64 4 [a0, a1, a2, a3] (.int (σ i 3) :: st) σ Q := Ev_h h rfl
theorem s_Stones_add_4 : Ev sh 64 4 [a0, a1, a2, a3] (.int x :: st) σ Q = if x < 0 then Ev sh 64 16 [a0, a1, a2, a3] st σ Q else Ev sh 64 7 [a0, a1, a2, a3] st σ Q := Ev_if rfl
theorem s_Stones_add_7 : Ev sh 64 7 [some (.ref i), a1, a2, a3] st σ Q = Ev sh 64 8 [some (.ref i), a1, a2, a3] (.ref i :: st) σ Q := Ev_step rfl
theorem s_Stones_add_8 (h : sh i = 7) : Ev sh 64 8 [a0, a1, a2, a3] (.ref i :: st) σ Q = Ev sh 64 11 [a0, a1, a2, a3] (.int (σ i 3) :: st) σ Q := Ev_h h rfl
theorem s_Stones_add_11 : Ev sh 64 11 [a0, a1, a2, a3] st σ Q = Ev sh 64 13 [a0, a1, a2, a3] (.int 13 :: st) σ Q := Ev_step rfl
theorem s_Stones_add_13 : Ev sh 64 13 [a0, a1, a2, a3] (.int y :: .int x :: st) σ Q = if x < y then Ev sh 64 17 [a0, a1, a2, a3] st σ Q else Ev sh 64 16 [a0, a1, a2, a3] st σ Q := Ev_if rfl
theorem s_Stones_add_16 : Ev sh 64 16 [a0, a1, a2, a3] [] σ Q = Q none σ := Ev_ret rfl
theorem s_Stones_add_17 : Ev sh 64 17 [some (.ref i), a1, a2, a3] st σ Q = Ev sh 64 18 [some (.ref i), a1, a2, a3] (.ref i :: st) σ Q := Ev_step rfl
theorem s_Stones_add_18 (h : sh i = 7) : Ev sh 64 18 [a0, a1, a2, a3] (.ref i :: st) σ Q = Ev sh 64 21 [a0, a1, a2, a3] (.ref (i + 1) :: st) σ Q := Ev_h h rfl
theorem s_Stones_add_21 : Ev sh 64 21 [some (.ref i), a1, a2, a3] st σ Q = Ev sh 64 22 [some (.ref i), a1, a2, a3] (.ref i :: st) σ Q := Ev_step rfl
theorem s_Stones_add_22 (h : sh i = 7) : Ev sh 64 22 [a0, a1, a2, a3] (.ref i :: st) σ Q = Ev sh 64 25 [a0, a1, a2, a3] (.int (σ i 3) :: st) σ Q := Ev_h h rfl
theorem s_Stones_add_25 : Ev sh 64 25 [a0, some (.int x), a2, a3] st σ Q = Ev sh 64 26 [a0, some (.int x), a2, a3] (.int x :: st) σ Q := Ev_step rfl
theorem s_Stones_add_26 (h : zin x (sh i) = true) : Ev sh 64 26 [a0, a1, a2, a3] (.int y :: .int x :: .ref i :: st) σ Q = Ev sh 64 27 [a0, a1, a2, a3] st (zup σ i x.toNatClampNeg y) Q := Ev_h h rfl
theorem s_Stones_add_27 : Ev sh 64 27 [some (.ref i), a1, a2, a3] st σ Q = Ev sh 64 28 [some (.ref i), a1, a2, a3] (.ref i :: st) σ Q := Ev_step rfl
theorem s_Stones_add_28 (h : sh i = 7) : Ev sh 64 28 [a0, a1, a2, a3] (.ref i :: st) σ Q = Ev sh 64 31 [a0, a1, a2, a3] (.ref (i + 2) :: st) σ Q := Ev_h h rfl
theorem s_Stones_add_31 : Ev sh 64 31 [some (.ref i), a1, a2, a3] st σ Q = Ev sh 64 32 [some (.ref i), a1, a2, a3] (.ref i :: st) σ Q := Ev_step rfl
theorem s_Stones_add_32 (h : sh i = 7) : Ev sh 64 32 [a0, a1, a2, a3] (.ref i :: st) σ Q = Ev sh 64 35 [a0, a1, a2, a3] (.int (σ i 3) :: st) σ Q := Ev_h h rfl
theorem s_Stones_add_35 : Ev sh 64 35 [a0, a1, some (.int x), a3] st σ Q = Ev sh 64 36 [a0, a1, some (.int x), a3] (.int x :: st) σ Q := Ev_step rfl
theorem s_Stones_add_36 (h : zin x (sh i) = true) : Ev sh 64 36 [a0, a1, a2, a3] (.int y :: .int x :: .ref i :: st) σ Q = Ev sh 64 37 [a0, a1, a2, a3] st (zup σ i x.toNatClampNeg y) Q := Ev_h h rfl
theorem s_Stones_add_37 : Ev sh 64 37 [some (.ref i), a1, a2, a3] st σ Q = Ev sh 64 38 [some (.ref i), a1, a2, a3] (.ref i :: st) σ Q := Ev_step rfl
theorem s_Stones_add_38 (h : sh i = 7) : Ev sh 64 38 [a0, a1, a2, a3] (.ref i :: st) σ Q = Ev sh 64 41 [a0, a1, a2, a3] (.ref (i + 3) :: st) σ Q := Ev_h h rfl
theorem s_Stones_add_41 : Ev sh 64 41 [some (.ref i), a1, a2, a3] st σ Q = Ev sh 64 42 [some (.ref i), a1, a2, a3] (.ref i :: st) σ Q := Ev_step rfl
theorem s_Stones_add_42 (h : sh i = 7) : Ev sh 64 42 [a0, a1, a2, a3] (.ref i :: st) σ Q = Ev sh 64 45 [a0, a1, a2, a3] (.int (σ i 3) :: st) σ Q := Ev_h h rfl
theorem s_Stones_add_45 : Ev sh 64 45 [a0, a1, a2, some (.int x)] st σ Q = Ev sh 64 46 [a0, a1, a2, some (.int x)] (.int x :: st) σ Q := Ev_step rfl
theorem s_Stones_add_46 (h : zin x (sh i) = true) : Ev sh 64 46 [a0, a1, a2, a3] (.int y :: .int x :: .ref i :: st) σ Q = Ev sh 64 47 [a0, a1, a2, a3] st (zup σ i x.toNatClampNeg y) Q := Ev_h h rfl
theorem s_Stones_add_47 : Ev sh 64 47 [some (.ref i), a1, a2, a3] st σ Q = Ev sh 64 48 [some (.ref i), a1, a2, a3] (.ref i :: st) σ Q := Ev_step rfl
theorem s_Stones_add_48 : Ev sh 64 48 [a0, a1, a2, a3] (.ref i :: st) σ Q = Ev sh 64 49 [a0, a1, a2, a3] (.ref i :: .ref i :: st) σ Q := Ev_step rfl
theorem s_Stones_add_49 (h : sh i = 7) : Ev sh 64 49 [a0, a1, a2, a3] (.ref i :: st) σ Q = Ev sh 64 52 [a0, a1, a2, a3] (.int (σ i 3) :: st) σ Q := Ev_h h rfl
theorem s_Stones_add_52 : Ev sh 64 52 [a0, a1, a2, a3] st σ Q = Ev sh 64 53 [a0, a1, a2, a3] (.int 1 :: st) σ Q := Ev_step rfl
theorem s_Stones_add_53 : Ev sh 64 53 [a0, a1, a2, a3] (.int y :: .int x :: st) σ Q = Ev sh 64 54 [a0, a1, a2, a3] (.int (x + y) :: st) σ Q := Ev_step rfl
theorem s_Stones_add_54 (h : sh i = 7) : Ev sh 64 54 [a0, a1, a2, a3] (.int x :: .ref i :: st) σ Q = Ev sh 64 57 [a0, a1, a2, a3] st (zup σ i 3 x) Q := Ev_h h rfl
theorem s_Stones_add_57 : Ev sh 64 57 [a0, a1, a2, a3] [] σ Q = Q none σ := Ev_ret rfl
theorem s_Stones_remake_0 : Ev sh 65 0 [some (.ref i), a1, a2, a3] st σ Q = Ev sh 65 1 [some (.ref i), a1, a2, a3] (.ref i :: st) σ Q := Ev_step rfl
theorem s_Stones_remake_1 : Ev sh 65 1 [a0, some (.int x), a2, a3] st σ Q = Ev sh 65 2 [a0, some (.int x), a2, a3] (.int x :: st) σ Q := Ev_step rfl
theorem s_Stones_remake_2 (h : sh i0 = 7) : Ev sh 65 2 [a0, a1, a2, a3] [.int x1, .ref i0] σ Q = Ev sh 72 0 [some (.ref i0), some (.int x1)] [] σ (fun r s => Ev sh 65 5 [a0, a1, a2, a3] (zpush r []) s Q) := Ev_callh (zrecv_of (by decide) h) rfl
theorem s_Stones_remake_5 : Ev sh 65 5 [a0, a1, a2, a3] (.int x :: st) σ Q = if x = 0 then Ev sh 65 22 [a0, a1, a2, a3] st σ Q else Ev sh 65 8 [a0, a1, a2, a3] st σ Q := Ev_if rfl
theorem s_Stones_remake_8 : Ev sh 65 8 [some (.ref i), a1, a2, a3] st σ Q = Ev sh 65 9 [some (.ref i), a1, a2, a3] (.ref i :: st) σ Q := Ev_step rfl
theorem s_Stones_remake_9 (h : sh i = 7) : Ev sh 65 9 [a0, a1, a2, a3] (.ref i :: st) σ Q = Ev sh 65 12 [a0, a1, a2, a3] (.ref (i + 1) :: st) σ Q := Ev_h h rfl
theorem s_Stones_remake_12 : Ev sh 65 12 [a0, some (.int x), a2, a3] st σ Q = Ev sh 65 13 [a0, some (.int x), a2, a3] (.int x :: st) σ Q := Ev_step rfl
theorem s_Stones_remake_13 : Ev sh 65 13 [a0, a1, some (.int x), a3] st σ Q = Ev sh 65 14 [a0, a1, some (.int x), a3] (.int x :: st) σ Q := Ev_step rfl
theorem s_Stones_remake_14 (h : zin x (sh i) = true) : Ev sh 65 14 [a0, a1, a2, a3] (.int y :: .int x :: .ref i :: st) σ Q = Ev sh 65 15 [a0, a1, a2, a3] st (zup σ i x.toNatClampNeg y) Q := Ev_h h rfl
theorem s_Stones_remake_15 : Ev sh 65 15 [some (.ref i), a1, a2, a3] st σ Q = Ev sh 65 16 [some (.ref i), a1, a2, a3] (.ref i :: st) σ Q := Ev_step rfl
theorem s_Stones_remake_16 (h : sh i = 7) : Ev sh 65 16 [a0, a1, a2, a3] (.ref i :: st) σ Q = Ev sh 65 19 [a0, a1, a2, a3] (.ref (i + 2) :: st) σ Q := Ev_h h rfl
theorem s_Stones_remake_19 : Ev sh 65 19 [a0, some (.int x), a2, a3] st σ Q = Ev sh 65 20 [a0, some (.int x), a2, a3] (.int x :: st) σ Q := Ev_step rfl
theorem s_Stones_remake_20 : Ev sh 65 20 [a0, a1, a2, some (.int x)] st σ Q = Ev sh 65 21 [a0, a1, a2, some (.int x)] (.int x :: st) σ Q := Ev_step rfl
theorem s_Stones_remake_21 (h : zin x (sh i) = true) : Ev sh 65 21 [a0, a1, a2, a3] (.int y :: .int x :: .ref i :: st) σ Q = Ev sh 65 22 [a0, a1, a2, a3] st (zup σ i x.toNatClampNeg y) Q := Ev_h h rfl
theorem s_Stones_remake_22 : Ev sh 65 22 [a0, a1, a2, a3] [] σ Q = Q none σ := Ev_ret rfl
theorem s_Stones_creditTo_0 : Ev sh 66 0 [some (.ref i), a1, a2] st σ Q = Ev sh 66 1 [some (.ref i), a1, a2] (.ref i :: st) σ Q := Ev_step rfl
theorem s_Stones_creditTo_1 : Ev sh 66 1 [a0, some (.int x), a2] st σ Q = Ev sh 66 2 [a0, some (.int x), a2] (.int x :: st) σ Q := Ev_step rfl
theorem s_Stones_creditTo_2 (h : sh i0 = 7) : Ev sh 66 2 [a0, a1, a2] [.int x1, .ref i0] σ Q = Ev sh 72 0 [some (.ref i0), some (.int x1)] [] σ (fun r s => Ev sh 66 5 [a0, a1, a2] (zpush r []) s Q) := Ev_callh (zrecv_of (by decide) h) rfl
theorem s_Stones_creditTo_5 : Ev sh 66 5 [a0, a1, a2] (.int x :: st) σ Q = if x = 0 then Ev sh 66 15 [a0, a1, a2] st σ Q else Ev sh 66 8 [a0, a1, a2] st σ Q := Ev_if rfl
theorem s_Stones_creditTo_8 : Ev sh 66 8 [some (.ref i), a1, a2] st σ Q = Ev sh 66 9 [some (.ref i), a1, a2] (.ref i :: st) σ Q := Ev_step rfl
theorem s_Stones_creditTo_9 (h : sh i = 7) : Ev sh 66 9 [a0, a1, a2] (.ref i :: st) σ Q = Ev sh 66 12 [a0, a1, a2] (.ref (i + 3) :: st) σ Q := Ev_h h rfl
theorem s_Stones_creditTo_12 : Ev sh 66 12 [a0, some (.int x), a2] st σ Q = Ev sh 66 13 [a0, some (.int x), a2] (.int x :: st) σ Q := Ev_step rfl
theorem s_Stones_creditTo_13 : Ev sh 66 13 [a0, a1, some (.int x)] st σ Q = Ev sh 66 14 [a0, a1, some (.int x)] (.int x :: st) σ Q := Ev_step rfl
theorem s_Stones_creditTo_14 (h : zin x (sh i) = true) : Ev sh 66 14 [a0, a1, a2] (.int y :: .int x :: .ref i :: st) σ Q = Ev sh 66 15 [a0, a1, a2] st (zup σ i x.toNatClampNeg y) Q := Ev_h h rfl
theorem s_Stones_creditTo_15 : Ev sh 66 15 [a0, a1, a2] [] σ Q = Q none σ := Ev_ret rfl
theorem s_Stones_takeAway_0 : Ev sh 67 0 [some (.ref i), a1] st σ Q = Ev sh 67 1 [some (.ref i), a1] (.ref i :: st) σ Q := Ev_step rfl
theorem s_Stones_takeAway_1 : Ev sh 67 1 [some (.ref i), a1] st σ Q = Ev sh 67 2 [some (.ref i), a1] (.ref i :: st) σ Q := Ev_step rfl
theorem s_Stones_takeAway_2 (h : sh i = 7) : Ev sh 67 2 [a0, a1] (.ref i :: st) σ Q = Ev sh 67 5 [a0, a1] (.int (σ i 3) :: st) σ Q := Ev_h h rfl
theorem s_Stones_takeAway_5 : Ev sh 67 5 [a0, some (.int x)] st σ Q = Ev sh 67 6 [a0, some (.int x)] (.int x :: st) σ Q := Ev_step rfl
theorem s_Stones_takeAway_6 : Ev sh 67 6 [a0, a1] (.int y :: .int x :: st) σ Q = Ev sh 67 7 [a0, a1] (.int (x - y) :: st) σ Q := Ev_step rfl
theorem s_Stones_takeAway_7 : Ev sh 67 7 [a0, a1] st σ Q = Ev sh 67 8 [a0, a1] (.int 0 :: st) σ Q := Ev_step rfl
theorem s_Stones_takeAway_8 : Ev sh 67 8 [a0, a1] [.int y, .int x, .ref i0] σ Q = Ev sh 67 11 [a0, a1] [.int (if x < y then y else x), .ref i0] σ Q := Ev_step rfl
theorem s_Stones_takeAway_11 (h : sh i = 7) : Ev sh 67 11 [a0, a1] (.int x :: .ref i :: st) σ Q = Ev sh 67 14 [a0, a1] st (zup σ i 3 x) Q := Ev_h h rfl
theorem s_Stones_takeAway_14 : Ev sh 67 14 [a0, a1] [] σ Q = Q none σ := Ev_ret rfl
theorem s_Stones_isLastOfOther_0 : Ev sh 68 0 [some (.ref i), a1, a2, a3] st σ Q = Ev sh 68 1 [some (.ref i), a1, a2, a3] (.ref i :: st) σ Q := Ev_step rfl
theorem s_Stones_isLastOfOther_1 (h : sh i = 7) : Ev sh 68 1 [a0, a1, a2, a3] (.ref i :: st) σ Q = Ev sh 68 4 [a0, a1, a2, a3] (.int (σ i 3) :: st) σ Q := Ev_h h rfl
theorem s_Stones_isLastOfOther_4 : Ev sh 68 4 [a0, a1, a2, a3] st σ Q = Ev sh 68 5 [a0, a1, a2, a3] (.int 1 :: st) σ Q := Ev_step rfl
theorem s_Stones_isLastOfOther_5 : Ev sh 68 5 [a0, a1, a2, a3] (.int y :: .int x :: st) σ Q = Ev sh 68 6 [a0, a1, a2, a3] (.int (x - y) :: st) σ Q := Ev_step rfl
theorem s_Stones_isLastOfOther_6 : Ev sh 68 6 [a0, a1, a2, a3] (.int x :: st) σ Q = Ev sh 68 7 [a0, a1, zdrop2 a2, some (.int x)] st σ Q := Ev_step rfl
theorem s_Stones_isLastOfOther_7 : Ev sh 68 7 [a0, a1, a2, some (.int x)] st σ Q = Ev sh 68 8 [a0, a1, a2, some (.int x)] (.int x :: st) σ Q := Ev_step rfl
theorem s_Stones_isLastOfOther_8 : Ev sh 68 8 [a0, a1, a2, a3] (.int x :: st) σ Q = if x < 0 then Ev sh 68 41 [a0, a1, a2, a3] st σ Q else Ev sh 68 11 [a0, a1, a2, a3] st σ Q := Ev_if rfl
theorem s_Stones_isLastOfOther_11 : Ev sh 68 11 [a0, a1, a2, some (.int x)] st σ Q = Ev sh 68 12 [a0, a1, a2, some (.int x)] (.int x :: st) σ Q := Ev_step rfl
theorem s_Stones_isLastOfOther_12 : Ev sh 68 12 [a0, a1, a2, a3] st σ Q = Ev sh 68 14 [a0, a1, a2, a3] (.int 13 :: st) σ Q := Ev_step rfl
theorem s_Stones_isLastOfOther_14 : Ev sh 68 14 [a0, a1, a2, a3] (.int y :: .int x :: st) σ Q = if y ≤ x then Ev sh 68 41 [a0, a1, a2, a3] st σ Q else Ev sh 68 17 [a0, a1, a2, a3] st σ Q := Ev_if rfl
theorem s_Stones_isLastOfOther_17 : Ev sh 68 17 [some (.ref i), a1, a2, a3] st σ Q = Ev sh 68 18 [some (.ref i), a1, a2, a3] (.ref i :: st) σ Q := Ev_step rfl
theorem s_Stones_isLastOfOther_18 (h : sh i = 7) : Ev sh 68 18 [a0, a1, a2, a3] (.ref i :: st) σ Q = Ev sh 68 21 [a0, a1, a2, a3] (.ref (i + 3) :: st) σ Q := Ev_h h rfl
theorem s_Stones_isLastOfOther_21 : Ev sh 68 21 [a0, a1, a2, some (.int x)] st σ Q = Ev sh 68 22 [a0, a1, a2, some (.int x)] (.int x :: st) σ Q := Ev_step rfl
theorem s_Stones_isLastOfOther_22 (h : zin x (sh i) = true) : Ev sh 68 22 [a0, a1, a2, a3] (.int x :: .ref i :: st) σ Q = Ev sh 68 23 [a0, a1, a2, a3] (.int (σ i x.toNatClampNeg) :: st) σ Q := Ev_h h rfl
theorem s_Stones_isLastOfOther_23 : Ev sh 68 23 [a0, some (.int x), a2, a3] st σ Q = Ev sh 68 24 [a0, some (.int x), a2, a3] (.int x :: st) σ Q := Ev_step rfl
theorem s_Stones_isLastOfOther_24 : Ev sh 68 24 [a0, a1, a2, a3] (.int y :: .int x :: st) σ Q = if x = y then Ev sh 68 41 [a0, a1, a2, a3] st σ Q else Ev sh 68 27 [a0, a1, a2, a3] st σ Q := Ev_if rfl
theorem s_Stones_isLastOfOther_27 : Ev sh 68 27 [some (.ref i), a1, a2, a3] st σ Q = Ev sh 68 28 [some (.ref i), a1, a2, a3] (.ref i :: st) σ Q := Ev_step rfl
theorem s_Stones_isLastOfOther_28 (h : sh i = 7) : Ev sh 68 28 [a0, a1, a2, a3] (.ref i :: st) σ Q = Ev sh 68 31 [a0, a1, a2, a3] (.ref (i + 1) :: st) σ Q := Ev_h h rfl
theorem s_Stones_isLastOfOther_31 : Ev sh 68 31 [a0, a1, a2, some (.int x)] st σ Q = Ev sh 68 32 [a0, a1, a2, some (.int x)] (.int x :: st) σ Q := Ev_step rfl
theorem s_Stones_isLastOfOther_32 (h : zin x (sh i) = true) : Ev sh 68 32 [a0, a1, a2, a3] (.int x :: .ref i :: st) σ Q = Ev sh 68 33 [a0, a1, a2, a3] (.int (σ i x.toNatClampNeg) :: st) σ Q := Ev_h h rfl
theorem s_Stones_isLastOfOther_33 : Ev sh 68 33 [a0, a1, some (.int x), a3] st σ Q = Ev sh 68 34 [a0, a1, some (.int x), a3] (.int x :: st) σ Q := Ev_step rfl
theorem s_Stones_isLastOfOther_34 : Ev sh 68 34 [a0, a1, a2, a3] (.int y :: .int x :: st) σ Q = if x = y then Ev sh 68 41 [a0, a1, a2, a3] st σ Q else Ev sh 68 37 [a0, a1, a2, a3] st σ Q := Ev_if rfl
theorem s_Stones_isLastOfOther_37 : Ev sh 68 37 [a0, a1, a2, a3] st σ Q = Ev sh 68 38 [a0, a1, a2, a3] (.int 1 :: st) σ Q := Ev_step rfl
theorem s_Stones_isLastOfOther_38 : Ev sh 68 38 [a0, a1, a2, a3] st σ Q = Ev sh 68 42 [a0, a1, a2, a3] st σ Q := Ev_step rfl
theorem s_Stones_isLastOfOther_41 : Ev sh 68 41 [a0, a1, a2, a3] st σ Q = Ev sh 68 42 [a0, a1, a2, a3] (.int 0 :: st) σ Q := Ev_step rfl
theorem s_Stones_isLastOfOther_42 (h : x = 0 ∨ x = 1) : Ev sh 68 42 [a0, a1, a2, a3] [.int x] σ Q = Q (some (.int x)) σ := Ev_rh h rfl
theorem s_Stones_remakeLast_0 : Ev sh 69 0 [some (.ref i), a1, a2, a3, a4] st σ Q = Ev sh 69 1 [some (.ref i), a1, a2, a3, a4] (.ref i :: st) σ Q := Ev_step rfl
theorem s_Stones_remakeLast_1 (h : sh i = 7) : Ev sh 69 1 [a0, a1, a2, a3, a4] (.ref i :: st) σ Q = Ev sh 69 4 [a0, a1, a2, a3, a4] (.int (σ i 3) :: st) σ Q := Ev_h h rfl
theorem s_Stones_remakeLast_4 : Ev sh 69 4 [a0, a1, a2, a3, a4] st σ Q = Ev sh 69 5 [a0, a1, a2, a3, a4] (.int 1 :: st) σ Q := Ev_step rfl
theorem s_Stones_remakeLast_5 : Ev sh 69 5 [a0, a1, a2, a3, a4] (.int y :: .int x :: st) σ Q = Ev sh 69 6 [a0, a1, a2, a3, a4] (.int (x - y) :: st) σ Q := Ev_step rfl
theorem s_Stones_remakeLast_6 : Ev sh 69 6 [a0, a1, a2, a3, a4] (.int x :: st) σ Q = Ev sh 69 8 [a0, a1, a2, zdrop2 a3, some (.int x)] st σ Q := Ev_step rfl
theorem s_Stones_remakeLast_8 : Ev sh 69 8 [a0, a1, a2, a3, some (.int x)] st σ Q = Ev sh 69 10 [a0, a1, a2, a3, some (.int x)] (.int x :: st) σ Q := Ev_step rfl
theorem s_Stones_remakeLast_10 : Ev sh 69 10 [a0, a1, a2, a3, a4] (.int x :: st) σ Q = if x < 0 then Ev sh 69 44 [a0, a1, a2, a3, a4] st σ Q else Ev sh 69 13 [a0, a1, a2, a3, a4] st σ Q := Ev_if rfl
theorem s_Stones_remakeLast_13 : Ev sh 69 13 [a0, a1, a2, a3, some (.int x)] st σ Q = Ev sh 69 15 [a0, a1, a2, a3, some (.int x)] (.int x :: st) σ Q := Ev_step rfl
theorem s_Stones_remakeLast_15 : Ev sh 69 15 [a0, a1, a2, a3, a4] st σ Q = Ev sh 69 17 [a0, a1, a2, a3, a4] (.int 13 :: st) σ Q := Ev_step rfl
theorem s_Stones_remakeLast_17 : Ev sh 69 17 [a0, a1, a2, a3, a4] (.int y :: .int x :: st) σ Q = if y ≤ x then Ev sh 69 44 [a0, a1, a2, a3, a4] st σ Q else Ev sh 69 20 [a0, a1, a2, a3, a4] st σ Q := Ev_if rfl
theorem s_Stones_remakeLast_20 : Ev sh 69 20 [some (.ref i), a1, a2, a3, a4] st σ Q = Ev sh 69 21 [some (.ref i), a1, a2, a3, a4] (.ref i :: st) σ Q := Ev_step rfl
theorem s_Stones_remakeLast_21 (h : sh i = 7) : Ev sh 69 21 [a0, a1, a2, a3, a4] (.ref i :: st) σ Q = Ev sh 69 24 [a0, a1, a2, a3, a4] (.ref (i + 1) :: st) σ Q := Ev_h h rfl
theorem s_Stones_remakeLast_24 : Ev sh 69 24 [a0, a1, a2, a3, some (.int x)] st σ Q = Ev sh 69 26 [a0, a1, a2, a3, some (.int x)] (.int x :: st) σ Q := Ev_step rfl
theorem s_Stones_remakeLast_26 : Ev sh 69 26 [a0, some (.int x), a2, a3, a4] st σ Q = Ev sh 69 27 [a0, some (.int x), a2, a3, a4] (.int x :: st) σ Q := Ev_step rfl
theorem s_Stones_remakeLast_27 (h : zin x (sh i) = true) : Ev sh 69 27 [a0, a1, a2, a3, a4] (.int y :: .int x :: .ref i :: st) σ Q = Ev sh 69 28 [a0, a1, a2, a3, a4] st (zup σ i x.toNatClampNeg y) Q := Ev_h h rfl
theorem s_Stones_remakeLast_28 : Ev sh 69 28 [some (.ref i), a1, a2, a3, a4] st σ Q = Ev sh 69 29 [some (.ref i), a1, a2, a3, a4] (.ref i :: st) σ Q := Ev_step rfl
theorem s_Stones_remakeLast_29 (h : sh i = 7) : Ev sh 69 29 [a0, a1, a2, a3, a4] (.ref i :: st) σ Q = Ev sh 69 32 [a0, a1, a2, a3, a4] (.ref (i + 2) :: st) σ Q := Ev_h h rfl
theorem s_Stones_remakeLast_32 : Ev sh 69 32 [a0, a1, a2, a3, some (.int x)] st σ Q = Ev sh 69 34 [a0, a1, a2, a3, some (.int x)] (.int x :: st) σ Q := Ev_step rfl
theorem s_Stones_remakeLast_34 : Ev sh 69 34 [a0, a1, some (.int x), a3, a4] st σ Q = Ev sh 69 35 [a0, a1, some (.int x), a3, a4] (.int x :: st) σ Q := Ev_step rfl
theorem s_Stones_remakeLast_35 (h : zin x (sh i) = true) : Ev sh 69 35 [a0, a1, a2, a3, a4] (.int y :: .int x :: .ref i :: st) σ Q = Ev sh 69 36 [a0, a1, a2, a3, a4] st (zup σ i x.toNatClampNeg y) Q := Ev_h h rfl
theorem s_Stones_remakeLast_36 : Ev sh 69 36 [some (.ref i), a1, a2, a3, a4] st σ Q = Ev sh 69 37 [some (.ref i), a1, a2, a3, a4] (.ref i :: st) σ Q := Ev_step rfl
theorem s_Stones_remakeLast_37 (h : sh i = 7) : Ev sh 69 37 [a0, a1, a2, a3, a4] (.ref i :: st) σ Q = Ev sh 69 40 [a0, a1, a2, a3, a4] (.ref (i + 3) :: st) σ Q := Ev_h h rfl
theorem s_Stones_remakeLast_40 : Ev sh 69 40 [a0, a1, a2, a3, some (.int x)] st σ Q = Ev sh 69 42 [a0, a1, a2, a3, some (.int x)] (.int x :: st) σ Q := Ev_step rfl
theorem s_Stones_remakeLast_42 : Ev sh 69 42 [a0, a1, a2, some (.int x), a4] st σ Q = Ev sh 69 43 [a0, a1, a2, some (.int x), a4] (.int x :: st) σ Q := Ev_step rfl
theorem s_Stones_remakeLast_43 (h : zin x (sh i) = true) : Ev sh 69 43 [a0, a1, a2, a3, a4] (.int y :: .int x :: .ref i :: st) σ Q = Ev sh 69 44 [a0, a1, a2, a3, a4] st (zup σ i x.toNatClampNeg y) Q := Ev_h h rfl
theorem s_Stones_remakeLast_44 : Ev sh 69 44 [a0, a1, a2, a3, a4] [] σ Q = Q none σ := Ev_ret rfl
theorem s_Stones_number_0 : Ev sh 70 0 [some (.ref i)] st σ Q = Ev sh 70 1 [some (.ref i)] (.ref i :: st) σ Q := Ev_step rfl
theorem s_Stones_number_1 (h : sh i = 7) : Ev sh 70 1 [a0] (.ref i :: st) σ Q = Ev sh 70 4 [a0] (.int (σ i 3) :: st) σ Q := Ev_h h rfl
theorem s_Stones_number_4 : Ev sh 70 4 [a0] [.int x] σ Q = Q (some (.int x)) σ := Ev_ret rfl
theorem s_Stones_hasRoom_0 : Ev sh 71 0 [some (.ref i)] st σ Q = Ev sh 71 1 [some (.ref i)] (.ref i :: st) σ Q := Ev_step rfl
theorem s_Stones_hasRoom_1 (h : sh i = 7) : Ev sh 71 1 [a0] (.ref i :: st) σ Q = Ev sh 71 4 [a0] (.int (σ i 3) :: st) σ Q := Ev_h h rfl
theorem s_Stones_hasRoom_4 : Ev sh 71 4 [a0] st σ Q = Ev sh 71 6 [a0] (.int 12 :: st) σ Q := Ev_step rfl
theorem s_Stones_hasRoom_6 : Ev sh 71 6 [a0] (.int y :: .int x :: st) σ Q = if y ≤ x then Ev sh 71 13 [a0] st σ Q else Ev sh 71 9 [a0] st σ Q := Ev_if rfl
theorem s_Stones_hasRoom_9 : Ev sh 71 9 [a0] st σ Q = Ev sh 71 10 [a0] (.int 1 :: st) σ Q := Ev_step rfl
theorem s_Stones_hasRoom_10 : Ev sh 71 10 [a0] st σ Q = Ev sh 71 14 [a0] st σ Q := Ev_step rfl
theorem s_Stones_hasRoom_13 : Ev sh 71 13 [a0] st σ Q = Ev sh 71 14 [a0] (.int 0 :: st) σ Q := Ev_step rfl
theorem s_Stones_hasRoom_14 (h : x = 0 ∨ x = 1) : Ev sh 71 14 [a0] [.int x] σ Q = Q (some (.int x)) σ := Ev_rh h rfl
theorem s_Stones_has_0 : Ev sh 72 0 [a0, some (.int x)] st σ Q = Ev sh 72 1 [a0, some (.int x)] (.int x :: st) σ Q := Ev_step rfl
theorem s_Stones_has_1 : Ev sh 72 1 [a0, a1] (.int x :: st) σ Q = if x < 0 then Ev sh 72 22 [a0, a1] st σ Q else Ev sh 72 4 [a0, a1] st σ Q := Ev_if rfl
theorem s_Stones_has_4 : Ev sh 72 4 [a0, some (.int x)] st σ Q = Ev sh 72 5 [a0, some (.int x)] (.int x :: st) σ Q := Ev_step rfl
theorem s_Stones_has_5 : Ev sh 72 5 [some (.ref i), a1] st σ Q = Ev sh 72 6 [some (.ref i), a1] (.ref i :: st) σ Q := Ev_step rfl
theorem s_Stones_has_6 (h : sh i = 7) : Ev sh 72 6 [a0, a1] (.ref i :: st) σ Q = Ev sh 72 9 [a0, a1] (.int (σ i 3) :: st) σ Q := Ev_h h rfl
theorem s_Stones_has_9 : Ev sh 72 9 [a0, a1] (.int y :: .int x :: st) σ Q = if y ≤ x then Ev sh 72 22 [a0, a1] st σ Q else Ev sh 72 12 [a0, a1] st σ Q := Ev_if rfl
theorem s_Stones_has_12 : Ev sh 72 12 [a0, some (.int x)] st σ Q = Ev sh 72 13 [a0, some (.int x)] (.int x :: st) σ Q := Ev_step rfl
theorem s_Stones_has_13 : Ev sh 72 13 [a0, a1] st σ Q = Ev sh 72 15 [a0, a1] (.int 13 :: st) σ Q := Ev_step rfl
theorem s_Stones_has_15 : Ev sh 72 15 [a0, a1] (.int y :: .int x :: st) σ Q = if y ≤ x then Ev sh 72 22 [a0, a1] st σ Q else Ev sh 72 18 [a0, a1] st σ Q := Ev_if rfl
theorem s_Stones_has_18 : Ev sh 72 18 [a0, a1] st σ Q = Ev sh 72 19 [a0, a1] (.int 1 :: st) σ Q := Ev_step rfl
theorem s_Stones_has_19 : Ev sh 72 19 [a0, a1] st σ Q = Ev sh 72 23 [a0, a1] st σ Q := Ev_step rfl
theorem s_Stones_has_22 : Ev sh 72 22 [a0, a1] st σ Q = Ev sh 72 23 [a0, a1] (.int 0 :: st) σ Q := Ev_step rfl
theorem s_Stones_has_23 (h : x = 0 ∨ x = 1) : Ev sh 72 23 [a0, a1] [.int x] σ Q = Q (some (.int x)) σ := Ev_rh h rfl
theorem s_Stones_kindOf_0 : Ev sh 73 0 [some (.ref i), a1] st σ Q = Ev sh 73 1 [some (.ref i), a1] (.ref i :: st) σ Q := Ev_step rfl
theorem s_Stones_kindOf_1 : Ev sh 73 1 [a0, some (.int x)] st σ Q = Ev sh 73 2 [a0, some (.int x)] (.int x :: st) σ Q := Ev_step rfl
theorem s_Stones_kindOf_2 (h : sh i0 = 7) : Ev sh 73 2 [a0, a1] [.int x1, .ref i0] σ Q = Ev sh 72 0 [some (.ref i0), some (.int x1)] [] σ (fun r s => Ev sh 73 5 [a0, a1] (zpush r []) s Q) := Ev_callh (zrecv_of (by decide) h) rfl
theorem s_Stones_kindOf_5 : Ev sh 73 5 [a0, a1] (.int x :: st) σ Q = if x = 0 then Ev sh 73 17 [a0, a1] st σ Q else Ev sh 73 8 [a0, a1] st σ Q := Ev_if rfl
theorem s_Stones_kindOf_8 : Ev sh 73 8 [some (.ref i), a1] st σ Q = Ev sh 73 9 [some (.ref i), a1] (.ref i :: st) σ Q := Ev_step rfl
theorem s_Stones_kindOf_9 (h : sh i = 7) : Ev sh 73 9 [a0, a1] (.ref i :: st) σ Q = Ev sh 73 12 [a0, a1] (.ref (i + 1) :: st) σ Q := Ev_h h rfl
theorem s_Stones_kindOf_12 : Ev sh 73 12 [a0, some (.int x)] st σ Q = Ev sh 73 13 [a0, some (.int x)] (.int x :: st) σ Q := Ev_step rfl
theorem s_Stones_kindOf_13 (h : zin x (sh i) = true) : Ev sh 73 13 [a0, a1] (.int x :: .ref i :: st) σ Q = Ev sh 73 14 [a0, a1] (.int (σ i x.toNatClampNeg) :: st) σ Q := Ev_h h rfl
theorem s_Stones_kindOf_14 : Ev sh 73 14 [a0, a1] st σ Q = Ev sh 73 19 [a0, a1] st σ Q := Ev_step rfl
theorem s_Stones_kindOf_17 : Ev sh 73 17 [a0, a1] st σ Q = Ev sh 73 19 [a0, a1] (.int (-9) :: st) σ Q := Ev_step rfl
theorem s_Stones_kindOf_19 : Ev sh 73 19 [a0, a1] [.int x] σ Q = Q (some (.int x)) σ := Ev_ret rfl
theorem s_Stones_figureOf_0 : Ev sh 74 0 [some (.ref i), a1] st σ Q = Ev sh 74 1 [some (.ref i), a1] (.ref i :: st) σ Q := Ev_step rfl
theorem s_Stones_figureOf_1 : Ev sh 74 1 [a0, some (.int x)] st σ Q = Ev sh 74 2 [a0, some (.int x)] (.int x :: st) σ Q := Ev_step rfl
theorem s_Stones_figureOf_2 (h : sh i0 = 7) : Ev sh 74 2 [a0, a1] [.int x1, .ref i0] σ Q = Ev sh 72 0 [some (.ref i0), some (.int x1)] [] σ (fun r s => Ev sh 74 5 [a0, a1] (zpush r []) s Q) := Ev_callh (zrecv_of (by decide) h) rfl
theorem s_Stones_figureOf_5 : Ev sh 74 5 [a0, a1] (.int x :: st) σ Q = if x = 0 then Ev sh 74 17 [a0, a1] st σ Q else Ev sh 74 8 [a0, a1] st σ Q := Ev_if rfl
theorem s_Stones_figureOf_8 : Ev sh 74 8 [some (.ref i), a1] st σ Q = Ev sh 74 9 [some (.ref i), a1] (.ref i :: st) σ Q := Ev_step rfl
theorem s_Stones_figureOf_9 (h : sh i = 7) : Ev sh 74 9 [a0, a1] (.ref i :: st) σ Q = Ev sh 74 12 [a0, a1] (.ref (i + 2) :: st) σ Q := Ev_h h rfl
theorem s_Stones_figureOf_12 : Ev sh 74 12 [a0, some (.int x)] st σ Q = Ev sh 74 13 [a0, some (.int x)] (.int x :: st) σ Q := Ev_step rfl
theorem s_Stones_figureOf_13 (h : zin x (sh i) = true) : Ev sh 74 13 [a0, a1] (.int x :: .ref i :: st) σ Q = Ev sh 74 14 [a0, a1] (.int (σ i x.toNatClampNeg) :: st) σ Q := Ev_h h rfl
theorem s_Stones_figureOf_14 : Ev sh 74 14 [a0, a1] st σ Q = Ev sh 74 19 [a0, a1] st σ Q := Ev_step rfl
theorem s_Stones_figureOf_17 : Ev sh 74 17 [a0, a1] st σ Q = Ev sh 74 19 [a0, a1] (.int (-9) :: st) σ Q := Ev_step rfl
theorem s_Stones_figureOf_19 : Ev sh 74 19 [a0, a1] [.int x] σ Q = Q (some (.int x)) σ := Ev_ret rfl
theorem s_Stones_layerOf_0 : Ev sh 75 0 [some (.ref i), a1] st σ Q = Ev sh 75 1 [some (.ref i), a1] (.ref i :: st) σ Q := Ev_step rfl
theorem s_Stones_layerOf_1 : Ev sh 75 1 [a0, some (.int x)] st σ Q = Ev sh 75 2 [a0, some (.int x)] (.int x :: st) σ Q := Ev_step rfl
theorem s_Stones_layerOf_2 (h : sh i0 = 7) : Ev sh 75 2 [a0, a1] [.int x1, .ref i0] σ Q = Ev sh 72 0 [some (.ref i0), some (.int x1)] [] σ (fun r s => Ev sh 75 5 [a0, a1] (zpush r []) s Q) := Ev_callh (zrecv_of (by decide) h) rfl
theorem s_Stones_layerOf_5 : Ev sh 75 5 [a0, a1] (.int x :: st) σ Q = if x = 0 then Ev sh 75 17 [a0, a1] st σ Q else Ev sh 75 8 [a0, a1] st σ Q := Ev_if rfl
theorem s_Stones_layerOf_8 : Ev sh 75 8 [some (.ref i), a1] st σ Q = Ev sh 75 9 [some (.ref i), a1] (.ref i :: st) σ Q := Ev_step rfl
theorem s_Stones_layerOf_9 (h : sh i = 7) : Ev sh 75 9 [a0, a1] (.ref i :: st) σ Q = Ev sh 75 12 [a0, a1] (.ref (i + 3) :: st) σ Q := Ev_h h rfl
theorem s_Stones_layerOf_12 : Ev sh 75 12 [a0, some (.int x)] st σ Q = Ev sh 75 13 [a0, some (.int x)] (.int x :: st) σ Q := Ev_step rfl
theorem s_Stones_layerOf_13 (h : zin x (sh i) = true) : Ev sh 75 13 [a0, a1] (.int x :: .ref i :: st) σ Q = Ev sh 75 14 [a0, a1] (.int (σ i x.toNatClampNeg) :: st) σ Q := Ev_h h rfl
theorem s_Stones_layerOf_14 : Ev sh 75 14 [a0, a1] st σ Q = Ev sh 75 19 [a0, a1] st σ Q := Ev_step rfl
theorem s_Stones_layerOf_17 : Ev sh 75 17 [a0, a1] st σ Q = Ev sh 75 19 [a0, a1] (.int (-9) :: st) σ Q := Ev_step rfl
theorem s_Stones_layerOf_19 : Ev sh 75 19 [a0, a1] [.int x] σ Q = Q (some (.int x)) σ := Ev_ret rfl
theorem s_Stones_holdOf_0 : Ev sh 76 0 [some (.ref i), a1, a2] st σ Q = Ev sh 76 1 [some (.ref i), a1, a2] (.ref i :: st) σ Q := Ev_step rfl
theorem s_Stones_holdOf_1 : Ev sh 76 1 [a0, some (.int x), a2] st σ Q = Ev sh 76 2 [a0, some (.int x), a2] (.int x :: st) σ Q := Ev_step rfl
theorem s_Stones_holdOf_2 (h : sh i0 = 7) : Ev sh 76 2 [a0, a1, a2] [.int x1, .ref i0] σ Q = Ev sh 72 0 [some (.ref i0), some (.int x1)] [] σ (fun r s => Ev sh 76 5 [a0, a1, a2] (zpush r []) s Q) := Ev_callh (zrecv_of (by decide) h) rfl
theorem s_Stones_holdOf_5 : Ev sh 76 5 [a0, a1, a2] (.int x :: st) σ Q = if x ≠ 0 then Ev sh 76 10 [a0, a1, a2] st σ Q else Ev sh 76 8 [a0, a1, a2] st σ Q := Ev_if rfl
theorem s_Stones_holdOf_8 : Ev sh 76 8 [a0, a1, a2] st σ Q = Ev sh 76 9 [a0, a1, a2] (.int 0 :: st) σ Q := Ev_step rfl
theorem s_Stones_holdOf_9 : Ev sh 76 9 [a0, a1, a2] [.int x] σ Q = Q (some (.int x)) σ := Ev_ret rfl
theorem s_Stones_holdOf_10 : Ev sh 76 10 [some (.ref i), a1, a2] st σ Q = Ev sh 76 11 [some (.ref i), a1, a2] (.ref i :: st) σ Q := Ev_step rfl
theorem s_Stones_holdOf_11 (h : sh i = 7) : Ev sh 76 11 [a0, a1, a2] (.ref i :: st) σ Q = Ev sh 76 14 [a0, a1, a2] (.ref (i + 2) :: st) σ Q := Ev_h h rfl
theorem s_Stones_holdOf_14 : Ev sh 76 14 [a0, some (.int x), a2] st σ Q = Ev sh 76 15 [a0, some (.int x), a2] (.int x :: st) σ Q := Ev_step rfl
theorem s_Stones_holdOf_15 (h : zin x (sh i) = true) : Ev sh 76 15 [a0, a1, a2] (.int x :: .ref i :: st) σ Q = Ev sh 76 16 [a0, a1, a2] (.int (σ i x.toNatClampNeg) :: st) σ Q := Ev_h h rfl
theorem s_Stones_holdOf_16 : Ev sh 76 16 [a0, a1, a2] st σ Q = Ev sh 76 17 [a0, a1, a2] (.int 1 :: st) σ Q := Ev_step rfl
theorem s_Stones_holdOf_17 : Ev sh 76 17 [a0, a1, a2] (.int y :: .int x :: st) σ Q = Ev sh 76 18 [a0, a1, a2] (.int (x + y) :: st) σ Q := Ev_step rfl
theorem s_Stones_holdOf_18 : Ev sh 76 18 [a0, a1, a2] (.int x :: st) σ Q = Ev sh 76 19 [a0, zdrop2 a1, some (.int x)] st σ Q := Ev_step rfl
theorem s_Stones_holdOf_19 : Ev sh 76 19 [some (.ref i), a1, a2] st σ Q = Ev sh 76 20 [some (.ref i), a1, a2] (.ref i :: st) σ Q := Ev_step rfl
theorem s_Stones_holdOf_20 (h : sh i = 7) : Ev sh 76 20 [a0, a1, a2] (.ref i :: st) σ Q = Ev sh 76 23 [a0, a1, a2] (.ref (i + 1) :: st) σ Q := Ev_h h rfl
theorem s_Stones_holdOf_23 : Ev sh 76 23 [a0, some (.int x), a2] st σ Q = Ev sh 76 24 [a0, some (.int x), a2] (.int x :: st) σ Q := Ev_step rfl
theorem s_Stones_holdOf_24 (h : zin x (sh i) = true) : Ev sh 76 24 [a0, a1, a2] (.int x :: .ref i :: st) σ Q = Ev sh 76 25 [a0, a1, a2] (.int (σ i x.toNatClampNeg) :: st) σ Q := Ev_h h rfl
theorem s_Stones_holdOf_25 : Ev sh 76 25 [a0, a1, a2] (.int x :: st) σ Q = if x = 2 then Ev sh 76 56 [a0, a1, a2] st σ Q else if x = 3 then Ev sh 76 60 [a0, a1, a2] st σ Q else if x = 4 then Ev sh 76 64 [a0, a1, a2] st σ Q else if x = 5 then Ev sh 76 70 [a0, a1, a2] st σ Q else Ev sh 76 76 [a0, a1, a2] st σ Q := (Ev_step (pc' := zsw x 76 [(2, 56), (3, 60), (4, 64), (5, 70)]) rfl).trans (by rw [Ev_swc, Ev_swc, Ev_swc, Ev_swc]; rfl)
theorem s_Stones_holdOf_56 : Ev sh 76 56 [a0, a1, some (.int x)] st σ Q = Ev sh 76 57 [a0, a1, some (.int x)] (.int x :: st) σ Q := Ev_step rfl
theorem s_Stones_holdOf_57 : Ev sh 76 57 [a0, a1, a2] st σ Q = Ev sh 76 58 [a0, a1, a2] (.int 1 :: st) σ Q := Ev_step rfl
theorem s_Stones_holdOf_58 : Ev sh 76 58 [a0, a1, a2] (.int y :: .int x :: st) σ Q = Ev sh 76 59 [a0, a1, a2] (.int (x - y) :: st) σ Q := Ev_step rfl
theorem s_Stones_holdOf_59 : Ev sh 76 59 [a0, a1, a2] [.int x] σ Q = Q (some (.int x)) σ := Ev_ret rfl
theorem s_Stones_holdOf_60 : Ev sh 76 60 [a0, a1, a2] st σ Q = Ev sh 76 61 [a0, a1, a2] (.int 2 :: st) σ Q := Ev_step rfl
theorem s_Stones_holdOf_61 : Ev sh 76 61 [a0, a1, some (.int x)] st σ Q = Ev sh 76 62 [a0, a1, some (.int x)] (.int x :: st) σ Q := Ev_step rfl
theorem s_Stones_holdOf_62 : Ev sh 76 62 [a0, a1, a2] (.int y :: .int x :: st) σ Q = Ev sh 76 63 [a0, a1, a2] (.int (x * y) :: st) σ Q := Ev_step rfl
theorem s_Stones_holdOf_63 : Ev sh 76 63 [a0, a1, a2] [.int x] σ Q = Q (some (.int x)) σ := Ev_ret rfl
theorem s_Stones_holdOf_64 : Ev sh 76 64 [a0, a1, a2] st σ Q = Ev sh 76 65 [a0, a1, a2] (.int 2 :: st) σ Q := Ev_step rfl
theorem s_Stones_holdOf_65 : Ev sh 76 65 [a0, a1, some (.int x)] st σ Q = Ev sh 76 66 [a0, a1, some (.int x)] (.int x :: st) σ Q := Ev_step rfl
theorem s_Stones_holdOf_66 : Ev sh 76 66 [a0, a1, a2] (.int y :: .int x :: st) σ Q = Ev sh 76 67 [a0, a1, a2] (.int (x * y) :: st) σ Q := Ev_step rfl
theorem s_Stones_holdOf_67 : Ev sh 76 67 [a0, a1, a2] st σ Q = Ev sh 76 68 [a0, a1, a2] (.int 3 :: st) σ Q := Ev_step rfl
theorem s_Stones_holdOf_68 : Ev sh 76 68 [a0, a1, a2] (.int y :: .int x :: st) σ Q = Ev sh 76 69 [a0, a1, a2] (.int (x + y) :: st) σ Q := Ev_step rfl
theorem s_Stones_holdOf_69 : Ev sh 76 69 [a0, a1, a2] [.int x] σ Q = Q (some (.int x)) σ := Ev_ret rfl
theorem s_Stones_holdOf_70 : Ev sh 76 70 [a0, a1, some (.int x)] st σ Q = Ev sh 76 71 [a0, a1, some (.int x)] (.int x :: st) σ Q := Ev_step rfl
theorem s_Stones_holdOf_71 : Ev sh 76 71 [a0, a1, a2] st σ Q = Ev sh 76 72 [a0, a1, a2] (.int 1 :: st) σ Q := Ev_step rfl
theorem s_Stones_holdOf_72 : Ev sh 76 72 [a0, a1, a2] (.int y :: .int x :: st) σ Q = Ev sh 76 73 [a0, a1, a2] (.int (x - y) :: st) σ Q := Ev_step rfl
theorem s_Stones_holdOf_73 : Ev sh 76 73 [a0, a1, a2] st σ Q = Ev sh 76 74 [a0, a1, a2] (.int 2 :: st) σ Q := Ev_step rfl
theorem s_Stones_holdOf_74 (h : ¬ y = 0) : Ev sh 76 74 [a0, a1, a2] (.int y :: .int x :: st) σ Q = Ev sh 76 75 [a0, a1, a2] (.int (x / y) :: st) σ Q := Ev_h h rfl
theorem s_Stones_holdOf_75 : Ev sh 76 75 [a0, a1, a2] [.int x] σ Q = Q (some (.int x)) σ := Ev_ret rfl
theorem s_Stones_holdOf_76 : Ev sh 76 76 [a0, a1, some (.int x)] st σ Q = Ev sh 76 77 [a0, a1, some (.int x)] (.int x :: st) σ Q := Ev_step rfl
theorem s_Stones_holdOf_77 : Ev sh 76 77 [a0, a1, a2] [.int x] σ Q = Q (some (.int x)) σ := Ev_ret rfl
theorem s_Stones_leanOf_0 : Ev sh 77 0 [some (.ref i), a1, a2] st σ Q = Ev sh 77 1 [some (.ref i), a1, a2] (.ref i :: st) σ Q := Ev_step rfl
theorem s_Stones_leanOf_1 : Ev sh 77 1 [a0, some (.int x), a2] st σ Q = Ev sh 77 2 [a0, some (.int x), a2] (.int x :: st) σ Q := Ev_step rfl
theorem s_Stones_leanOf_2 (h : sh i0 = 7) : Ev sh 77 2 [a0, a1, a2] [.int x1, .ref i0] σ Q = Ev sh 72 0 [some (.ref i0), some (.int x1)] [] σ (fun r s => Ev sh 77 5 [a0, a1, a2] (zpush r []) s Q) := Ev_callh (zrecv_of (by decide) h) rfl
theorem s_Stones_leanOf_5 : Ev sh 77 5 [a0, a1, a2] (.int x :: st) σ Q = if x ≠ 0 then Ev sh 77 10 [a0, a1, a2] st σ Q else Ev sh 77 8 [a0, a1, a2] st σ Q := Ev_if rfl
theorem s_Stones_leanOf_8 : Ev sh 77 8 [a0, a1, a2] st σ Q = Ev sh 77 9 [a0, a1, a2] (.int 0 :: st) σ Q := Ev_step rfl
theorem s_Stones_leanOf_9 : Ev sh 77 9 [a0, a1, a2] [.int x] σ Q = Q (some (.int x)) σ := Ev_ret rfl
theorem s_Stones_leanOf_10 : Ev sh 77 10 [some (.ref i), a1, a2] st σ Q = Ev sh 77 11 [some (.ref i), a1, a2] (.ref i :: st) σ Q := Ev_step rfl
theorem s_Stones_leanOf_11 (h : sh i = 7) : Ev sh 77 11 [a0, a1, a2] (.ref i :: st) σ Q = Ev sh 77 14 [a0, a1, a2] (.ref (i + 2) :: st) σ Q := Ev_h h rfl
theorem s_Stones_leanOf_14 : Ev sh 77 14 [a0, some (.int x), a2] st σ Q = Ev sh 77 15 [a0, some (.int x), a2] (.int x :: st) σ Q := Ev_step rfl
theorem s_Stones_leanOf_15 (h : zin x (sh i) = true) : Ev sh 77 15 [a0, a1, a2] (.int x :: .ref i :: st) σ Q = Ev sh 77 16 [a0, a1, a2] (.int (σ i x.toNatClampNeg) :: st) σ Q := Ev_h h rfl
theorem s_Stones_leanOf_16 : Ev sh 77 16 [a0, a1, a2] st σ Q = Ev sh 77 17 [a0, a1, a2] (.int 5 :: st) σ Q := Ev_step rfl
theorem s_Stones_leanOf_17 : Ev sh 77 17 [a0, a1, a2] (.int y :: .int x :: st) σ Q = if x ≤ y then Ev sh 77 24 [a0, a1, a2] st σ Q else Ev sh 77 20 [a0, a1, a2] st σ Q := Ev_if rfl
theorem s_Stones_leanOf_20 : Ev sh 77 20 [a0, a1, a2] st σ Q = Ev sh 77 21 [a0, a1, a2] (.int 2 :: st) σ Q := Ev_step rfl
theorem s_Stones_leanOf_21 : Ev sh 77 21 [a0, a1, a2] st σ Q = Ev sh 77 25 [a0, a1, a2] st σ Q := Ev_step rfl
theorem s_Stones_leanOf_24 : Ev sh 77 24 [a0, a1, a2] st σ Q = Ev sh 77 25 [a0, a1, a2] (.int 1 :: st) σ Q := Ev_step rfl
theorem s_Stones_leanOf_25 : Ev sh 77 25 [a0, a1, a2] (.int x :: st) σ Q = Ev sh 77 26 [a0, zdrop2 a1, some (.int x)] st σ Q := Ev_step rfl
theorem s_Stones_leanOf_26 : Ev sh 77 26 [some (.ref i), a1, a2] st σ Q = Ev sh 77 27 [some (.ref i), a1, a2] (.ref i :: st) σ Q := Ev_step rfl
theorem s_Stones_leanOf_27 (h : sh i = 7) : Ev sh 77 27 [a0, a1, a2] (.ref i :: st) σ Q = Ev sh 77 30 [a0, a1, a2] (.ref (i + 1) :: st) σ Q := Ev_h h rfl
theorem s_Stones_leanOf_30 : Ev sh 77 30 [a0, some (.int x), a2] st σ Q = Ev sh 77 31 [a0, some (.int x), a2] (.int x :: st) σ Q := Ev_step rfl
theorem s_Stones_leanOf_31 (h : zin x (sh i) = true) : Ev sh 77 31 [a0, a1, a2] (.int x :: .ref i :: st) σ Q = Ev sh 77 32 [a0, a1, a2] (.int (σ i x.toNatClampNeg) :: st) σ Q := Ev_h h rfl
theorem s_Stones_leanOf_32 : Ev sh 77 32 [a0, a1, a2] (.int x :: st) σ Q = if x = 1 then Ev sh 77 68 [a0, a1, a2] st σ Q else if x = 2 then Ev sh 77 70 [a0, a1, a2] st σ Q else if x = 3 then Ev sh 77 78 [a0, a1, a2] st σ Q else if x = 4 then Ev sh 77 78 [a0, a1, a2] st σ Q else if x = 5 then Ev sh 77 73 [a0, a1, a2] st σ Q else Ev sh 77 78 [a0, a1, a2] st σ Q := (Ev_step (pc' := zsw x 78 [(1, 68), (2, 70), (3, 78), (4, 78), (5, 73)]) rfl).trans (by rw [Ev_swc, Ev_swc, Ev_swc, Ev_swc, Ev_swc]; rfl)
theorem s_Stones_leanOf_68 : Ev sh 77 68 [a0, a1, some (.int x)] st σ Q = Ev sh 77 69 [a0, a1, some (.int x)] (.int x :: st) σ Q := Ev_step rfl
theorem s_Stones_leanOf_69 : Ev sh 77 69 [a0, a1, a2] [.int x] σ Q = Q (some (.int x)) σ := Ev_ret rfl
theorem s_Stones_leanOf_70 : Ev sh 77 70 [a0, a1, some (.int x)] st σ Q = Ev sh 77 71 [a0, a1, some (.int x)] (.int x :: st) σ Q := Ev_step rfl
theorem s_Stones_leanOf_71 : Ev sh 77 71 [a0, a1, a2] (.int x :: st) σ Q = Ev sh 77 72 [a0, a1, a2] (.int (-x) :: st) σ Q := Ev_step rfl
theorem s_Stones_leanOf_72 : Ev sh 77 72 [a0, a1, a2] [.int x] σ Q = Q (some (.int x)) σ := Ev_ret rfl
theorem s_Stones_leanOf_73 : Ev sh 77 73 [a0, a1, some (.int x)] st σ Q = Ev sh 77 74 [a0, a1, some (.int x)] (.int x :: st) σ Q := Ev_step rfl
theorem s_Stones_leanOf_74 : Ev sh 77 74 [a0, a1, a2] (.int x :: st) σ Q = Ev sh 77 75 [a0, a1, a2] (.int (-x) :: st) σ Q := Ev_step rfl
theorem s_Stones_leanOf_75 : Ev sh 77 75 [a0, a1, a2] st σ Q = Ev sh 77 76 [a0, a1, a2] (.int 1 :: st) σ Q := Ev_step rfl
theorem s_Stones_leanOf_76 : Ev sh 77 76 [a0, a1, a2] (.int y :: .int x :: st) σ Q = Ev sh 77 77 [a0, a1, a2] (.int (x - y) :: st) σ Q := Ev_step rfl
theorem s_Stones_leanOf_77 : Ev sh 77 77 [a0, a1, a2] [.int x] σ Q = Q (some (.int x)) σ := Ev_ret rfl
theorem s_Stones_leanOf_78 : Ev sh 77 78 [a0, a1, a2] st σ Q = Ev sh 77 79 [a0, a1, a2] (.int 0 :: st) σ Q := Ev_step rfl
theorem s_Stones_leanOf_79 : Ev sh 77 79 [a0, a1, a2] [.int x] σ Q = Q (some (.int x)) σ := Ev_ret rfl
theorem s_Stones_leanUpTo_0 : Ev sh 78 0 [a0, a1, a2, a3] st σ Q = Ev sh 78 1 [a0, a1, a2, a3] (.int 0 :: st) σ Q := Ev_step rfl
theorem s_Stones_leanUpTo_1 : Ev sh 78 1 [a0, a1, a2, a3] (.int x :: st) σ Q = Ev sh 78 2 [a0, zdrop2 a1, some (.int x), a3] st σ Q := Ev_step rfl
theorem s_Stones_leanUpTo_2 : Ev sh 78 2 [a0, a1, a2, a3] st σ Q = Ev sh 78 3 [a0, a1, a2, a3] (.int 0 :: st) σ Q := Ev_step rfl
theorem s_Stones_leanUpTo_3 : Ev sh 78 3 [a0, a1, a2, a3] (.int x :: st) σ Q = Ev sh 78 4 [a0, a1, zdrop2 a2, some (.int x)] st σ Q := Ev_step rfl
theorem s_Stones_leanUpTo_4 : Ev sh 78 4 [a0, a1, a2, some (.int x)] st σ Q = Ev sh 78 5 [a0, a1, a2, some (.int x)] (.int x :: st) σ Q := Ev_step rfl
theorem s_Stones_leanUpTo_5 : Ev sh 78 5 [a0, some (.int x), a2, a3] st σ Q = Ev sh 78 6 [a0, some (.int x), a2, a3] (.int x :: st) σ Q := Ev_step rfl
theorem s_Stones_leanUpTo_6 : Ev sh 78 6 [a0, a1, a2, a3] (.int y :: .int x :: st) σ Q = if y < x then Ev sh 78 31 [a0, a1, a2, a3] st σ Q else Ev sh 78 9 [a0, a1, a2, a3] st σ Q := Ev_if rfl
theorem s_Stones_leanUpTo_9 : Ev sh 78 9 [a0, a1, a2, some (.int x)] st σ Q = Ev sh 78 10 [a0, a1, a2, some (.int x)] (.int x :: st) σ Q := Ev_step rfl
theorem s_Stones_leanUpTo_10 : Ev sh 78 10 [some (.ref i), a1, a2, a3] st σ Q = Ev sh 78 11 [some (.ref i), a1, a2, a3] (.ref i :: st) σ Q := Ev_step rfl
theorem s_Stones_leanUpTo_11 (h : sh i = 7) : Ev sh 78 11 [a0, a1, a2, a3] (.ref i :: st) σ Q = Ev sh 78 14 [a0, a1, a2, a3] (.int (σ i 3) :: st) σ Q := Ev_h h rfl
theorem s_Stones_leanUpTo_14 : Ev sh 78 14 [a0, a1, a2, a3] (.int y :: .int x :: st) σ Q = if y ≤ x then Ev sh 78 31 [a0, a1, a2, a3] st σ Q else Ev sh 78 17 [a0, a1, a2, a3] st σ Q := Ev_if rfl
theorem s_Stones_leanUpTo_17 : Ev sh 78 17 [a0, a1, some (.int x), a3] st σ Q = Ev sh 78 18 [a0, a1, some (.int x), a3] (.int x :: st) σ Q := Ev_step rfl
theorem s_Stones_leanUpTo_18 : Ev sh 78 18 [some (.ref i), a1, a2, a3] st σ Q = Ev sh 78 19 [some (.ref i), a1, a2, a3] (.ref i :: st) σ Q := Ev_step rfl
theorem s_Stones_leanUpTo_19 : Ev sh 78 19 [a0, a1, a2, some (.int x)] st σ Q = Ev sh 78 20 [a0, a1, a2, some (.int x)] (.int x :: st) σ Q := Ev_step rfl
theorem s_Stones_leanUpTo_20 (h : sh i1 = 7) : Ev sh 78 20 [a0, a1, a2, a3] [.int x2, .ref i1, .int x0] σ Q = Ev sh 77 0 [some (.ref i1), some (.int x2), none] [] σ (fun r s => Ev sh 78 23 [a0, a1, a2, a3] (zpush r [.int x0]) s Q) := Ev_callh (zrecv_of (by decide) h) rfl
theorem s_Stones_leanUpTo_23 : Ev sh 78 23 [a0, a1, a2, a3] (.int y :: .int x :: st) σ Q = Ev sh 78 24 [a0, a1, a2, a3] (.int (x + y) :: st) σ Q := Ev_step rfl
theorem s_Stones_leanUpTo_24 : Ev sh 78 24 [a0, a1, a2, a3] (.int x :: st) σ Q = Ev sh 78 25 [a0, zdrop2 a1, some (.int x), a3] st σ Q := Ev_step rfl
theorem s_Stones_leanUpTo_25 : Ev sh 78 25 [a0, a1, a2, some (.int x)] st σ Q = Ev sh 78 28 [a0, a1, a2, some (.int (x + 1))] st σ Q := Ev_step rfl
theorem s_Stones_leanUpTo_28 : Ev sh 78 28 [a0, a1, a2, a3] st σ Q = Ev sh 78 4 [a0, a1, a2, a3] st σ Q := Ev_step rfl
theorem s_Stones_leanUpTo_31 : Ev sh 78 31 [a0, a1, some (.int x), a3] st σ Q = Ev sh 78 32 [a0, a1, some (.int x), a3] (.int x :: st) σ Q := Ev_step rfl
theorem s_Stones_leanUpTo_32 : Ev sh 78 32 [a0, a1, a2, a3] [.int x] σ Q = Q (some (.int x)) σ := Ev_ret rfl
theorem s_Stones_leanAtEnd_0 : Ev sh 79 0 [some (.ref i)] st σ Q = Ev sh 79 1 [some (.ref i)] (.ref i :: st) σ Q := Ev_step rfl
theorem s_Stones_leanAtEnd_1 : Ev sh 79 1 [some (.ref i)] st σ Q = Ev sh 79 2 [some (.ref i)] (.ref i :: st) σ Q := Ev_step rfl
theorem s_Stones_leanAtEnd_2 (h : sh i = 7) : Ev sh 79 2 [a0] (.ref i :: st) σ Q = Ev sh 79 5 [a0] (.int (σ i 3) :: st) σ Q := Ev_h h rfl
theorem s_Stones_leanAtEnd_5 : Ev sh 79 5 [a0] st σ Q = Ev sh 79 6 [a0] (.int 1 :: st) σ Q := Ev_step rfl
theorem s_Stones_leanAtEnd_6 : Ev sh 79 6 [a0] (.int y :: .int x :: st) σ Q = Ev sh 79 7 [a0] (.int (x - y) :: st) σ Q := Ev_step rfl
theorem s_Stones_leanAtEnd_7 (h : sh i0 = 7) : Ev sh 79 7 [a0] [.int x1, .ref i0] σ Q = Ev sh 78 0 [some (.ref i0), some (.int x1), none, none] [] σ (fun r s => Ev sh 79 10 [a0] (zpush r []) s Q) := Ev_callh (zrecv_of (by decide) h) rfl
theorem s_Stones_leanAtEnd_10 : Ev sh 79 10 [a0] [.int x] σ Q = Q (some (.int x)) σ := Ev_ret rfl
theorem s_Stones_farthestLean_0 : Ev sh 80 0 [a0, a1, a2, a3] st σ Q = Ev sh 80 1 [a0, a1, a2, a3] (.int 0 :: st) σ Q := Ev_step rfl
theorem s_Stones_farthestLean_1 : Ev sh 80 1 [a0, a1, a2, a3] (.int x :: st) σ Q = Ev sh 80 2 [zdrop2 a0, some (.int x), a2, a3] st σ Q := Ev_step rfl
theorem s_Stones_farthestLean_2 : Ev sh 80 2 [a0, a1, a2, a3] st σ Q = Ev sh 80 3 [a0, a1, a2, a3] (.int 0 :: st) σ Q := Ev_step rfl
theorem s_Stones_farthestLean_3 : Ev sh 80 3 [a0, a1, a2, a3] (.int x :: st) σ Q = Ev sh 80 4 [a0, zdrop2 a1, some (.int x), a3] st σ Q := Ev_step rfl
theorem s_Stones_farthestLean_4 : Ev sh 80 4 [a0, a1, a2, a3] st σ Q = Ev sh 80 5 [a0, a1, a2, a3] (.int 0 :: st) σ Q := Ev_step rfl
theorem s_Stones_farthestLean_5 : Ev sh 80 5 [a0, a1, a2, a3] (.int x :: st) σ Q = Ev sh 80 6 [a0, a1, zdrop2 a2, some (.int x)] st σ Q := Ev_step rfl
theorem s_Stones_farthestLean_6 : Ev sh 80 6 [a0, a1, a2, some (.int x)] st σ Q = Ev sh 80 7 [a0, a1, a2, some (.int x)] (.int x :: st) σ Q := Ev_step rfl
theorem s_Stones_farthestLean_7 : Ev sh 80 7 [some (.ref i), a1, a2, a3] st σ Q = Ev sh 80 8 [some (.ref i), a1, a2, a3] (.ref i :: st) σ Q := Ev_step rfl
theorem s_Stones_farthestLean_8 (h : sh i = 7) : Ev sh 80 8 [a0, a1, a2, a3] (.ref i :: st) σ Q = Ev sh 80 11 [a0, a1, a2, a3] (.int (σ i 3) :: st) σ Q := Ev_h h rfl
theorem s_Stones_farthestLean_11 : Ev sh 80 11 [a0, a1, a2, a3] (.int y :: .int x :: st) σ Q = if y ≤ x then Ev sh 80 37 [a0, a1, a2, a3] st σ Q else Ev sh 80 14 [a0, a1, a2, a3] st σ Q := Ev_if rfl
theorem s_Stones_farthestLean_14 : Ev sh 80 14 [a0, some (.int x), a2, a3] st σ Q = Ev sh 80 15 [a0, some (.int x), a2, a3] (.int x :: st) σ Q := Ev_step rfl
theorem s_Stones_farthestLean_15 : Ev sh 80 15 [some (.ref i), a1, a2, a3] st σ Q = Ev sh 80 16 [some (.ref i), a1, a2, a3] (.ref i :: st) σ Q := Ev_step rfl
theorem s_Stones_farthestLean_16 : Ev sh 80 16 [a0, a1, a2, some (.int x)] st σ Q = Ev sh 80 17 [a0, a1, a2, some (.int x)] (.int x :: st) σ Q := Ev_step rfl
theorem s_Stones_farthestLean_17 (h : sh i1 = 7) : Ev sh 80 17 [a0, a1, a2, a3] [.int x2, .ref i1, .int x0] σ Q = Ev sh 77 0 [some (.ref i1), some (.int x2), none] [] σ (fun r s => Ev sh 80 20 [a0, a1, a2, a3] (zpush r [.int x0]) s Q) := Ev_callh (zrecv_of (by decide) h) rfl
theorem s_Stones_farthestLean_20 : Ev sh 80 20 [a0, a1, a2, a3] (.int y :: .int x :: st) σ Q = Ev sh 80 21 [a0, a1, a2, a3] (.int (x + y) :: st) σ Q := Ev_step rfl
theorem s_Stones_farthestLean_21 : Ev sh 80 21 [a0, a1, a2, a3] (.int x :: st) σ Q = Ev sh 80 22 [zdrop2 a0, some (.int x), a2, a3] st σ Q := Ev_step rfl
theorem s_Stones_farthestLean_22 : Ev sh 80 22 [a0, a1, some (.int x), a3] st σ Q = Ev sh 80 23 [a0, a1, some (.int x), a3] (.int x :: st) σ Q := Ev_step rfl
theorem s_Stones_farthestLean_23 : Ev sh 80 23 [a0, some (.int x), a2, a3] st σ Q = Ev sh 80 24 [a0, some (.int x), a2, a3] (.int x :: st) σ Q := Ev_step rfl
theorem s_Stones_farthestLean_24 : Ev sh 80 24 [a0, a1, a2, a3] [.int x, .int x0] σ Q = Ev sh 80 27 [a0, a1, a2, a3] [.int (if 0 ≤ x then x else 0 - x), .int x0] σ Q := Ev_step rfl
theorem s_Stones_farthestLean_27 : Ev sh 80 27 [a0, a1, a2, a3] [.int y, .int x] σ Q = Ev sh 80 30 [a0, a1, a2, a3] [.int (if x < y then y else x)] σ Q := Ev_step rfl
theorem s_Stones_farthestLean_30 : Ev sh 80 30 [a0, a1, a2, a3] (.int x :: st) σ Q = Ev sh 80 31 [a0, zdrop2 a1, some (.int x), a3] st σ Q := Ev_step rfl
theorem s_Stones_farthestLean_31 : Ev sh 80 31 [a0, a1, a2, some (.int x)] st σ Q = Ev sh 80 34 [a0, a1, a2, some (.int (x + 1))] st σ Q := Ev_step rfl
theorem s_Stones_farthestLean_34 : Ev sh 80 34 [a0, a1, a2, a3] st σ Q = Ev sh 80 6 [a0, a1, a2, a3] st σ Q := Ev_step rfl
theorem s_Stones_farthestLean_37 : Ev sh 80 37 [a0, a1, some (.int x), a3] st σ Q = Ev sh 80 38 [a0, a1, some (.int x), a3] (.int x :: st) σ Q := Ev_step rfl
theorem s_Stones_farthestLean_38 : Ev sh 80 38 [a0, a1, a2, a3] [.int x] σ Q = Q (some (.int x)) σ := Ev_ret rfl
theorem s_Stones_firstLeaning_0 : Ev sh 81 0 [a0, a1, a2] st σ Q = Ev sh 81 1 [a0, a1, a2] (.int 0 :: st) σ Q := Ev_step rfl
theorem s_Stones_firstLeaning_1 : Ev sh 81 1 [a0, a1, a2] (.int x :: st) σ Q = Ev sh 81 2 [zdrop2 a0, some (.int x), a2] st σ Q := Ev_step rfl
theorem s_Stones_firstLeaning_2 : Ev sh 81 2 [a0, a1, a2] st σ Q = Ev sh 81 3 [a0, a1, a2] (.int 0 :: st) σ Q := Ev_step rfl
theorem s_Stones_firstLeaning_3 : Ev sh 81 3 [a0, a1, a2] (.int x :: st) σ Q = Ev sh 81 4 [a0, zdrop2 a1, some (.int x)] st σ Q := Ev_step rfl
theorem s_Stones_firstLeaning_4 : Ev sh 81 4 [a0, a1, some (.int x)] st σ Q = Ev sh 81 5 [a0, a1, some (.int x)] (.int x :: st) σ Q := Ev_step rfl
theorem s_Stones_firstLeaning_5 : Ev sh 81 5 [some (.ref i), a1, a2] st σ Q = Ev sh 81 6 [some (.ref i), a1, a2] (.ref i :: st) σ Q := Ev_step rfl
theorem s_Stones_firstLeaning_6 (h : sh i = 7) : Ev sh 81 6 [a0, a1, a2] (.ref i :: st) σ Q = Ev sh 81 9 [a0, a1, a2] (.int (σ i 3) :: st) σ Q := Ev_h h rfl
theorem s_Stones_firstLeaning_9 : Ev sh 81 9 [a0, a1, a2] (.int y :: .int x :: st) σ Q = if y ≤ x then Ev sh 81 37 [a0, a1, a2] st σ Q else Ev sh 81 12 [a0, a1, a2] st σ Q := Ev_if rfl
theorem s_Stones_firstLeaning_12 : Ev sh 81 12 [a0, some (.int x), a2] st σ Q = Ev sh 81 13 [a0, some (.int x), a2] (.int x :: st) σ Q := Ev_step rfl
theorem s_Stones_firstLeaning_13 : Ev sh 81 13 [some (.ref i), a1, a2] st σ Q = Ev sh 81 14 [some (.ref i), a1, a2] (.ref i :: st) σ Q := Ev_step rfl
theorem s_Stones_firstLeaning_14 : Ev sh 81 14 [a0, a1, some (.int x)] st σ Q = Ev sh 81 15 [a0, a1, some (.int x)] (.int x :: st) σ Q := Ev_step rfl
theorem s_Stones_firstLeaning_15 (h : sh i1 = 7) : Ev sh 81 15 [a0, a1, a2] [.int x2, .ref i1, .int x0] σ Q = Ev sh 77 0 [some (.ref i1), some (.int x2), none] [] σ (fun r s => Ev sh 81 18 [a0, a1, a2] (zpush r [.int x0]) s Q) := Ev_callh (zrecv_of (by decide) h) rfl
theorem s_Stones_firstLeaning_18 : Ev sh 81 18 [a0, a1, a2] (.int y :: .int x :: st) σ Q = Ev sh 81 19 [a0, a1, a2] (.int (x + y) :: st) σ Q := Ev_step rfl
theorem s_Stones_firstLeaning_19 : Ev sh 81 19 [a0, a1, a2] (.int x :: st) σ Q = Ev sh 81 20 [zdrop2 a0, some (.int x), a2] st σ Q := Ev_step rfl
theorem s_Stones_firstLeaning_20 : Ev sh 81 20 [a0, some (.int x), a2] st σ Q = Ev sh 81 21 [a0, some (.int x), a2] (.int x :: st) σ Q := Ev_step rfl
theorem s_Stones_firstLeaning_21 : Ev sh 81 21 [a0, a1, a2] [.int x] σ Q = Ev sh 81 24 [a0, a1, a2] [.int (if 0 ≤ x then x else 0 - x)] σ Q := Ev_step rfl
theorem s_Stones_firstLeaning_24 : Ev sh 81 24 [a0, a1, a2] st σ Q = Ev sh 81 26 [a0, a1, a2] (.int 6 :: st) σ Q := Ev_step rfl
theorem s_Stones_firstLeaning_26 : Ev sh 81 26 [a0, a1, a2] (.int y :: .int x :: st) σ Q = if x ≤ y then Ev sh 81 31 [a0, a1, a2] st σ Q else Ev sh 81 29 [a0, a1, a2] st σ Q := Ev_if rfl
theorem s_Stones_firstLeaning_29 : Ev sh 81 29 [a0, a1, some (.int x)] st σ Q = Ev sh 81 30 [a0, a1, some (.int x)] (.int x :: st) σ Q := Ev_step rfl
theorem s_Stones_firstLeaning_30 : Ev sh 81 30 [a0, a1, a2] [.int x] σ Q = Q (some (.int x)) σ := Ev_ret rfl
theorem s_Stones_firstLeaning_31 : Ev sh 81 31 [a0, a1, some (.int x)] st σ Q = Ev sh 81 34 [a0, a1, some (.int (x + 1))] st σ Q := Ev_step rfl
theorem s_Stones_firstLeaning_34 : Ev sh 81 34 [a0, a1, a2] st σ Q = Ev sh 81 4 [a0, a1, a2] st σ Q := Ev_step rfl
theorem s_Stones_firstLeaning_37 : Ev sh 81 37 [a0, a1, a2] st σ Q = Ev sh 81 39 [a0, a1, a2] (.int (-9) :: st) σ Q := Ev_step rfl
theorem s_Stones_firstLeaning_39 : Ev sh 81 39 [a0, a1, a2] [.int x] σ Q = Q (some (.int x)) σ := Ev_ret rfl
theorem s_Stones_joints_0 : Ev sh 82 0 [some (.ref i)] st σ Q = Ev sh 82 1 [some (.ref i)] (.ref i :: st) σ Q := Ev_step rfl
theorem s_Stones_joints_1 (h : sh i = 7) : Ev sh 82 1 [a0] (.ref i :: st) σ Q = Ev sh 82 4 [a0] (.int (σ i 3) :: st) σ Q := Ev_h h rfl
theorem s_Stones_joints_4 : Ev sh 82 4 [a0] st σ Q = Ev sh 82 5 [a0] (.int 1 :: st) σ Q := Ev_step rfl
theorem s_Stones_joints_5 : Ev sh 82 5 [a0] (.int y :: .int x :: st) σ Q = if x ≤ y then Ev sh 82 17 [a0] st σ Q else Ev sh 82 8 [a0] st σ Q := Ev_if rfl
theorem s_Stones_joints_8 : Ev sh 82 8 [some (.ref i)] st σ Q = Ev sh 82 9 [some (.ref i)] (.ref i :: st) σ Q := Ev_step rfl
theorem s_Stones_joints_9 (h : sh i = 7) : Ev sh 82 9 [a0] (.ref i :: st) σ Q = Ev sh 82 12 [a0] (.int (σ i 3) :: st) σ Q := Ev_h h rfl
theorem s_Stones_joints_12 : Ev sh 82 12 [a0] st σ Q = Ev sh 82 13 [a0] (.int 1 :: st) σ Q := Ev_step rfl
theorem s_Stones_joints_13 : Ev sh 82 13 [a0] (.int y :: .int x :: st) σ Q = Ev sh 82 14 [a0] (.int (x - y) :: st) σ Q := Ev_step rfl
theorem s_Stones_joints_14 : Ev sh 82 14 [a0] st σ Q = Ev sh 82 18 [a0] st σ Q := Ev_step rfl
theorem s_Stones_joints_17 : Ev sh 82 17 [a0] st σ Q = Ev sh 82 18 [a0] (.int 0 :: st) σ Q := Ev_step rfl
theorem s_Stones_joints_18 : Ev sh 82 18 [a0] [.int x] σ Q = Q (some (.int x)) σ := Ev_ret rfl
theorem s_Stones_hasJoint_0 : Ev sh 83 0 [a0, some (.int x)] st σ Q = Ev sh 83 1 [a0, some (.int x)] (.int x :: st) σ Q := Ev_step rfl
theorem s_Stones_hasJoint_1 : Ev sh 83 1 [a0, a1] (.int x :: st) σ Q = if x < 0 then Ev sh 83 24 [a0, a1] st σ Q else Ev sh 83 4 [a0, a1] st σ Q := Ev_if rfl
theorem s_Stones_hasJoint_4 : Ev sh 83 4 [a0, some (.int x)] st σ Q = Ev sh 83 5 [a0, some (.int x)] (.int x :: st) σ Q := Ev_step rfl
theorem s_Stones_hasJoint_5 : Ev sh 83 5 [some (.ref i), a1] st σ Q = Ev sh 83 6 [some (.ref i), a1] (.ref i :: st) σ Q := Ev_step rfl
theorem s_Stones_hasJoint_6 (h : sh i = 7) : Ev sh 83 6 [a0, a1] (.ref i :: st) σ Q = Ev sh 83 9 [a0, a1] (.int (σ i 3) :: st) σ Q := Ev_h h rfl
theorem s_Stones_hasJoint_9 : Ev sh 83 9 [a0, a1] st σ Q = Ev sh 83 10 [a0, a1] (.int 1 :: st) σ Q := Ev_step rfl
theorem s_Stones_hasJoint_10 : Ev sh 83 10 [a0, a1] (.int y :: .int x :: st) σ Q = Ev sh 83 11 [a0, a1] (.int (x - y) :: st) σ Q := Ev_step rfl
theorem s_Stones_hasJoint_11 : Ev sh 83 11 [a0, a1] (.int y :: .int x :: st) σ Q = if y ≤ x then Ev sh 83 24 [a0, a1] st σ Q else Ev sh 83 14 [a0, a1] st σ Q := Ev_if rfl
theorem s_Stones_hasJoint_14 : Ev sh 83 14 [a0, some (.int x)] st σ Q = Ev sh 83 15 [a0, some (.int x)] (.int x :: st) σ Q := Ev_step rfl
theorem s_Stones_hasJoint_15 : Ev sh 83 15 [a0, a1] st σ Q = Ev sh 83 17 [a0, a1] (.int 12 :: st) σ Q := Ev_step rfl
theorem s_Stones_hasJoint_17 : Ev sh 83 17 [a0, a1] (.int y :: .int x :: st) σ Q = if y ≤ x then Ev sh 83 24 [a0, a1] st σ Q else Ev sh 83 20 [a0, a1] st σ Q := Ev_if rfl
theorem s_Stones_hasJoint_20 : Ev sh 83 20 [a0, a1] st σ Q = Ev sh 83 21 [a0, a1] (.int 1 :: st) σ Q := Ev_step rfl
theorem s_Stones_hasJoint_21 : Ev sh 83 21 [a0, a1] st σ Q = Ev sh 83 25 [a0, a1] st σ Q := Ev_step rfl
theorem s_Stones_hasJoint_24 : Ev sh 83 24 [a0, a1] st σ Q = Ev sh 83 25 [a0, a1] (.int 0 :: st) σ Q := Ev_step rfl
theorem s_Stones_hasJoint_25 (h : x = 0 ∨ x = 1) : Ev sh 83 25 [a0, a1] [.int x] σ Q = Q (some (.int x)) σ := Ev_rh h rfl
theorem s_Stones_isOfOneKind_0 : Ev sh 84 0 [some (.ref i), a1] st σ Q = Ev sh 84 1 [some (.ref i), a1] (.ref i :: st) σ Q := Ev_step rfl
theorem s_Stones_isOfOneKind_1 : Ev sh 84 1 [a0, some (.int x)] st σ Q = Ev sh 84 2 [a0, some (.int x)] (.int x :: st) σ Q := Ev_step rfl
theorem s_Stones_isOfOneKind_2 (h : sh i0 = 7) : Ev sh 84 2 [a0, a1] [.int x1, .ref i0] σ Q = Ev sh 83 0 [some (.ref i0), some (.int x1)] [] σ (fun r s => Ev sh 84 5 [a0, a1] (zpush r []) s Q) := Ev_callh (zrecv_of (by decide) h) rfl
theorem s_Stones_isOfOneKind_5 : Ev sh 84 5 [a0, a1] (.int x :: st) σ Q = if x = 0 then Ev sh 84 29 [a0, a1] st σ Q else Ev sh 84 8 [a0, a1] st σ Q := Ev_if rfl
theorem s_Stones_isOfOneKind_8 : Ev sh 84 8 [some (.ref i), a1] st σ Q = Ev sh 84 9 [some (.ref i), a1] (.ref i :: st) σ Q := Ev_step rfl
theorem s_Stones_isOfOneKind_9 (h : sh i = 7) : Ev sh 84 9 [a0, a1] (.ref i :: st) σ Q = Ev sh 84 12 [a0, a1] (.ref (i + 1) :: st) σ Q := Ev_h h rfl
theorem s_Stones_isOfOneKind_12 : Ev sh 84 12 [a0, some (.int x)] st σ Q = Ev sh 84 13 [a0, some (.int x)] (.int x :: st) σ Q := Ev_step rfl
theorem s_Stones_isOfOneKind_13 (h : zin x (sh i) = true) : Ev sh 84 13 [a0, a1] (.int x :: .ref i :: st) σ Q = Ev sh 84 14 [a0, a1] (.int (σ i x.toNatClampNeg) :: st) σ Q := Ev_h h rfl
theorem s_Stones_isOfOneKind_14 : Ev sh 84 14 [some (.ref i), a1] st σ Q = Ev sh 84 15 [some (.ref i), a1] (.ref i :: st) σ Q := Ev_step rfl
theorem s_Stones_isOfOneKind_15 (h : sh i = 7) : Ev sh 84 15 [a0, a1] (.ref i :: st) σ Q = Ev sh 84 18 [a0, a1] (.ref (i + 1) :: st) σ Q := Ev_h h rfl
theorem s_Stones_isOfOneKind_18 : Ev sh 84 18 [a0, some (.int x)] st σ Q = Ev sh 84 19 [a0, some (.int x)] (.int x :: st) σ Q := Ev_step rfl
theorem s_Stones_isOfOneKind_19 : Ev sh 84 19 [a0, a1] st σ Q = Ev sh 84 20 [a0, a1] (.int 1 :: st) σ Q := Ev_step rfl
theorem s_Stones_isOfOneKind_20 : Ev sh 84 20 [a0, a1] (.int y :: .int x :: st) σ Q = Ev sh 84 21 [a0, a1] (.int (x + y) :: st) σ Q := Ev_step rfl
theorem s_Stones_isOfOneKind_21 (h : zin x (sh i) = true) : Ev sh 84 21 [a0, a1] (.int x :: .ref i :: st) σ Q = Ev sh 84 22 [a0, a1] (.int (σ i x.toNatClampNeg) :: st) σ Q := Ev_h h rfl
theorem s_Stones_isOfOneKind_22 : Ev sh 84 22 [a0, a1] (.int y :: .int x :: st) σ Q = if x ≠ y then Ev sh 84 29 [a0, a1] st σ Q else Ev sh 84 25 [a0, a1] st σ Q := Ev_if rfl
theorem s_Stones_isOfOneKind_25 : Ev sh 84 25 [a0, a1] st σ Q = Ev sh 84 26 [a0, a1] (.int 1 :: st) σ Q := Ev_step rfl
theorem s_Stones_isOfOneKind_26 : Ev sh 84 26 [a0, a1] st σ Q = Ev sh 84 30 [a0, a1] st σ Q := Ev_step rfl
theorem s_Stones_isOfOneKind_29 : Ev sh 84 29 [a0, a1] st σ Q = Ev sh 84 30 [a0, a1] (.int 0 :: st) σ Q := Ev_step rfl
theorem s_Stones_isOfOneKind_30 (h : x = 0 ∨ x = 1) : Ev sh 84 30 [a0, a1] [.int x] σ Q = Q (some (.int x)) σ := Ev_rh h rfl
theorem s_Stones_isLaidByTwo_0 : Ev sh 85 0 [some (.ref i), a1] st σ Q = Ev sh 85 1 [some (.ref i), a1] (.ref i :: st) σ Q := Ev_step rfl
theorem s_Stones_isLaidByTwo_1 : Ev sh 85 1 [a0, some (.int x)] st σ Q = Ev sh 85 2 [a0, some (.int x)] (.int x :: st) σ Q := Ev_step rfl
theorem s_Stones_isLaidByTwo_2 (h : sh i0 = 7) : Ev sh 85 2 [a0, a1] [.int x1, .ref i0] σ Q = Ev sh 83 0 [some (.ref i0), some (.int x1)] [] σ (fun r s => Ev sh 85 5 [a0, a1] (zpush r []) s Q) := Ev_callh (zrecv_of (by decide) h) rfl
theorem s_Stones_isLaidByTwo_5 : Ev sh 85 5 [a0, a1] (.int x :: st) σ Q = if x = 0 then Ev sh 85 29 [a0, a1] st σ Q else Ev sh 85 8 [a0, a1] st σ Q := Ev_if rfl
theorem s_Stones_isLaidByTwo_8 : Ev sh 85 8 [some (.ref i), a1] st σ Q = Ev sh 85 9 [some (.ref i), a1] (.ref i :: st) σ Q := Ev_step rfl
theorem s_Stones_isLaidByTwo_9 (h : sh i = 7) : Ev sh 85 9 [a0, a1] (.ref i :: st) σ Q = Ev sh 85 12 [a0, a1] (.ref (i + 3) :: st) σ Q := Ev_h h rfl
theorem s_Stones_isLaidByTwo_12 : Ev sh 85 12 [a0, some (.int x)] st σ Q = Ev sh 85 13 [a0, some (.int x)] (.int x :: st) σ Q := Ev_step rfl
theorem s_Stones_isLaidByTwo_13 (h : zin x (sh i) = true) : Ev sh 85 13 [a0, a1] (.int x :: .ref i :: st) σ Q = Ev sh 85 14 [a0, a1] (.int (σ i x.toNatClampNeg) :: st) σ Q := Ev_h h rfl
theorem s_Stones_isLaidByTwo_14 : Ev sh 85 14 [some (.ref i), a1] st σ Q = Ev sh 85 15 [some (.ref i), a1] (.ref i :: st) σ Q := Ev_step rfl
theorem s_Stones_isLaidByTwo_15 (h : sh i = 7) : Ev sh 85 15 [a0, a1] (.ref i :: st) σ Q = Ev sh 85 18 [a0, a1] (.ref (i + 3) :: st) σ Q := Ev_h h rfl
theorem s_Stones_isLaidByTwo_18 : Ev sh 85 18 [a0, some (.int x)] st σ Q = Ev sh 85 19 [a0, some (.int x)] (.int x :: st) σ Q := Ev_step rfl
theorem s_Stones_isLaidByTwo_19 : Ev sh 85 19 [a0, a1] st σ Q = Ev sh 85 20 [a0, a1] (.int 1 :: st) σ Q := Ev_step rfl
theorem s_Stones_isLaidByTwo_20 : Ev sh 85 20 [a0, a1] (.int y :: .int x :: st) σ Q = Ev sh 85 21 [a0, a1] (.int (x + y) :: st) σ Q := Ev_step rfl
theorem s_Stones_isLaidByTwo_21 (h : zin x (sh i) = true) : Ev sh 85 21 [a0, a1] (.int x :: .ref i :: st) σ Q = Ev sh 85 22 [a0, a1] (.int (σ i x.toNatClampNeg) :: st) σ Q := Ev_h h rfl
theorem s_Stones_isLaidByTwo_22 : Ev sh 85 22 [a0, a1] (.int y :: .int x :: st) σ Q = if x = y then Ev sh 85 29 [a0, a1] st σ Q else Ev sh 85 25 [a0, a1] st σ Q := Ev_if rfl
theorem s_Stones_isLaidByTwo_25 : Ev sh 85 25 [a0, a1] st σ Q = Ev sh 85 26 [a0, a1] (.int 1 :: st) σ Q := Ev_step rfl
theorem s_Stones_isLaidByTwo_26 : Ev sh 85 26 [a0, a1] st σ Q = Ev sh 85 30 [a0, a1] st σ Q := Ev_step rfl
theorem s_Stones_isLaidByTwo_29 : Ev sh 85 29 [a0, a1] st σ Q = Ev sh 85 30 [a0, a1] (.int 0 :: st) σ Q := Ev_step rfl
theorem s_Stones_isLaidByTwo_30 (h : x = 0 ∨ x = 1) : Ev sh 85 30 [a0, a1] [.int x] σ Q = Q (some (.int x)) σ := Ev_rh h rfl
theorem s_Stones_heldBy_0 : Ev sh 86 0 [some (.ref i), a1, a2] st σ Q = Ev sh 86 1 [some (.ref i), a1, a2] (.ref i :: st) σ Q := Ev_step rfl
theorem s_Stones_heldBy_1 : Ev sh 86 1 [a0, some (.int x), a2] st σ Q = Ev sh 86 2 [a0, some (.int x), a2] (.int x :: st) σ Q := Ev_step rfl
theorem s_Stones_heldBy_2 (h : sh i0 = 7) : Ev sh 86 2 [a0, a1, a2] [.int x1, .ref i0] σ Q = Ev sh 83 0 [some (.ref i0), some (.int x1)] [] σ (fun r s => Ev sh 86 5 [a0, a1, a2] (zpush r []) s Q) := Ev_callh (zrecv_of (by decide) h) rfl
theorem s_Stones_heldBy_5 : Ev sh 86 5 [a0, a1, a2] (.int x :: st) σ Q = if x ≠ 0 then Ev sh 86 10 [a0, a1, a2] st σ Q else Ev sh 86 8 [a0, a1, a2] st σ Q := Ev_if rfl
theorem s_Stones_heldBy_8 : Ev sh 86 8 [a0, a1, a2] st σ Q = Ev sh 86 9 [a0, a1, a2] (.int 0 :: st) σ Q := Ev_step rfl
theorem s_Stones_heldBy_9 : Ev sh 86 9 [a0, a1, a2] [.int x] σ Q = Q (some (.int x)) σ := Ev_ret rfl
theorem s_Stones_heldBy_10 : Ev sh 86 10 [some (.ref i), a1, a2] st σ Q = Ev sh 86 11 [some (.ref i), a1, a2] (.ref i :: st) σ Q := Ev_step rfl
theorem s_Stones_heldBy_11 : Ev sh 86 11 [a0, some (.int x), a2] st σ Q = Ev sh 86 12 [a0, some (.int x), a2] (.int x :: st) σ Q := Ev_step rfl
theorem s_Stones_heldBy_12 (h : sh i0 = 7) : Ev sh 86 12 [a0, a1, a2] [.int x1, .ref i0] σ Q = Ev sh 76 0 [some (.ref i0), some (.int x1), none] [] σ (fun r s => Ev sh 86 15 [a0, a1, a2] (zpush r []) s Q) := Ev_callh (zrecv_of (by decide) h) rfl
theorem s_Stones_heldBy_15 : Ev sh 86 15 [some (.ref i), a1, a2] st σ Q = Ev sh 86 16 [some (.ref i), a1, a2] (.ref i :: st) σ Q := Ev_step rfl
theorem s_Stones_heldBy_16 : Ev sh 86 16 [a0, some (.int x), a2] st σ Q = Ev sh 86 17 [a0, some (.int x), a2] (.int x :: st) σ Q := Ev_step rfl
theorem s_Stones_heldBy_17 : Ev sh 86 17 [a0, a1, a2] st σ Q = Ev sh 86 18 [a0, a1, a2] (.int 1 :: st) σ Q := Ev_step rfl
theorem s_Stones_heldBy_18 : Ev sh 86 18 [a0, a1, a2] (.int y :: .int x :: st) σ Q = Ev sh 86 19 [a0, a1, a2] (.int (x + y) :: st) σ Q := Ev_step rfl
theorem s_Stones_heldBy_19 (h : sh i1 = 7) : Ev sh 86 19 [a0, a1, a2] [.int x2, .ref i1, .int x0] σ Q = Ev sh 76 0 [some (.ref i1), some (.int x2), none] [] σ (fun r s => Ev sh 86 22 [a0, a1, a2] (zpush r [.int x0]) s Q) := Ev_callh (zrecv_of (by decide) h) rfl
theorem s_Stones_heldBy_22 : Ev sh 86 22 [a0, a1, a2] [.int y, .int x] σ Q = Ev sh 86 25 [a0, a1, a2] [.int (if y < x then y else x)] σ Q := Ev_step rfl
theorem s_Stones_heldBy_25 : Ev sh 86 25 [a0, a1, a2] (.int x :: st) σ Q = Ev sh 86 26 [a0, zdrop2 a1, some (.int x)] st σ Q := Ev_step rfl
theorem s_Stones_heldBy_26 : Ev sh 86 26 [some (.ref i), a1, a2] st σ Q = Ev sh 86 27 [some (.ref i), a1, a2] (.ref i :: st) σ Q := Ev_step rfl
theorem s_Stones_heldBy_27 (h : sh i = 7) : Ev sh 86 27 [a0, a1, a2] (.ref i :: st) σ Q = Ev sh 86 30 [a0, a1, a2] (.ref (i + 1) :: st) σ Q := Ev_h h rfl
theorem s_Stones_heldBy_30 : Ev sh 86 30 [a0, some (.int x), a2] st σ Q = Ev sh 86 31 [a0, some (.int x), a2] (.int x :: st) σ Q := Ev_step rfl
theorem s_Stones_heldBy_31 (h : zin x (sh i) = true) : Ev sh 86 31 [a0, a1, a2] (.int x :: .ref i :: st) σ Q = Ev sh 86 32 [a0, a1, a2] (.int (σ i x.toNatClampNeg) :: st) σ Q := Ev_h h rfl
theorem s_Stones_heldBy_32 : Ev sh 86 32 [some (.ref i), a1, a2] st σ Q = Ev sh 86 33 [some (.ref i), a1, a2] (.ref i :: st) σ Q := Ev_step rfl
theorem s_Stones_heldBy_33 (h : sh i = 7) : Ev sh 86 33 [a0, a1, a2] (.ref i :: st) σ Q = Ev sh 86 36 [a0, a1, a2] (.ref (i + 1) :: st) σ Q := Ev_h h rfl
theorem s_Stones_heldBy_36 : Ev sh 86 36 [a0, some (.int x), a2] st σ Q = Ev sh 86 37 [a0, some (.int x), a2] (.int x :: st) σ Q := Ev_step rfl
theorem s_Stones_heldBy_37 : Ev sh 86 37 [a0, a1, a2] st σ Q = Ev sh 86 38 [a0, a1, a2] (.int 1 :: st) σ Q := Ev_step rfl
theorem s_Stones_heldBy_38 : Ev sh 86 38 [a0, a1, a2] (.int y :: .int x :: st) σ Q = Ev sh 86 39 [a0, a1, a2] (.int (x + y) :: st) σ Q := Ev_step rfl
theorem s_Stones_heldBy_39 (h : zin x (sh i) = true) : Ev sh 86 39 [a0, a1, a2] (.int x :: .ref i :: st) σ Q = Ev sh 86 40 [a0, a1, a2] (.int (σ i x.toNatClampNeg) :: st) σ Q := Ev_h h rfl
theorem s_Stones_heldBy_40 : Ev sh 86 40 [a0, a1, a2] (.int y :: .int x :: st) σ Q = if x ≠ y then Ev sh 86 47 [a0, a1, a2] st σ Q else Ev sh 86 43 [a0, a1, a2] st σ Q := Ev_if rfl
theorem s_Stones_heldBy_43 : Ev sh 86 43 [a0, a1, some (.int x)] st σ Q = Ev sh 86 44 [a0, a1, some (.int x)] (.int x :: st) σ Q := Ev_step rfl
theorem s_Stones_heldBy_44 : Ev sh 86 44 [a0, a1, a2] st σ Q = Ev sh 86 45 [a0, a1, a2] (.int 3 :: st) σ Q := Ev_step rfl
theorem s_Stones_heldBy_45 : Ev sh 86 45 [a0, a1, a2] (.int y :: .int x :: st) σ Q = Ev sh 86 46 [a0, a1, a2] (.int (x + y) :: st) σ Q := Ev_step rfl
theorem s_Stones_heldBy_46 : Ev sh 86 46 [a0, a1, a2] [.int x] σ Q = Q (some (.int x)) σ := Ev_ret rfl
theorem s_Stones_heldBy_47 : Ev sh 86 47 [some (.ref i), a1, a2] st σ Q = Ev sh 86 48 [some (.ref i), a1, a2] (.ref i :: st) σ Q := Ev_step rfl
theorem s_Stones_heldBy_48 (h : sh i = 7) : Ev sh 86 48 [a0, a1, a2] (.ref i :: st) σ Q = Ev sh 86 51 [a0, a1, a2] (.ref (i + 3) :: st) σ Q := Ev_h h rfl
theorem s_Stones_heldBy_51 : Ev sh 86 51 [a0, some (.int x), a2] st σ Q = Ev sh 86 52 [a0, some (.int x), a2] (.int x :: st) σ Q := Ev_step rfl
theorem s_Stones_heldBy_52 (h : zin x (sh i) = true) : Ev sh 86 52 [a0, a1, a2] (.int x :: .ref i :: st) σ Q = Ev sh 86 53 [a0, a1, a2] (.int (σ i x.toNatClampNeg) :: st) σ Q := Ev_h h rfl
theorem s_Stones_heldBy_53 : Ev sh 86 53 [some (.ref i), a1, a2] st σ Q = Ev sh 86 54 [some (.ref i), a1, a2] (.ref i :: st) σ Q := Ev_step rfl
theorem s_Stones_heldBy_54 (h : sh i = 7) : Ev sh 86 54 [a0, a1, a2] (.ref i :: st) σ Q = Ev sh 86 57 [a0, a1, a2] (.ref (i + 3) :: st) σ Q := Ev_h h rfl
theorem s_Stones_heldBy_57 : Ev sh 86 57 [a0, some (.int x), a2] st σ Q = Ev sh 86 58 [a0, some (.int x), a2] (.int x :: st) σ Q := Ev_step rfl
theorem s_Stones_heldBy_58 : Ev sh 86 58 [a0, a1, a2] st σ Q = Ev sh 86 59 [a0, a1, a2] (.int 1 :: st) σ Q := Ev_step rfl
theorem s_Stones_heldBy_59 : Ev sh 86 59 [a0, a1, a2] (.int y :: .int x :: st) σ Q = Ev sh 86 60 [a0, a1, a2] (.int (x + y) :: st) σ Q := Ev_step rfl
theorem s_Stones_heldBy_60 (h : zin x (sh i) = true) : Ev sh 86 60 [a0, a1, a2] (.int x :: .ref i :: st) σ Q = Ev sh 86 61 [a0, a1, a2] (.int (σ i x.toNatClampNeg) :: st) σ Q := Ev_h h rfl
theorem s_Stones_heldBy_61 : Ev sh 86 61 [a0, a1, a2] (.int y :: .int x :: st) σ Q = if x ≠ y then Ev sh 86 68 [a0, a1, a2] st σ Q else Ev sh 86 64 [a0, a1, a2] st σ Q := Ev_if rfl
theorem s_Stones_heldBy_64 : Ev sh 86 64 [a0, a1, some (.int x)] st σ Q = Ev sh 86 65 [a0, a1, some (.int x)] (.int x :: st) σ Q := Ev_step rfl
theorem s_Stones_heldBy_65 : Ev sh 86 65 [a0, a1, a2] st σ Q = Ev sh 86 75 [a0, a1, a2] st σ Q := Ev_step rfl
theorem s_Stones_heldBy_68 : Ev sh 86 68 [a0, a1, some (.int x)] st σ Q = Ev sh 86 69 [a0, a1, some (.int x)] (.int x :: st) σ Q := Ev_step rfl
theorem s_Stones_heldBy_69 : Ev sh 86 69 [a0, a1, a2] st σ Q = Ev sh 86 70 [a0, a1, a2] (.int 1 :: st) σ Q := Ev_step rfl
theorem s_Stones_heldBy_70 : Ev sh 86 70 [a0, a1, a2] (.int y :: .int x :: st) σ Q = Ev sh 86 71 [a0, a1, a2] (.int (x - y) :: st) σ Q := Ev_step rfl
theorem s_Stones_heldBy_71 : Ev sh 86 71 [a0, a1, a2] st σ Q = Ev sh 86 72 [a0, a1, a2] (.int 0 :: st) σ Q := Ev_step rfl
theorem s_Stones_heldBy_72 : Ev sh 86 72 [a0, a1, a2] [.int y, .int x] σ Q = Ev sh 86 75 [a0, a1, a2] [.int (if x < y then y else x)] σ Q := Ev_step rfl
theorem s_Stones_heldBy_75 : Ev sh 86 75 [a0, a1, a2] [.int x] σ Q = Q (some (.int x)) σ := Ev_ret rfl
theorem s_Stones_loadOn_0 : Ev sh 87 0 [some (.ref i), a1] st σ Q = Ev sh 87 1 [some (.ref i), a1] (.ref i :: st) σ Q := Ev_step rfl
theorem s_Stones_loadOn_1 (h : sh i = 7) : Ev sh 87 1 [a0, a1] (.ref i :: st) σ Q = Ev sh 87 4 [a0, a1] (.int (σ i 3) :: st) σ Q := Ev_h h rfl
theorem s_Stones_loadOn_4 : Ev sh 87 4 [a0, a1] st σ Q = Ev sh 87 5 [a0, a1] (.int 1 :: st) σ Q := Ev_step rfl
theorem s_Stones_loadOn_5 : Ev sh 87 5 [a0, a1] (.int y :: .int x :: st) σ Q = Ev sh 87 6 [a0, a1] (.int (x - y) :: st) σ Q := Ev_step rfl
theorem s_Stones_loadOn_6 : Ev sh 87 6 [a0, some (.int x)] st σ Q = Ev sh 87 7 [a0, some (.int x)] (.int x :: st) σ Q := Ev_step rfl
theorem s_Stones_loadOn_7 : Ev sh 87 7 [a0, a1] (.int y :: .int x :: st) σ Q = Ev sh 87 8 [a0, a1] (.int (x - y) :: st) σ Q := Ev_step rfl
theorem s_Stones_loadOn_8 : Ev sh 87 8 [a0, a1] st σ Q = Ev sh 87 9 [a0, a1] (.int 2 :: st) σ Q := Ev_step rfl
theorem s_Stones_loadOn_9 (h : ¬ y = 0) : Ev sh 87 9 [a0, a1] (.int y :: .int x :: st) σ Q = Ev sh 87 10 [a0, a1] (.int (x / y) :: st) σ Q := Ev_h h rfl
theorem s_Stones_loadOn_10 : Ev sh 87 10 [a0, a1] st σ Q = Ev sh 87 11 [a0, a1] (.int 1 :: st) σ Q := Ev_step rfl
theorem s_Stones_loadOn_11 : Ev sh 87 11 [a0, a1] (.int y :: .int x :: st) σ Q = Ev sh 87 12 [a0, a1] (.int (x + y) :: st) σ Q := Ev_step rfl
theorem s_Stones_loadOn_12 : Ev sh 87 12 [a0, a1] [.int x] σ Q = Q (some (.int x)) σ := Ev_ret rfl
theorem s_Stones_spareOf_0 : Ev sh 88 0 [some (.ref i), a1] st σ Q = Ev sh 88 1 [some (.ref i), a1] (.ref i :: st) σ Q := Ev_step rfl
theorem s_Stones_spareOf_1 : Ev sh 88 1 [a0, some (.int x)] st σ Q = Ev sh 88 2 [a0, some (.int x)] (.int x :: st) σ Q := Ev_step rfl
theorem s_Stones_spareOf_2 (h : sh i0 = 7) : Ev sh 88 2 [a0, a1] [.int x1, .ref i0] σ Q = Ev sh 86 0 [some (.ref i0), some (.int x1), none] [] σ (fun r s => Ev sh 88 5 [a0, a1] (zpush r []) s Q) := Ev_callh (zrecv_of (by decide) h) rfl
theorem s_Stones_spareOf_5 : Ev sh 88 5 [some (.ref i), a1] st σ Q = Ev sh 88 6 [some (.ref i), a1] (.ref i :: st) σ Q := Ev_step rfl
theorem s_Stones_spareOf_6 : Ev sh 88 6 [a0, some (.int x)] st σ Q = Ev sh 88 7 [a0, some (.int x)] (.int x :: st) σ Q := Ev_step rfl
theorem s_Stones_spareOf_7 (h : sh i1 = 7) : Ev sh 88 7 [a0, a1] [.int x2, .ref i1, .int x0] σ Q = Ev sh 87 0 [some (.ref i1), some (.int x2)] [] σ (fun r s => Ev sh 88 10 [a0, a1] (zpush r [.int x0]) s Q) := Ev_callh (zrecv_of (by decide) h) rfl
theorem s_Stones_spareOf_10 : Ev sh 88 10 [a0, a1] (.int y :: .int x :: st) σ Q = Ev sh 88 11 [a0, a1] (.int (x - y) :: st) σ Q := Ev_step rfl
theorem s_Stones_spareOf_11 : Ev sh 88 11 [a0, a1] [.int x] σ Q = Q (some (.int x)) σ := Ev_ret rfl
theorem s_Stones_firstBreak_0 : Ev sh 89 0 [a0, a1] st σ Q = Ev sh 89 1 [a0, a1] (.int 0 :: st) σ Q := Ev_step rfl
theorem s_Stones_firstBreak_1 : Ev sh 89 1 [a0, a1] (.int x :: st) σ Q = Ev sh 89 2 [zdrop2 a0, some (.int x)] st σ Q := Ev_step rfl
theorem s_Stones_firstBreak_2 : Ev sh 89 2 [a0, some (.int x)] st σ Q = Ev sh 89 3 [a0, some (.int x)] (.int x :: st) σ Q := Ev_step rfl
theorem s_Stones_firstBreak_3 : Ev sh 89 3 [some (.ref i), a1] st σ Q = Ev sh 89 4 [some (.ref i), a1] (.ref i :: st) σ Q := Ev_step rfl
theorem s_Stones_firstBreak_4 (h : sh i1 = 7) : Ev sh 89 4 [a0, a1] [.ref i1, .int x0] σ Q = Ev sh 82 0 [some (.ref i1)] [] σ (fun r s => Ev sh 89 7 [a0, a1] (zpush r [.int x0]) s Q) := Ev_callh (zrecv_of (by decide) h) rfl
theorem s_Stones_firstBreak_7 : Ev sh 89 7 [a0, a1] (.int y :: .int x :: st) σ Q = if y ≤ x then Ev sh 89 26 [a0, a1] st σ Q else Ev sh 89 10 [a0, a1] st σ Q := Ev_if rfl
theorem s_Stones_firstBreak_10 : Ev sh 89 10 [some (.ref i), a1] st σ Q = Ev sh 89 11 [some (.ref i), a1] (.ref i :: st) σ Q := Ev_step rfl
theorem s_Stones_firstBreak_11 : Ev sh 89 11 [a0, some (.int x)] st σ Q = Ev sh 89 12 [a0, some (.int x)] (.int x :: st) σ Q := Ev_step rfl
theorem s_Stones_firstBreak_12 (h : sh i0 = 7) : Ev sh 89 12 [a0, a1] [.int x1, .ref i0] σ Q = Ev sh 88 0 [some (.ref i0), some (.int x1)] [] σ (fun r s => Ev sh 89 15 [a0, a1] (zpush r []) s Q) := Ev_callh (zrecv_of (by decide) h) rfl
theorem s_Stones_firstBreak_15 : Ev sh 89 15 [a0, a1] (.int x :: st) σ Q = if 0 ≤ x then Ev sh 89 20 [a0, a1] st σ Q else Ev sh 89 18 [a0, a1] st σ Q := Ev_if rfl
theorem s_Stones_firstBreak_18 : Ev sh 89 18 [a0, some (.int x)] st σ Q = Ev sh 89 19 [a0, some (.int x)] (.int x :: st) σ Q := Ev_step rfl
theorem s_Stones_firstBreak_19 : Ev sh 89 19 [a0, a1] [.int x] σ Q = Q (some (.int x)) σ := Ev_ret rfl
theorem s_Stones_firstBreak_20 : Ev sh 89 20 [a0, some (.int x)] st σ Q = Ev sh 89 23 [a0, some (.int (x + 1))] st σ Q := Ev_step rfl
theorem s_Stones_firstBreak_23 : Ev sh 89 23 [a0, a1] st σ Q = Ev sh 89 2 [a0, a1] st σ Q := Ev_step rfl
theorem s_Stones_firstBreak_26 : Ev sh 89 26 [a0, a1] st σ Q = Ev sh 89 28 [a0, a1] (.int (-9) :: st) σ Q := Ev_step rfl
theorem s_Stones_firstBreak_28 : Ev sh 89 28 [a0, a1] [.int x] σ Q = Q (some (.int x)) σ := Ev_ret rfl
theorem s_Stones_stand_0 : Ev sh 90 0 [some (.ref i)] st σ Q = Ev sh 90 1 [some (.ref i)] (.ref i :: st) σ Q := Ev_step rfl
theorem s_Stones_stand_1 (h : sh i0 = 7) : Ev sh 90 1 [a0] [.ref i0] σ Q = Ev sh 89 0 [some (.ref i0), none] [] σ (fun r s => Ev sh 90 4 [a0] (zpush r []) s Q) := Ev_callh (zrecv_of (by decide) h) rfl
theorem s_Stones_stand_4 : Ev sh 90 4 [a0] st σ Q = Ev sh 90 6 [a0] (.int (-9) :: st) σ Q := Ev_step rfl
theorem s_Stones_stand_6 : Ev sh 90 6 [a0] (.int y :: .int x :: st) σ Q = if x ≠ y then Ev sh 90 22 [a0] st σ Q else Ev sh 90 9 [a0] st σ Q := Ev_if rfl
theorem s_Stones_stand_9 : Ev sh 90 9 [some (.ref i)] st σ Q = Ev sh 90 10 [some (.ref i)] (.ref i :: st) σ Q := Ev_step rfl
theorem s_Stones_stand_10 (h : sh i0 = 7) : Ev sh 90 10 [a0] [.ref i0] σ Q = Ev sh 81 0 [some (.ref i0), none, none] [] σ (fun r s => Ev sh 90 13 [a0] (zpush r []) s Q) := Ev_callh (zrecv_of (by decide) h) rfl
theorem s_Stones_stand_13 : Ev sh 90 13 [a0] st σ Q = Ev sh 90 15 [a0] (.int (-9) :: st) σ Q := Ev_step rfl
theorem s_Stones_stand_15 : Ev sh 90 15 [a0] (.int y :: .int x :: st) σ Q = if x ≠ y then Ev sh 90 22 [a0] st σ Q else Ev sh 90 18 [a0] st σ Q := Ev_if rfl
theorem s_Stones_stand_18 : Ev sh 90 18 [a0] st σ Q = Ev sh 90 19 [a0] (.int 1 :: st) σ Q := Ev_step rfl
theorem s_Stones_stand_19 : Ev sh 90 19 [a0] st σ Q = Ev sh 90 23 [a0] st σ Q := Ev_step rfl
theorem s_Stones_stand_22 : Ev sh 90 22 [a0] st σ Q = Ev sh 90 23 [a0] (.int 0 :: st) σ Q := Ev_step rfl
theorem s_Stones_stand_23 (h : x = 0 ∨ x = 1) : Ev sh 90 23 [a0] [.int x] σ Q = Q (some (.int x)) σ := Ev_rh h rfl
theorem s_Stones_leastSpare_0 : Ev sh 91 0 [some (.ref i), a1, a2] st σ Q = Ev sh 91 1 [some (.ref i), a1, a2] (.ref i :: st) σ Q := Ev_step rfl
theorem s_Stones_leastSpare_1 (h : sh i0 = 7) : Ev sh 91 1 [a0, a1, a2] [.ref i0] σ Q = Ev sh 82 0 [some (.ref i0)] [] σ (fun r s => Ev sh 91 4 [a0, a1, a2] (zpush r []) s Q) := Ev_callh (zrecv_of (by decide) h) rfl
theorem s_Stones_leastSpare_4 : Ev sh 91 4 [a0, a1, a2] (.int x :: st) σ Q = if x ≠ 0 then Ev sh 91 11 [a0, a1, a2] st σ Q else Ev sh 91 7 [a0, a1, a2] st σ Q := Ev_if rfl
theorem s_Stones_leastSpare_7 : Ev sh 91 7 [a0, a1, a2] st σ Q = Ev sh 91 8 [a0, a1, a2] (.int 0 :: st) σ Q := Ev_step rfl
theorem s_Stones_leastSpare_8 : Ev sh 91 8 [a0, a1, a2] st σ Q = Ev sh 91 16 [a0, a1, a2] st σ Q := Ev_step rfl
theorem s_Stones_leastSpare_11 : Ev sh 91 11 [some (.ref i), a1, a2] st σ Q = Ev sh 91 12 [some (.ref i), a1, a2] (.ref i :: st) σ Q := Ev_step rfl
theorem s_Stones_leastSpare_12 : Ev sh 91 12 [a0, a1, a2] st σ Q = Ev sh 91 13 [a0, a1, a2] (.int 0 :: st) σ Q := Ev_step rfl
theorem s_Stones_leastSpare_13 (h : sh i0 = 7) : Ev sh 91 13 [a0, a1, a2] [.int x1, .ref i0] σ Q = Ev sh 88 0 [some (.ref i0), some (.int x1)] [] σ (fun r s => Ev sh 91 16 [a0, a1, a2] (zpush r []) s Q) := Ev_callh (zrecv_of (by decide) h) rfl
theorem s_Stones_leastSpare_16 : Ev sh 91 16 [a0, a1, a2] (.int x :: st) σ Q = Ev sh 91 17 [zdrop2 a0, some (.int x), a2] st σ Q := Ev_step rfl
theorem s_Stones_leastSpare_17 : Ev sh 91 17 [a0, a1, a2] st σ Q = Ev sh 91 18 [a0, a1, a2] (.int 1 :: st) σ Q := Ev_step rfl
theorem s_Stones_leastSpare_18 : Ev sh 91 18 [a0, a1, a2] (.int x :: st) σ Q = Ev sh 91 19 [a0, zdrop2 a1, some (.int x)] st σ Q := Ev_step rfl
theorem s_Stones_leastSpare_19 : Ev sh 91 19 [a0, a1, some (.int x)] st σ Q = Ev sh 91 20 [a0, a1, some (.int x)] (.int x :: st) σ Q := Ev_step rfl
theorem s_Stones_leastSpare_20 : Ev sh 91 20 [some (.ref i), a1, a2] st σ Q = Ev sh 91 21 [some (.ref i), a1, a2] (.ref i :: st) σ Q := Ev_step rfl
theorem s_Stones_leastSpare_21 (h : sh i1 = 7) : Ev sh 91 21 [a0, a1, a2] [.ref i1, .int x0] σ Q = Ev sh 82 0 [some (.ref i1)] [] σ (fun r s => Ev sh 91 24 [a0, a1, a2] (zpush r [.int x0]) s Q) := Ev_callh (zrecv_of (by decide) h) rfl
theorem s_Stones_leastSpare_24 : Ev sh 91 24 [a0, a1, a2] (.int y :: .int x :: st) σ Q = if y ≤ x then Ev sh 91 43 [a0, a1, a2] st σ Q else Ev sh 91 27 [a0, a1, a2] st σ Q := Ev_if rfl
theorem s_Stones_leastSpare_27 : Ev sh 91 27 [a0, some (.int x), a2] st σ Q = Ev sh 91 28 [a0, some (.int x), a2] (.int x :: st) σ Q := Ev_step rfl
theorem s_Stones_leastSpare_28 : Ev sh 91 28 [some (.ref i), a1, a2] st σ Q = Ev sh 91 29 [some (.ref i), a1, a2] (.ref i :: st) σ Q := Ev_step rfl
theorem s_Stones_leastSpare_29 : Ev sh 91 29 [a0, a1, some (.int x)] st σ Q = Ev sh 91 30 [a0, a1, some (.int x)] (.int x :: st) σ Q := Ev_step rfl
theorem s_Stones_leastSpare_30 (h : sh i1 = 7) : Ev sh 91 30 [a0, a1, a2] [.int x2, .ref i1, .int x0] σ Q = Ev sh 88 0 [some (.ref i1), some (.int x2)] [] σ (fun r s => Ev sh 91 33 [a0, a1, a2] (zpush r [.int x0]) s Q) := Ev_callh (zrecv_of (by decide) h) rfl
theorem s_Stones_leastSpare_33 : Ev sh 91 33 [a0, a1, a2] [.int y, .int x] σ Q = Ev sh 91 36 [a0, a1, a2] [.int (if y < x then y else x)] σ Q := Ev_step rfl
theorem s_Stones_leastSpare_36 : Ev sh 91 36 [a0, a1, a2] (.int x :: st) σ Q = Ev sh 91 37 [zdrop2 a0, some (.int x), a2] st σ Q := Ev_step rfl
theorem s_Stones_leastSpare_37 : Ev sh 91 37 [a0, a1, some (.int x)] st σ Q = Ev sh 91 40 [a0, a1, some (.int (x + 1))] st σ Q := Ev_step rfl
theorem s_Stones_leastSpare_40 : Ev sh 91 40 [a0, a1, a2] st σ Q = Ev sh 91 19 [a0, a1, a2] st σ Q := Ev_step rfl
theorem s_Stones_leastSpare_43 : Ev sh 91 43 [a0, some (.int x), a2] st σ Q = Ev sh 91 44 [a0, some (.int x), a2] (.int x :: st) σ Q := Ev_step rfl
theorem s_Stones_leastSpare_44 : Ev sh 91 44 [a0, a1, a2] [.int x] σ Q = Q (some (.int x)) σ := Ev_ret rfl
theorem s_Stones_weakestJoint_0 : Ev sh 92 0 [some (.ref i), a1, a2] st σ Q = Ev sh 92 1 [some (.ref i), a1, a2] (.ref i :: st) σ Q := Ev_step rfl
theorem s_Stones_weakestJoint_1 (h : sh i0 = 7) : Ev sh 92 1 [a0, a1, a2] [.ref i0] σ Q = Ev sh 91 0 [some (.ref i0), none, none] [] σ (fun r s => Ev sh 92 4 [a0, a1, a2] (zpush r []) s Q) := Ev_callh (zrecv_of (by decide) h) rfl
theorem s_Stones_weakestJoint_4 : Ev sh 92 4 [a0, a1, a2] (.int x :: st) σ Q = Ev sh 92 5 [zdrop2 a0, some (.int x), a2] st σ Q := Ev_step rfl
theorem s_Stones_weakestJoint_5 : Ev sh 92 5 [a0, a1, a2] st σ Q = Ev sh 92 6 [a0, a1, a2] (.int 0 :: st) σ Q := Ev_step rfl
theorem s_Stones_weakestJoint_6 : Ev sh 92 6 [a0, a1, a2] (.int x :: st) σ Q = Ev sh 92 7 [a0, zdrop2 a1, some (.int x)] st σ Q := Ev_step rfl
theorem s_Stones_weakestJoint_7 : Ev sh 92 7 [a0, a1, some (.int x)] st σ Q = Ev sh 92 8 [a0, a1, some (.int x)] (.int x :: st) σ Q := Ev_step rfl
theorem s_Stones_weakestJoint_8 : Ev sh 92 8 [some (.ref i), a1, a2] st σ Q = Ev sh 92 9 [some (.ref i), a1, a2] (.ref i :: st) σ Q := Ev_step rfl
theorem s_Stones_weakestJoint_9 (h : sh i1 = 7) : Ev sh 92 9 [a0, a1, a2] [.ref i1, .int x0] σ Q = Ev sh 82 0 [some (.ref i1)] [] σ (fun r s => Ev sh 92 12 [a0, a1, a2] (zpush r [.int x0]) s Q) := Ev_callh (zrecv_of (by decide) h) rfl
theorem s_Stones_weakestJoint_12 : Ev sh 92 12 [a0, a1, a2] (.int y :: .int x :: st) σ Q = if y ≤ x then Ev sh 92 32 [a0, a1, a2] st σ Q else Ev sh 92 15 [a0, a1, a2] st σ Q := Ev_if rfl
theorem s_Stones_weakestJoint_15 : Ev sh 92 15 [some (.ref i), a1, a2] st σ Q = Ev sh 92 16 [some (.ref i), a1, a2] (.ref i :: st) σ Q := Ev_step rfl
theorem s_Stones_weakestJoint_16 : Ev sh 92 16 [a0, a1, some (.int x)] st σ Q = Ev sh 92 17 [a0, a1, some (.int x)] (.int x :: st) σ Q := Ev_step rfl
theorem s_Stones_weakestJoint_17 (h : sh i0 = 7) : Ev sh 92 17 [a0, a1, a2] [.int x1, .ref i0] σ Q = Ev sh 88 0 [some (.ref i0), some (.int x1)] [] σ (fun r s => Ev sh 92 20 [a0, a1, a2] (zpush r []) s Q) := Ev_callh (zrecv_of (by decide) h) rfl
theorem s_Stones_weakestJoint_20 : Ev sh 92 20 [a0, some (.int x), a2] st σ Q = Ev sh 92 21 [a0, some (.int x), a2] (.int x :: st) σ Q := Ev_step rfl
theorem s_Stones_weakestJoint_21 : Ev sh 92 21 [a0, a1, a2] (.int y :: .int x :: st) σ Q = if x ≠ y then Ev sh 92 26 [a0, a1, a2] st σ Q else Ev sh 92 24 [a0, a1, a2] st σ Q := Ev_if rfl
theorem s_Stones_weakestJoint_24 : Ev sh 92 24 [a0, a1, some (.int x)] st σ Q = Ev sh 92 25 [a0, a1, some (.int x)] (.int x :: st) σ Q := Ev_step rfl
theorem s_Stones_weakestJoint_25 : Ev sh 92 25 [a0, a1, a2] [.int x] σ Q = Q (some (.int x)) σ := Ev_ret rfl
theorem s_Stones_weakestJoint_26 : Ev sh 92 26 [a0, a1, some (.int x)] st σ Q = Ev sh 92 29 [a0, a1, some (.int (x + 1))] st σ Q := Ev_step rfl
theorem s_Stones_weakestJoint_29 : Ev sh 92 29 [a0, a1, a2] st σ Q = Ev sh 92 7 [a0, a1, a2] st σ Q := Ev_step rfl
theorem s_Stones_weakestJoint_32 : Ev sh 92 32 [a0, a1, a2] st σ Q = Ev sh 92 34 [a0, a1, a2] (.int (-9) :: st) σ Q := Ev_step rfl
theorem s_Stones_weakestJoint_34 : Ev sh 92 34 [a0, a1, a2] [.int x] σ Q = Q (some (.int x)) σ := Ev_ret rfl
theorem s_Stones_lackOfAll_0 : Ev sh 93 0 [a0, a1, a2] st σ Q = Ev sh 93 1 [a0, a1, a2] (.int 0 :: st) σ Q := Ev_step rfl
theorem s_Stones_lackOfAll_1 : Ev sh 93 1 [a0, a1, a2] (.int x :: st) σ Q = Ev sh 93 2 [zdrop2 a0, some (.int x), a2] st σ Q := Ev_step rfl
theorem s_Stones_lackOfAll_2 : Ev sh 93 2 [a0, a1, a2] st σ Q = Ev sh 93 3 [a0, a1, a2] (.int 0 :: st) σ Q := Ev_step rfl
theorem s_Stones_lackOfAll_3 : Ev sh 93 3 [a0, a1, a2] (.int x :: st) σ Q = Ev sh 93 4 [a0, zdrop2 a1, some (.int x)] st σ Q := Ev_step rfl
theorem s_Stones_lackOfAll_4 : Ev sh 93 4 [a0, a1, some (.int x)] st σ Q = Ev sh 93 5 [a0, a1, some (.int x)] (.int x :: st) σ Q := Ev_step rfl
theorem s_Stones_lackOfAll_5 : Ev sh 93 5 [some (.ref i), a1, a2] st σ Q = Ev sh 93 6 [some (.ref i), a1, a2] (.ref i :: st) σ Q := Ev_step rfl
theorem s_Stones_lackOfAll_6 (h : sh i1 = 7) : Ev sh 93 6 [a0, a1, a2] [.ref i1, .int x0] σ Q = Ev sh 82 0 [some (.ref i1)] [] σ (fun r s => Ev sh 93 9 [a0, a1, a2] (zpush r [.int x0]) s Q) := Ev_callh (zrecv_of (by decide) h) rfl
theorem s_Stones_lackOfAll_9 : Ev sh 93 9 [a0, a1, a2] (.int y :: .int x :: st) σ Q = if y ≤ x then Ev sh 93 31 [a0, a1, a2] st σ Q else Ev sh 93 12 [a0, a1, a2] st σ Q := Ev_if rfl
theorem s_Stones_lackOfAll_12 : Ev sh 93 12 [a0, some (.int x), a2] st σ Q = Ev sh 93 13 [a0, some (.int x), a2] (.int x :: st) σ Q := Ev_step rfl
theorem s_Stones_lackOfAll_13 : Ev sh 93 13 [some (.ref i), a1, a2] st σ Q = Ev sh 93 14 [some (.ref i), a1, a2] (.ref i :: st) σ Q := Ev_step rfl
theorem s_Stones_lackOfAll_14 : Ev sh 93 14 [a0, a1, some (.int x)] st σ Q = Ev sh 93 15 [a0, a1, some (.int x)] (.int x :: st) σ Q := Ev_step rfl
theorem s_Stones_lackOfAll_15 (h : sh i1 = 7) : Ev sh 93 15 [a0, a1, a2] [.int x2, .ref i1, .int x0] σ Q = Ev sh 88 0 [some (.ref i1), some (.int x2)] [] σ (fun r s => Ev sh 93 18 [a0, a1, a2] (zpush r [.int x0]) s Q) := Ev_callh (zrecv_of (by decide) h) rfl
theorem s_Stones_lackOfAll_18 : Ev sh 93 18 [a0, a1, a2] (.int x :: st) σ Q = Ev sh 93 19 [a0, a1, a2] (.int (-x) :: st) σ Q := Ev_step rfl
theorem s_Stones_lackOfAll_19 : Ev sh 93 19 [a0, a1, a2] st σ Q = Ev sh 93 20 [a0, a1, a2] (.int 0 :: st) σ Q := Ev_step rfl
theorem s_Stones_lackOfAll_20 : Ev sh 93 20 [a0, a1, a2] [.int y, .int x, .int x0] σ Q = Ev sh 93 23 [a0, a1, a2] [.int (if x < y then y else x), .int x0] σ Q := Ev_step rfl
theorem s_Stones_lackOfAll_23 : Ev sh 93 23 [a0, a1, a2] (.int y :: .int x :: st) σ Q = Ev sh 93 24 [a0, a1, a2] (.int (x + y) :: st) σ Q := Ev_step rfl
theorem s_Stones_lackOfAll_24 : Ev sh 93 24 [a0, a1, a2] (.int x :: st) σ Q = Ev sh 93 25 [zdrop2 a0, some (.int x), a2] st σ Q := Ev_step rfl
theorem s_Stones_lackOfAll_25 : Ev sh 93 25 [a0, a1, some (.int x)] st σ Q = Ev sh 93 28 [a0, a1, some (.int (x + 1))] st σ Q := Ev_step rfl
theorem s_Stones_lackOfAll_28 : Ev sh 93 28 [a0, a1, a2] st σ Q = Ev sh 93 4 [a0, a1, a2] st σ Q := Ev_step rfl
theorem s_Stones_lackOfAll_31 : Ev sh 93 31 [a0, some (.int x), a2] st σ Q = Ev sh 93 32 [a0, some (.int x), a2] (.int x :: st) σ Q := Ev_step rfl
theorem s_Stones_lackOfAll_32 : Ev sh 93 32 [a0, a1, a2] [.int x] σ Q = Q (some (.int x)) σ := Ev_ret rfl
theorem s_Stones_bitsOfLacking_0 : Ev sh 94 0 [a0, a1, a2] st σ Q = Ev sh 94 1 [a0, a1, a2] (.int 0 :: st) σ Q := Ev_step rfl
theorem s_Stones_bitsOfLacking_1 : Ev sh 94 1 [a0, a1, a2] (.int x :: st) σ Q = Ev sh 94 2 [zdrop2 a0, some (.int x), a2] st σ Q := Ev_step rfl
theorem s_Stones_bitsOfLacking_2 : Ev sh 94 2 [a0, a1, a2] st σ Q = Ev sh 94 3 [a0, a1, a2] (.int 0 :: st) σ Q := Ev_step rfl
theorem s_Stones_bitsOfLacking_3 : Ev sh 94 3 [a0, a1, a2] (.int x :: st) σ Q = Ev sh 94 4 [a0, zdrop2 a1, some (.int x)] st σ Q := Ev_step rfl
theorem s_Stones_bitsOfLacking_4 : Ev sh 94 4 [a0, a1, some (.int x)] st σ Q = Ev sh 94 5 [a0, a1, some (.int x)] (.int x :: st) σ Q := Ev_step rfl
theorem s_Stones_bitsOfLacking_5 : Ev sh 94 5 [some (.ref i), a1, a2] st σ Q = Ev sh 94 6 [some (.ref i), a1, a2] (.ref i :: st) σ Q := Ev_step rfl
theorem s_Stones_bitsOfLacking_6 (h : sh i1 = 7) : Ev sh 94 6 [a0, a1, a2] [.ref i1, .int x0] σ Q = Ev sh 82 0 [some (.ref i1)] [] σ (fun r s => Ev sh 94 9 [a0, a1, a2] (zpush r [.int x0]) s Q) := Ev_callh (zrecv_of (by decide) h) rfl
theorem s_Stones_bitsOfLacking_9 : Ev sh 94 9 [a0, a1, a2] (.int y :: .int x :: st) σ Q = if y ≤ x then Ev sh 94 39 [a0, a1, a2] st σ Q else Ev sh 94 12 [a0, a1, a2] st σ Q := Ev_if rfl
theorem s_Stones_bitsOfLacking_12 : Ev sh 94 12 [a0, some (.int x), a2] st σ Q = Ev sh 94 13 [a0, some (.int x), a2] (.int x :: st) σ Q := Ev_step rfl
theorem s_Stones_bitsOfLacking_13 : Ev sh 94 13 [some (.ref i), a1, a2] st σ Q = Ev sh 94 14 [some (.ref i), a1, a2] (.ref i :: st) σ Q := Ev_step rfl
theorem s_Stones_bitsOfLacking_14 : Ev sh 94 14 [a0, a1, some (.int x)] st σ Q = Ev sh 94 15 [a0, a1, some (.int x)] (.int x :: st) σ Q := Ev_step rfl
theorem s_Stones_bitsOfLacking_15 (h : sh i1 = 7) : Ev sh 94 15 [a0, a1, a2] [.int x2, .ref i1, .int x0] σ Q = Ev sh 88 0 [some (.ref i1), some (.int x2)] [] σ (fun r s => Ev sh 94 18 [a0, a1, a2] (zpush r [.int x0]) s Q) := Ev_callh (zrecv_of (by decide) h) rfl
theorem s_Stones_bitsOfLacking_18 : Ev sh 94 18 [a0, a1, a2] (.int x :: st) σ Q = if 0 ≤ x then Ev sh 94 25 [a0, a1, a2] st σ Q else Ev sh 94 21 [a0, a1, a2] st σ Q := Ev_if rfl
theorem s_Stones_bitsOfLacking_21 : Ev sh 94 21 [a0, a1, a2] st σ Q = Ev sh 94 22 [a0, a1, a2] (.int 1 :: st) σ Q := Ev_step rfl
theorem s_Stones_bitsOfLacking_22 : Ev sh 94 22 [a0, a1, a2] st σ Q = Ev sh 94 26 [a0, a1, a2] st σ Q := Ev_step rfl
theorem s_Stones_bitsOfLacking_25 : Ev sh 94 25 [a0, a1, a2] st σ Q = Ev sh 94 26 [a0, a1, a2] (.int 0 :: st) σ Q := Ev_step rfl
theorem s_Stones_bitsOfLacking_26 : Ev sh 94 26 [a0, a1, a2] [.int x1, .int x0] σ Q = Ev sh 155 0 [some (.int x1)] [] σ (fun r s => Ev sh 94 29 [a0, a1, a2] (zpush r [.int x0]) s Q) := Ev_call rfl
theorem s_Stones_bitsOfLacking_29 : Ev sh 94 29 [a0, a1, some (.int x)] st σ Q = Ev sh 94 30 [a0, a1, some (.int x)] (.int x :: st) σ Q := Ev_step rfl
theorem s_Stones_bitsOfLacking_30 : Ev sh 94 30 [a0, a1, a2] (.int y :: .int x :: st) σ Q = Ev sh 94 31 [a0, a1, a2] (.int (x <<< (y &&& 31)) :: st) σ Q := Ev_step rfl
theorem s_Stones_bitsOfLacking_31 : Ev sh 94 31 [a0, a1, a2] (.int y :: .int x :: st) σ Q = Ev sh 94 32 [a0, a1, a2] (.int (x ||| y) :: st) σ Q := Ev_step rfl
theorem s_Stones_bitsOfLacking_32 : Ev sh 94 32 [a0, a1, a2] (.int x :: st) σ Q = Ev sh 94 33 [zdrop2 a0, some (.int x), a2] st σ Q := Ev_step rfl
theorem s_Stones_bitsOfLacking_33 : Ev sh 94 33 [a0, a1, some (.int x)] st σ Q = Ev sh 94 36 [a0, a1, some (.int (x + 1))] st σ Q := Ev_step rfl
theorem s_Stones_bitsOfLacking_36 : Ev sh 94 36 [a0, a1, a2] st σ Q = Ev sh 94 4 [a0, a1, a2] st σ Q := Ev_step rfl
theorem s_Stones_bitsOfLacking_39 : Ev sh 94 39 [a0, some (.int x), a2] st σ Q = Ev sh 94 40 [a0, some (.int x), a2] (.int x :: st) σ Q := Ev_step rfl
theorem s_Stones_bitsOfLacking_40 : Ev sh 94 40 [a0, a1, a2] [.int x] σ Q = Q (some (.int x)) σ := Ev_ret rfl
theorem s_Stones_strongest_0 : Ev sh 95 0 [a0, a1, a2, a3, a4] st σ Q = Ev sh 95 2 [a0, a1, a2, a3, a4] (.int (-9) :: st) σ Q := Ev_step rfl
theorem s_Stones_strongest_2 : Ev sh 95 2 [a0, a1, a2, a3, a4] (.int x :: st) σ Q = Ev sh 95 3 [zdrop2 a0, some (.int x), a2, a3, a4] st σ Q := Ev_step rfl
theorem s_Stones_strongest_3 : Ev sh 95 3 [a0, a1, a2, a3, a4] st σ Q = Ev sh 95 4 [a0, a1, a2, a3, a4] (.int 0 :: st) σ Q := Ev_step rfl
theorem s_Stones_strongest_4 : Ev sh 95 4 [a0, a1, a2, a3, a4] (.int x :: st) σ Q = Ev sh 95 5 [a0, zdrop2 a1, some (.int x), a3, a4] st σ Q := Ev_step rfl
theorem s_Stones_strongest_5 : Ev sh 95 5 [a0, a1, a2, a3, a4] st σ Q = Ev sh 95 6 [a0, a1, a2, a3, a4] (.int 0 :: st) σ Q := Ev_step rfl
theorem s_Stones_strongest_6 : Ev sh 95 6 [a0, a1, a2, a3, a4] (.int x :: st) σ Q = Ev sh 95 7 [a0, a1, zdrop2 a2, some (.int x), a4] st σ Q := Ev_step rfl
theorem s_Stones_strongest_7 : Ev sh 95 7 [a0, a1, a2, some (.int x), a4] st σ Q = Ev sh 95 8 [a0, a1, a2, some (.int x), a4] (.int x :: st) σ Q := Ev_step rfl
theorem s_Stones_strongest_8 : Ev sh 95 8 [some (.ref i), a1, a2, a3, a4] st σ Q = Ev sh 95 9 [some (.ref i), a1, a2, a3, a4] (.ref i :: st) σ Q := Ev_step rfl
theorem s_Stones_strongest_9 (h : sh i = 7) : Ev sh 95 9 [a0, a1, a2, a3, a4] (.ref i :: st) σ Q = Ev sh 95 12 [a0, a1, a2, a3, a4] (.int (σ i 3) :: st) σ Q := Ev_h h rfl
theorem s_Stones_strongest_12 : Ev sh 95 12 [a0, a1, a2, a3, a4] (.int y :: .int x :: st) σ Q = if y ≤ x then Ev sh 95 45 [a0, a1, a2, a3, a4] st σ Q else Ev sh 95 15 [a0, a1, a2, a3, a4] st σ Q := Ev_if rfl
theorem s_Stones_strongest_15 : Ev sh 95 15 [some (.ref i), a1, a2, a3, a4] st σ Q = Ev sh 95 16 [some (.ref i), a1, a2, a3, a4] (.ref i :: st) σ Q := Ev_step rfl
theorem s_Stones_strongest_16 : Ev sh 95 16 [a0, a1, a2, some (.int x), a4] st σ Q = Ev sh 95 17 [a0, a1, a2, some (.int x), a4] (.int x :: st) σ Q := Ev_step rfl
theorem s_Stones_strongest_17 (h : sh i0 = 7) : Ev sh 95 17 [a0, a1, a2, a3, a4] [.int x1, .ref i0] σ Q = Ev sh 76 0 [some (.ref i0), some (.int x1), none] [] σ (fun r s => Ev sh 95 20 [a0, a1, a2, a3, a4] (zpush r []) s Q) := Ev_callh (zrecv_of (by decide) h) rfl
theorem s_Stones_strongest_20 : Ev sh 95 20 [a0, a1, a2, a3, a4] (.int x :: st) σ Q = Ev sh 95 22 [a0, a1, a2, zdrop2 a3, some (.int x)] st σ Q := Ev_step rfl
theorem s_Stones_strongest_22 : Ev sh 95 22 [a0, some (.int x), a2, a3, a4] st σ Q = Ev sh 95 23 [a0, some (.int x), a2, a3, a4] (.int x :: st) σ Q := Ev_step rfl
theorem s_Stones_strongest_23 : Ev sh 95 23 [a0, a1, a2, a3, a4] st σ Q = Ev sh 95 25 [a0, a1, a2, a3, a4] (.int (-9) :: st) σ Q := Ev_step rfl
theorem s_Stones_strongest_25 : Ev sh 95 25 [a0, a1, a2, a3, a4] (.int y :: .int x :: st) σ Q = if x = y then Ev sh 95 34 [a0, a1, a2, a3, a4] st σ Q else Ev sh 95 28 [a0, a1, a2, a3, a4] st σ Q := Ev_if rfl
theorem s_Stones_strongest_28 : Ev sh 95 28 [a0, a1, a2, a3, some (.int x)] st σ Q = Ev sh 95 30 [a0, a1, a2, a3, some (.int x)] (.int x :: st) σ Q := Ev_step rfl
theorem s_Stones_strongest_30 : Ev sh 95 30 [a0, a1, some (.int x), a3, a4] st σ Q = Ev sh 95 31 [a0, a1, some (.int x), a3, a4] (.int x :: st) σ Q := Ev_step rfl
theorem s_Stones_strongest_31 : Ev sh 95 31 [a0, a1, a2, a3, a4] (.int y :: .int x :: st) σ Q = if x ≤ y then Ev sh 95 39 [a0, a1, a2, a3, a4] st σ Q else Ev sh 95 34 [a0, a1, a2, a3, a4] st σ Q := Ev_if rfl
theorem s_Stones_strongest_34 : Ev sh 95 34 [a0, a1, a2, some (.int x), a4] st σ Q = Ev sh 95 35 [a0, a1, a2, some (.int x), a4] (.int x :: st) σ Q := Ev_step rfl
theorem s_Stones_strongest_35 : Ev sh 95 35 [a0, a1, a2, a3, a4] (.int x :: st) σ Q = Ev sh 95 36 [zdrop2 a0, some (.int x), a2, a3, a4] st σ Q := Ev_step rfl
theorem s_Stones_strongest_36 : Ev sh 95 36 [a0, a1, a2, a3, some (.int x)] st σ Q = Ev sh 95 38 [a0, a1, a2, a3, some (.int x)] (.int x :: st) σ Q := Ev_step rfl
theorem s_Stones_strongest_38 : Ev sh 95 38 [a0, a1, a2, a3, a4] (.int x :: st) σ Q = Ev sh 95 39 [a0, zdrop2 a1, some (.int x), a3, a4] st σ Q := Ev_step rfl
theorem s_Stones_strongest_39 : Ev sh 95 39 [a0, a1, a2, some (.int x), a4] st σ Q = Ev sh 95 42 [a0, a1, a2, some (.int (x + 1)), a4] st σ Q := Ev_step rfl
theorem s_Stones_strongest_42 : Ev sh 95 42 [a0, a1, a2, a3, a4] st σ Q = Ev sh 95 7 [a0, a1, a2, a3, a4] st σ Q := Ev_step rfl
theorem s_Stones_strongest_45 : Ev sh 95 45 [a0, some (.int x), a2, a3, a4] st σ Q = Ev sh 95 46 [a0, some (.int x), a2, a3, a4] (.int x :: st) σ Q := Ev_step rfl
theorem s_Stones_strongest_46 : Ev sh 95 46 [a0, a1, a2, a3, a4] [.int x] σ Q = Q (some (.int x)) σ := Ev_ret rfl
theorem s_Stones_sumOfFigures_0 : Ev sh 96 0 [a0, a1, a2] st σ Q = Ev sh 96 1 [a0, a1, a2] (.int 0 :: st) σ Q := Ev_step rfl
theorem s_Stones_sumOfFigures_1 : Ev sh 96 1 [a0, a1, a2] (.int x :: st) σ Q = Ev sh 96 2 [zdrop2 a0, some (.int x), a2] st σ Q := Ev_step rfl
theorem s_Stones_sumOfFigures_2 : Ev sh 96 2 [a0, a1, a2] st σ Q = Ev sh 96 3 [a0, a1, a2] (.int 0 :: st) σ Q := Ev_step rfl
theorem s_Stones_sumOfFigures_3 : Ev sh 96 3 [a0, a1, a2] (.int x :: st) σ Q = Ev sh 96 4 [a0, zdrop2 a1, some (.int x)] st σ Q := Ev_step rfl
theorem s_Stones_sumOfFigures_4 : Ev sh 96 4 [a0, a1, some (.int x)] st σ Q = Ev sh 96 5 [a0, a1, some (.int x)] (.int x :: st) σ Q := Ev_step rfl
theorem s_Stones_sumOfFigures_5 : Ev sh 96 5 [some (.ref i), a1, a2] st σ Q = Ev sh 96 6 [some (.ref i), a1, a2] (.ref i :: st) σ Q := Ev_step rfl
theorem s_Stones_sumOfFigures_6 (h : sh i = 7) : Ev sh 96 6 [a0, a1, a2] (.ref i :: st) σ Q = Ev sh 96 9 [a0, a1, a2] (.int (σ i 3) :: st) σ Q := Ev_h h rfl
theorem s_Stones_sumOfFigures_9 : Ev sh 96 9 [a0, a1, a2] (.int y :: .int x :: st) σ Q = if y ≤ x then Ev sh 96 26 [a0, a1, a2] st σ Q else Ev sh 96 12 [a0, a1, a2] st σ Q := Ev_if rfl
theorem s_Stones_sumOfFigures_12 : Ev sh 96 12 [a0, some (.int x), a2] st σ Q = Ev sh 96 13 [a0, some (.int x), a2] (.int x :: st) σ Q := Ev_step rfl
theorem s_Stones_sumOfFigures_13 : Ev sh 96 13 [some (.ref i), a1, a2] st σ Q = Ev sh 96 14 [some (.ref i), a1, a2] (.ref i :: st) σ Q := Ev_step rfl
theorem s_Stones_sumOfFigures_14 : Ev sh 96 14 [a0, a1, some (.int x)] st σ Q = Ev sh 96 15 [a0, a1, some (.int x)] (.int x :: st) σ Q := Ev_step rfl
theorem s_Stones_sumOfFigures_15 (h : sh i1 = 7) : Ev sh 96 15 [a0, a1, a2] [.int x2, .ref i1, .int x0] σ Q = Ev sh 74 0 [some (.ref i1), some (.int x2)] [] σ (fun r s => Ev sh 96 18 [a0, a1, a2] (zpush r [.int x0]) s Q) := Ev_callh (zrecv_of (by decide) h) rfl
theorem s_Stones_sumOfFigures_18 : Ev sh 96 18 [a0, a1, a2] (.int y :: .int x :: st) σ Q = Ev sh 96 19 [a0, a1, a2] (.int (x + y) :: st) σ Q := Ev_step rfl
theorem s_Stones_sumOfFigures_19 : Ev sh 96 19 [a0, a1, a2] (.int x :: st) σ Q = Ev sh 96 20 [zdrop2 a0, some (.int x), a2] st σ Q := Ev_step rfl
theorem s_Stones_sumOfFigures_20 : Ev sh 96 20 [a0, a1, some (.int x)] st σ Q = Ev sh 96 23 [a0, a1, some (.int (x + 1))] st σ Q := Ev_step rfl
theorem s_Stones_sumOfFigures_23 : Ev sh 96 23 [a0, a1, a2] st σ Q = Ev sh 96 4 [a0, a1, a2] st σ Q := Ev_step rfl
theorem s_Stones_sumOfFigures_26 : Ev sh 96 26 [a0, some (.int x), a2] st σ Q = Ev sh 96 27 [a0, some (.int x), a2] (.int x :: st) σ Q := Ev_step rfl
theorem s_Stones_sumOfFigures_27 : Ev sh 96 27 [a0, a1, a2] [.int x] σ Q = Q (some (.int x)) σ := Ev_ret rfl
theorem s_Stones_bitsLaidBy_0 : Ev sh 97 0 [a0, a1, a2, a3] st σ Q = Ev sh 97 1 [a0, a1, a2, a3] (.int 0 :: st) σ Q := Ev_step rfl
theorem s_Stones_bitsLaidBy_1 : Ev sh 97 1 [a0, a1, a2, a3] (.int x :: st) σ Q = Ev sh 97 2 [a0, zdrop2 a1, some (.int x), a3] st σ Q := Ev_step rfl
theorem s_Stones_bitsLaidBy_2 : Ev sh 97 2 [a0, a1, a2, a3] st σ Q = Ev sh 97 3 [a0, a1, a2, a3] (.int 0 :: st) σ Q := Ev_step rfl
theorem s_Stones_bitsLaidBy_3 : Ev sh 97 3 [a0, a1, a2, a3] (.int x :: st) σ Q = Ev sh 97 4 [a0, a1, zdrop2 a2, some (.int x)] st σ Q := Ev_step rfl
theorem s_Stones_bitsLaidBy_4 : Ev sh 97 4 [a0, a1, a2, some (.int x)] st σ Q = Ev sh 97 5 [a0, a1, a2, some (.int x)] (.int x :: st) σ Q := Ev_step rfl
theorem s_Stones_bitsLaidBy_5 : Ev sh 97 5 [some (.ref i), a1, a2, a3] st σ Q = Ev sh 97 6 [some (.ref i), a1, a2, a3] (.ref i :: st) σ Q := Ev_step rfl
theorem s_Stones_bitsLaidBy_6 (h : sh i = 7) : Ev sh 97 6 [a0, a1, a2, a3] (.ref i :: st) σ Q = Ev sh 97 9 [a0, a1, a2, a3] (.int (σ i 3) :: st) σ Q := Ev_h h rfl
theorem s_Stones_bitsLaidBy_9 : Ev sh 97 9 [a0, a1, a2, a3] (.int y :: .int x :: st) σ Q = if y ≤ x then Ev sh 97 40 [a0, a1, a2, a3] st σ Q else Ev sh 97 12 [a0, a1, a2, a3] st σ Q := Ev_if rfl
theorem s_Stones_bitsLaidBy_12 : Ev sh 97 12 [a0, a1, some (.int x), a3] st σ Q = Ev sh 97 13 [a0, a1, some (.int x), a3] (.int x :: st) σ Q := Ev_step rfl
theorem s_Stones_bitsLaidBy_13 : Ev sh 97 13 [some (.ref i), a1, a2, a3] st σ Q = Ev sh 97 14 [some (.ref i), a1, a2, a3] (.ref i :: st) σ Q := Ev_step rfl
theorem s_Stones_bitsLaidBy_14 : Ev sh 97 14 [a0, a1, a2, some (.int x)] st σ Q = Ev sh 97 15 [a0, a1, a2, some (.int x)] (.int x :: st) σ Q := Ev_step rfl
theorem s_Stones_bitsLaidBy_15 (h : sh i1 = 7) : Ev sh 97 15 [a0, a1, a2, a3] [.int x2, .ref i1, .int x0] σ Q = Ev sh 75 0 [some (.ref i1), some (.int x2)] [] σ (fun r s => Ev sh 97 18 [a0, a1, a2, a3] (zpush r [.int x0]) s Q) := Ev_callh (zrecv_of (by decide) h) rfl
theorem s_Stones_bitsLaidBy_18 : Ev sh 97 18 [a0, some (.int x), a2, a3] st σ Q = Ev sh 97 19 [a0, some (.int x), a2, a3] (.int x :: st) σ Q := Ev_step rfl
theorem s_Stones_bitsLaidBy_19 : Ev sh 97 19 [a0, a1, a2, a3] (.int y :: .int x :: st) σ Q = if x ≠ y then Ev sh 97 26 [a0, a1, a2, a3] st σ Q else Ev sh 97 22 [a0, a1, a2, a3] st σ Q := Ev_if rfl
theorem s_Stones_bitsLaidBy_22 : Ev sh 97 22 [a0, a1, a2, a3] st σ Q = Ev sh 97 23 [a0, a1, a2, a3] (.int 1 :: st) σ Q := Ev_step rfl
theorem s_Stones_bitsLaidBy_23 : Ev sh 97 23 [a0, a1, a2, a3] st σ Q = Ev sh 97 27 [a0, a1, a2, a3] st σ Q := Ev_step rfl
theorem s_Stones_bitsLaidBy_26 : Ev sh 97 26 [a0, a1, a2, a3] st σ Q = Ev sh 97 27 [a0, a1, a2, a3] (.int 0 :: st) σ Q := Ev_step rfl
theorem s_Stones_bitsLaidBy_27 : Ev sh 97 27 [a0, a1, a2, a3] [.int x1, .int x0] σ Q = Ev sh 155 0 [some (.int x1)] [] σ (fun r s => Ev sh 97 30 [a0, a1, a2, a3] (zpush r [.int x0]) s Q) := Ev_call rfl
theorem s_Stones_bitsLaidBy_30 : Ev sh 97 30 [a0, a1, a2, some (.int x)] st σ Q = Ev sh 97 31 [a0, a1, a2, some (.int x)] (.int x :: st) σ Q := Ev_step rfl
theorem s_Stones_bitsLaidBy_31 : Ev sh 97 31 [a0, a1, a2, a3] (.int y :: .int x :: st) σ Q = Ev sh 97 32 [a0, a1, a2, a3] (.int (x <<< (y &&& 31)) :: st) σ Q := Ev_step rfl
theorem s_Stones_bitsLaidBy_32 : Ev sh 97 32 [a0, a1, a2, a3] (.int y :: .int x :: st) σ Q = Ev sh 97 33 [a0, a1, a2, a3] (.int (x ||| y) :: st) σ Q := Ev_step rfl
theorem s_Stones_bitsLaidBy_33 : Ev sh 97 33 [a0, a1, a2, a3] (.int x :: st) σ Q = Ev sh 97 34 [a0, zdrop2 a1, some (.int x), a3] st σ Q := Ev_step rfl
theorem s_Stones_bitsLaidBy_34 : Ev sh 97 34 [a0, a1, a2, some (.int x)] st σ Q = Ev sh 97 37 [a0, a1, a2, some (.int (x + 1))] st σ Q := Ev_step rfl
theorem s_Stones_bitsLaidBy_37 : Ev sh 97 37 [a0, a1, a2, a3] st σ Q = Ev sh 97 4 [a0, a1, a2, a3] st σ Q := Ev_step rfl
theorem s_Stones_bitsLaidBy_40 : Ev sh 97 40 [a0, a1, some (.int x), a3] st σ Q = Ev sh 97 41 [a0, a1, some (.int x), a3] (.int x :: st) σ Q := Ev_step rfl
theorem s_Stones_bitsLaidBy_41 : Ev sh 97 41 [a0, a1, a2, a3] [.int x] σ Q = Q (some (.int x)) σ := Ev_ret rfl
theorem s_Stones_shareOf_0 : Ev sh 98 0 [some (.ref i), a1] st σ Q = Ev sh 98 1 [some (.ref i), a1] (.ref i :: st) σ Q := Ev_step rfl
theorem s_Stones_shareOf_1 : Ev sh 98 1 [a0, some (.int x)] st σ Q = Ev sh 98 2 [a0, some (.int x)] (.int x :: st) σ Q := Ev_step rfl
theorem s_Stones_shareOf_2 (h : sh i0 = 7) : Ev sh 98 2 [a0, a1] [.int x1, .ref i0] σ Q = Ev sh 97 0 [some (.ref i0), some (.int x1), none, none] [] σ (fun r s => Ev sh 98 5 [a0, a1] (zpush r []) s Q) := Ev_callh (zrecv_of (by decide) h) rfl
theorem s_Stones_shareOf_5 : Ev sh 98 5 [a0, a1] [.int x0] σ Q = Ev sh 260 0 [some (.int x0)] [] σ (fun r s => Ev sh 98 8 [a0, a1] (zpush r []) s Q) := Ev_call rfl
theorem s_Stones_shareOf_8 : Ev sh 98 8 [a0, a1] [.int x] σ Q = Q (some (.int x)) σ := Ev_ret rfl
theorem s_Stones_kindBitsOf_0 : Ev sh 99 0 [a0, a1, a2, a3] st σ Q = Ev sh 99 1 [a0, a1, a2, a3] (.int 0 :: st) σ Q := Ev_step rfl
theorem s_Stones_kindBitsOf_1 : Ev sh 99 1 [a0, a1, a2, a3] (.int x :: st) σ Q = Ev sh 99 2 [a0, zdrop2 a1, some (.int x), a3] st σ Q := Ev_step rfl
theorem s_Stones_kindBitsOf_2 : Ev sh 99 2 [a0, a1, a2, a3] st σ Q = Ev sh 99 3 [a0, a1, a2, a3] (.int 0 :: st) σ Q := Ev_step rfl
theorem s_Stones_kindBitsOf_3 : Ev sh 99 3 [a0, a1, a2, a3] (.int x :: st) σ Q = Ev sh 99 4 [a0, a1, zdrop2 a2, some (.int x)] st σ Q := Ev_step rfl
theorem s_Stones_kindBitsOf_4 : Ev sh 99 4 [a0, a1, a2, some (.int x)] st σ Q = Ev sh 99 5 [a0, a1, a2, some (.int x)] (.int x :: st) σ Q := Ev_step rfl
theorem s_Stones_kindBitsOf_5 : Ev sh 99 5 [some (.ref i), a1, a2, a3] st σ Q = Ev sh 99 6 [some (.ref i), a1, a2, a3] (.ref i :: st) σ Q := Ev_step rfl
theorem s_Stones_kindBitsOf_6 (h : sh i = 7) : Ev sh 99 6 [a0, a1, a2, a3] (.ref i :: st) σ Q = Ev sh 99 9 [a0, a1, a2, a3] (.int (σ i 3) :: st) σ Q := Ev_h h rfl
theorem s_Stones_kindBitsOf_9 : Ev sh 99 9 [a0, a1, a2, a3] (.int y :: .int x :: st) σ Q = if y ≤ x then Ev sh 99 37 [a0, a1, a2, a3] st σ Q else Ev sh 99 12 [a0, a1, a2, a3] st σ Q := Ev_if rfl
theorem s_Stones_kindBitsOf_12 : Ev sh 99 12 [some (.ref i), a1, a2, a3] st σ Q = Ev sh 99 13 [some (.ref i), a1, a2, a3] (.ref i :: st) σ Q := Ev_step rfl
theorem s_Stones_kindBitsOf_13 : Ev sh 99 13 [a0, a1, a2, some (.int x)] st σ Q = Ev sh 99 14 [a0, a1, a2, some (.int x)] (.int x :: st) σ Q := Ev_step rfl
theorem s_Stones_kindBitsOf_14 (h : sh i0 = 7) : Ev sh 99 14 [a0, a1, a2, a3] [.int x1, .ref i0] σ Q = Ev sh 75 0 [some (.ref i0), some (.int x1)] [] σ (fun r s => Ev sh 99 17 [a0, a1, a2, a3] (zpush r []) s Q) := Ev_callh (zrecv_of (by decide) h) rfl
theorem s_Stones_kindBitsOf_17 : Ev sh 99 17 [a0, some (.int x), a2, a3] st σ Q = Ev sh 99 18 [a0, some (.int x), a2, a3] (.int x :: st) σ Q := Ev_step rfl
theorem s_Stones_kindBitsOf_18 : Ev sh 99 18 [a0, a1, a2, a3] (.int y :: .int x :: st) σ Q = if x ≠ y then Ev sh 99 31 [a0, a1, a2, a3] st σ Q else Ev sh 99 21 [a0, a1, a2, a3] st σ Q := Ev_if rfl
theorem s_Stones_kindBitsOf_21 : Ev sh 99 21 [a0, a1, some (.int x), a3] st σ Q = Ev sh 99 22 [a0, a1, some (.int x), a3] (.int x :: st) σ Q := Ev_step rfl
theorem s_Stones_kindBitsOf_22 : Ev sh 99 22 [a0, a1, a2, a3] st σ Q = Ev sh 99 23 [a0, a1, a2, a3] (.int 1 :: st) σ Q := Ev_step rfl
theorem s_Stones_kindBitsOf_23 : Ev sh 99 23 [some (.ref i), a1, a2, a3] st σ Q = Ev sh 99 24 [some (.ref i), a1, a2, a3] (.ref i :: st) σ Q := Ev_step rfl
theorem s_Stones_kindBitsOf_24 : Ev sh 99 24 [a0, a1, a2, some (.int x)] st σ Q = Ev sh 99 25 [a0, a1, a2, some (.int x)] (.int x :: st) σ Q := Ev_step rfl
theorem s_Stones_kindBitsOf_25 (h : sh i2 = 7) : Ev sh 99 25 [a0, a1, a2, a3] [.int x3, .ref i2, .int x1, .int x0] σ Q = Ev sh 73 0 [some (.ref i2), some (.int x3)] [] σ (fun r s => Ev sh 99 28 [a0, a1, a2, a3] (zpush r [.int x1, .int x0]) s Q) := Ev_callh (zrecv_of (by decide) h) rfl
theorem s_Stones_kindBitsOf_28 : Ev sh 99 28 [a0, a1, a2, a3] (.int y :: .int x :: st) σ Q = Ev sh 99 29 [a0, a1, a2, a3] (.int (x <<< (y &&& 31)) :: st) σ Q := Ev_step rfl
theorem s_Stones_kindBitsOf_29 : Ev sh 99 29 [a0, a1, a2, a3] (.int y :: .int x :: st) σ Q = Ev sh 99 30 [a0, a1, a2, a3] (.int (x ||| y) :: st) σ Q := Ev_step rfl
theorem s_Stones_kindBitsOf_30 : Ev sh 99 30 [a0, a1, a2, a3] (.int x :: st) σ Q = Ev sh 99 31 [a0, zdrop2 a1, some (.int x), a3] st σ Q := Ev_step rfl
theorem s_Stones_kindBitsOf_31 : Ev sh 99 31 [a0, a1, a2, some (.int x)] st σ Q = Ev sh 99 34 [a0, a1, a2, some (.int (x + 1))] st σ Q := Ev_step rfl
theorem s_Stones_kindBitsOf_34 : Ev sh 99 34 [a0, a1, a2, a3] st σ Q = Ev sh 99 4 [a0, a1, a2, a3] st σ Q := Ev_step rfl
theorem s_Stones_kindBitsOf_37 : Ev sh 99 37 [a0, a1, some (.int x), a3] st σ Q = Ev sh 99 38 [a0, a1, some (.int x), a3] (.int x :: st) σ Q := Ev_step rfl
theorem s_Stones_kindBitsOf_38 : Ev sh 99 38 [a0, a1, a2, a3] [.int x] σ Q = Q (some (.int x)) σ := Ev_ret rfl
theorem s_Stones_runsOfOne_0 : Ev sh 100 0 [some (.ref i), a1, a2] st σ Q = Ev sh 100 1 [some (.ref i), a1, a2] (.ref i :: st) σ Q := Ev_step rfl
theorem s_Stones_runsOfOne_1 (h : sh i = 7) : Ev sh 100 1 [a0, a1, a2] (.ref i :: st) σ Q = Ev sh 100 4 [a0, a1, a2] (.int (σ i 3) :: st) σ Q := Ev_h h rfl
theorem s_Stones_runsOfOne_4 : Ev sh 100 4 [a0, a1, a2] st σ Q = Ev sh 100 5 [a0, a1, a2] (.int 1 :: st) σ Q := Ev_step rfl
theorem s_Stones_runsOfOne_5 : Ev sh 100 5 [a0, a1, a2] [.int y, .int x] σ Q = Ev sh 100 8 [a0, a1, a2] [.int (if y < x then y else x)] σ Q := Ev_step rfl
theorem s_Stones_runsOfOne_8 : Ev sh 100 8 [a0, a1, a2] (.int x :: st) σ Q = Ev sh 100 9 [zdrop2 a0, some (.int x), a2] st σ Q := Ev_step rfl
theorem s_Stones_runsOfOne_9 : Ev sh 100 9 [a0, a1, a2] st σ Q = Ev sh 100 10 [a0, a1, a2] (.int 0 :: st) σ Q := Ev_step rfl
theorem s_Stones_runsOfOne_10 : Ev sh 100 10 [a0, a1, a2] (.int x :: st) σ Q = Ev sh 100 11 [a0, zdrop2 a1, some (.int x)] st σ Q := Ev_step rfl
theorem s_Stones_runsOfOne_11 : Ev sh 100 11 [a0, a1, some (.int x)] st σ Q = Ev sh 100 12 [a0, a1, some (.int x)] (.int x :: st) σ Q := Ev_step rfl
theorem s_Stones_runsOfOne_12 : Ev sh 100 12 [some (.ref i), a1, a2] st σ Q = Ev sh 100 13 [some (.ref i), a1, a2] (.ref i :: st) σ Q := Ev_step rfl
theorem s_Stones_runsOfOne_13 (h : sh i1 = 7) : Ev sh 100 13 [a0, a1, a2] [.ref i1, .int x0] σ Q = Ev sh 82 0 [some (.ref i1)] [] σ (fun r s => Ev sh 100 16 [a0, a1, a2] (zpush r [.int x0]) s Q) := Ev_callh (zrecv_of (by decide) h) rfl
theorem s_Stones_runsOfOne_16 : Ev sh 100 16 [a0, a1, a2] (.int y :: .int x :: st) σ Q = if y ≤ x then Ev sh 100 36 [a0, a1, a2] st σ Q else Ev sh 100 19 [a0, a1, a2] st σ Q := Ev_if rfl
theorem s_Stones_runsOfOne_19 : Ev sh 100 19 [a0, some (.int x), a2] st σ Q = Ev sh 100 20 [a0, some (.int x), a2] (.int x :: st) σ Q := Ev_step rfl
theorem s_Stones_runsOfOne_20 : Ev sh 100 20 [some (.ref i), a1, a2] st σ Q = Ev sh 100 21 [some (.ref i), a1, a2] (.ref i :: st) σ Q := Ev_step rfl
theorem s_Stones_runsOfOne_21 : Ev sh 100 21 [a0, a1, some (.int x)] st σ Q = Ev sh 100 22 [a0, a1, some (.int x)] (.int x :: st) σ Q := Ev_step rfl
theorem s_Stones_runsOfOne_22 (h : sh i1 = 7) : Ev sh 100 22 [a0, a1, a2] [.int x2, .ref i1, .int x0] σ Q = Ev sh 85 0 [some (.ref i1), some (.int x2)] [] σ (fun r s => Ev sh 100 25 [a0, a1, a2] (zpush r [.int x0]) s Q) := Ev_callh (zrecv_of (by decide) h) rfl
theorem s_Stones_runsOfOne_25 : Ev sh 100 25 [a0, a1, a2] [.int x1, .int x0] σ Q = Ev sh 155 0 [some (.int x1)] [] σ (fun r s => Ev sh 100 28 [a0, a1, a2] (zpush r [.int x0]) s Q) := Ev_call rfl
theorem s_Stones_runsOfOne_28 : Ev sh 100 28 [a0, a1, a2] (.int y :: .int x :: st) σ Q = Ev sh 100 29 [a0, a1, a2] (.int (x + y) :: st) σ Q := Ev_step rfl
theorem s_Stones_runsOfOne_29 : Ev sh 100 29 [a0, a1, a2] (.int x :: st) σ Q = Ev sh 100 30 [zdrop2 a0, some (.int x), a2] st σ Q := Ev_step rfl
theorem s_Stones_runsOfOne_30 : Ev sh 100 30 [a0, a1, some (.int x)] st σ Q = Ev sh 100 33 [a0, a1, some (.int (x + 1))] st σ Q := Ev_step rfl
theorem s_Stones_runsOfOne_33 : Ev sh 100 33 [a0, a1, a2] st σ Q = Ev sh 100 11 [a0, a1, a2] st σ Q := Ev_step rfl
theorem s_Stones_runsOfOne_36 : Ev sh 100 36 [a0, some (.int x), a2] st σ Q = Ev sh 100 37 [a0, some (.int x), a2] (.int x :: st) σ Q := Ev_step rfl
theorem s_Stones_runsOfOne_37 : Ev sh 100 37 [a0, a1, a2] [.int x] σ Q = Q (some (.int x)) σ := Ev_ret rfl
theorem s_Stones_longestRun_0 : Ev sh 101 0 [some (.ref i), a1, a2, a3] st σ Q = Ev sh 101 1 [some (.ref i), a1, a2, a3] (.ref i :: st) σ Q := Ev_step rfl
theorem s_Stones_longestRun_1 (h : sh i = 7) : Ev sh 101 1 [a0, a1, a2, a3] (.ref i :: st) σ Q = Ev sh 101 4 [a0, a1, a2, a3] (.int (σ i 3) :: st) σ Q := Ev_h h rfl
theorem s_Stones_longestRun_4 : Ev sh 101 4 [a0, a1, a2, a3] st σ Q = Ev sh 101 5 [a0, a1, a2, a3] (.int 1 :: st) σ Q := Ev_step rfl
theorem s_Stones_longestRun_5 : Ev sh 101 5 [a0, a1, a2, a3] [.int y, .int x] σ Q = Ev sh 101 8 [a0, a1, a2, a3] [.int (if y < x then y else x)] σ Q := Ev_step rfl
theorem s_Stones_longestRun_8 : Ev sh 101 8 [a0, a1, a2, a3] (.int x :: st) σ Q = Ev sh 101 9 [zdrop2 a0, some (.int x), a2, a3] st σ Q := Ev_step rfl
theorem s_Stones_longestRun_9 : Ev sh 101 9 [a0, some (.int x), a2, a3] st σ Q = Ev sh 101 10 [a0, some (.int x), a2, a3] (.int x :: st) σ Q := Ev_step rfl
theorem s_Stones_longestRun_10 : Ev sh 101 10 [a0, a1, a2, a3] (.int x :: st) σ Q = Ev sh 101 11 [a0, zdrop2 a1, some (.int x), a3] st σ Q := Ev_step rfl
theorem s_Stones_longestRun_11 : Ev sh 101 11 [a0, a1, a2, a3] st σ Q = Ev sh 101 12 [a0, a1, a2, a3] (.int 0 :: st) σ Q := Ev_step rfl
theorem s_Stones_longestRun_12 : Ev sh 101 12 [a0, a1, a2, a3] (.int x :: st) σ Q = Ev sh 101 13 [a0, a1, zdrop2 a2, some (.int x)] st σ Q := Ev_step rfl
theorem s_Stones_longestRun_13 : Ev sh 101 13 [a0, a1, a2, some (.int x)] st σ Q = Ev sh 101 14 [a0, a1, a2, some (.int x)] (.int x :: st) σ Q := Ev_step rfl
theorem s_Stones_longestRun_14 : Ev sh 101 14 [some (.ref i), a1, a2, a3] st σ Q = Ev sh 101 15 [some (.ref i), a1, a2, a3] (.ref i :: st) σ Q := Ev_step rfl
theorem s_Stones_longestRun_15 (h : sh i1 = 7) : Ev sh 101 15 [a0, a1, a2, a3] [.ref i1, .int x0] σ Q = Ev sh 82 0 [some (.ref i1)] [] σ (fun r s => Ev sh 101 18 [a0, a1, a2, a3] (zpush r [.int x0]) s Q) := Ev_callh (zrecv_of (by decide) h) rfl
theorem s_Stones_longestRun_18 : Ev sh 101 18 [a0, a1, a2, a3] (.int y :: .int x :: st) σ Q = if y ≤ x then Ev sh 101 49 [a0, a1, a2, a3] st σ Q else Ev sh 101 21 [a0, a1, a2, a3] st σ Q := Ev_if rfl
theorem s_Stones_longestRun_21 : Ev sh 101 21 [some (.ref i), a1, a2, a3] st σ Q = Ev sh 101 22 [some (.ref i), a1, a2, a3] (.ref i :: st) σ Q := Ev_step rfl
theorem s_Stones_longestRun_22 : Ev sh 101 22 [a0, a1, a2, some (.int x)] st σ Q = Ev sh 101 23 [a0, a1, a2, some (.int x)] (.int x :: st) σ Q := Ev_step rfl
theorem s_Stones_longestRun_23 (h : sh i0 = 7) : Ev sh 101 23 [a0, a1, a2, a3] [.int x1, .ref i0] σ Q = Ev sh 85 0 [some (.ref i0), some (.int x1)] [] σ (fun r s => Ev sh 101 26 [a0, a1, a2, a3] (zpush r []) s Q) := Ev_callh (zrecv_of (by decide) h) rfl
theorem s_Stones_longestRun_26 : Ev sh 101 26 [a0, a1, a2, a3] (.int x :: st) σ Q = if x = 0 then Ev sh 101 33 [a0, a1, a2, a3] st σ Q else Ev sh 101 29 [a0, a1, a2, a3] st σ Q := Ev_if rfl
theorem s_Stones_longestRun_29 : Ev sh 101 29 [a0, a1, a2, a3] st σ Q = Ev sh 101 30 [a0, a1, a2, a3] (.int 1 :: st) σ Q := Ev_step rfl
theorem s_Stones_longestRun_30 : Ev sh 101 30 [a0, a1, a2, a3] st σ Q = Ev sh 101 36 [a0, a1, a2, a3] st σ Q := Ev_step rfl
theorem s_Stones_longestRun_33 : Ev sh 101 33 [a0, some (.int x), a2, a3] st σ Q = Ev sh 101 34 [a0, some (.int x), a2, a3] (.int x :: st) σ Q := Ev_step rfl
theorem s_Stones_longestRun_34 : Ev sh 101 34 [a0, a1, a2, a3] st σ Q = Ev sh 101 35 [a0, a1, a2, a3] (.int 1 :: st) σ Q := Ev_step rfl
theorem s_Stones_longestRun_35 : Ev sh 101 35 [a0, a1, a2, a3] (.int y :: .int x :: st) σ Q = Ev sh 101 36 [a0, a1, a2, a3] (.int (x + y) :: st) σ Q := Ev_step rfl
theorem s_Stones_longestRun_36 : Ev sh 101 36 [a0, a1, a2, a3] (.int x :: st) σ Q = Ev sh 101 37 [zdrop2 a0, some (.int x), a2, a3] st σ Q := Ev_step rfl
theorem s_Stones_longestRun_37 : Ev sh 101 37 [a0, a1, some (.int x), a3] st σ Q = Ev sh 101 38 [a0, a1, some (.int x), a3] (.int x :: st) σ Q := Ev_step rfl
theorem s_Stones_longestRun_38 : Ev sh 101 38 [a0, some (.int x), a2, a3] st σ Q = Ev sh 101 39 [a0, some (.int x), a2, a3] (.int x :: st) σ Q := Ev_step rfl
theorem s_Stones_longestRun_39 : Ev sh 101 39 [a0, a1, a2, a3] [.int y, .int x] σ Q = Ev sh 101 42 [a0, a1, a2, a3] [.int (if x < y then y else x)] σ Q := Ev_step rfl
theorem s_Stones_longestRun_42 : Ev sh 101 42 [a0, a1, a2, a3] (.int x :: st) σ Q = Ev sh 101 43 [a0, zdrop2 a1, some (.int x), a3] st σ Q := Ev_step rfl
theorem s_Stones_longestRun_43 : Ev sh 101 43 [a0, a1, a2, some (.int x)] st σ Q = Ev sh 101 46 [a0, a1, a2, some (.int (x + 1))] st σ Q := Ev_step rfl
theorem s_Stones_longestRun_46 : Ev sh 101 46 [a0, a1, a2, a3] st σ Q = Ev sh 101 13 [a0, a1, a2, a3] st σ Q := Ev_step rfl
theorem s_Stones_longestRun_49 : Ev sh 101 49 [a0, a1, some (.int x), a3] st σ Q = Ev sh 101 50 [a0, a1, some (.int x), a3] (.int x :: st) σ Q := Ev_step rfl
theorem s_Stones_longestRun_50 : Ev sh 101 50 [a0, a1, a2, a3] [.int x] σ Q = Q (some (.int x)) σ := Ev_ret rfl
theorem s_Stones_agreedJoints_0 : Ev sh 102 0 [a0, a1, a2] st σ Q = Ev sh 102 1 [a0, a1, a2] (.int 0 :: st) σ Q := Ev_step rfl
theorem s_Stones_agreedJoints_1 : Ev sh 102 1 [a0, a1, a2] (.int x :: st) σ Q = Ev sh 102 2 [zdrop2 a0, some (.int x), a2] st σ Q := Ev_step rfl
theorem s_Stones_agreedJoints_2 : Ev sh 102 2 [a0, a1, a2] st σ Q = Ev sh 102 3 [a0, a1, a2] (.int 0 :: st) σ Q := Ev_step rfl
theorem s_Stones_agreedJoints_3 : Ev sh 102 3 [a0, a1, a2] (.int x :: st) σ Q = Ev sh 102 4 [a0, zdrop2 a1, some (.int x)] st σ Q := Ev_step rfl
theorem s_Stones_agreedJoints_4 : Ev sh 102 4 [a0, a1, some (.int x)] st σ Q = Ev sh 102 5 [a0, a1, some (.int x)] (.int x :: st) σ Q := Ev_step rfl
theorem s_Stones_agreedJoints_5 : Ev sh 102 5 [some (.ref i), a1, a2] st σ Q = Ev sh 102 6 [some (.ref i), a1, a2] (.ref i :: st) σ Q := Ev_step rfl
theorem s_Stones_agreedJoints_6 (h : sh i1 = 7) : Ev sh 102 6 [a0, a1, a2] [.ref i1, .int x0] σ Q = Ev sh 82 0 [some (.ref i1)] [] σ (fun r s => Ev sh 102 9 [a0, a1, a2] (zpush r [.int x0]) s Q) := Ev_callh (zrecv_of (by decide) h) rfl
theorem s_Stones_agreedJoints_9 : Ev sh 102 9 [a0, a1, a2] (.int y :: .int x :: st) σ Q = if y ≤ x then Ev sh 102 45 [a0, a1, a2] st σ Q else Ev sh 102 12 [a0, a1, a2] st σ Q := Ev_if rfl
theorem s_Stones_agreedJoints_12 : Ev sh 102 12 [a0, some (.int x), a2] st σ Q = Ev sh 102 13 [a0, some (.int x), a2] (.int x :: st) σ Q := Ev_step rfl
theorem s_Stones_agreedJoints_13 : Ev sh 102 13 [some (.ref i), a1, a2] st σ Q = Ev sh 102 14 [some (.ref i), a1, a2] (.ref i :: st) σ Q := Ev_step rfl
theorem s_Stones_agreedJoints_14 : Ev sh 102 14 [a0, a1, some (.int x)] st σ Q = Ev sh 102 15 [a0, a1, some (.int x)] (.int x :: st) σ Q := Ev_step rfl
theorem s_Stones_agreedJoints_15 (h : sh i1 = 7) : Ev sh 102 15 [a0, a1, a2] [.int x2, .ref i1, .int x0] σ Q = Ev sh 84 0 [some (.ref i1), some (.int x2)] [] σ (fun r s => Ev sh 102 18 [a0, a1, a2] (zpush r [.int x0]) s Q) := Ev_callh (zrecv_of (by decide) h) rfl
theorem s_Stones_agreedJoints_18 : Ev sh 102 18 [a0, a1, a2] (.int x :: st) σ Q = if x = 0 then Ev sh 102 33 [a0, a1, a2] st σ Q else Ev sh 102 21 [a0, a1, a2] st σ Q := Ev_if rfl
theorem s_Stones_agreedJoints_21 : Ev sh 102 21 [some (.ref i), a1, a2] st σ Q = Ev sh 102 22 [some (.ref i), a1, a2] (.ref i :: st) σ Q := Ev_step rfl
theorem s_Stones_agreedJoints_22 : Ev sh 102 22 [a0, a1, some (.int x)] st σ Q = Ev sh 102 23 [a0, a1, some (.int x)] (.int x :: st) σ Q := Ev_step rfl
theorem s_Stones_agreedJoints_23 (h : sh i1 = 7) : Ev sh 102 23 [a0, a1, a2] [.int x2, .ref i1, .int x0] σ Q = Ev sh 85 0 [some (.ref i1), some (.int x2)] [] σ (fun r s => Ev sh 102 26 [a0, a1, a2] (zpush r [.int x0]) s Q) := Ev_callh (zrecv_of (by decide) h) rfl
theorem s_Stones_agreedJoints_26 : Ev sh 102 26 [a0, a1, a2] (.int x :: st) σ Q = if x = 0 then Ev sh 102 33 [a0, a1, a2] st σ Q else Ev sh 102 29 [a0, a1, a2] st σ Q := Ev_if rfl
theorem s_Stones_agreedJoints_29 : Ev sh 102 29 [a0, a1, a2] st σ Q = Ev sh 102 30 [a0, a1, a2] (.int 1 :: st) σ Q := Ev_step rfl
theorem s_Stones_agreedJoints_30 : Ev sh 102 30 [a0, a1, a2] st σ Q = Ev sh 102 34 [a0, a1, a2] st σ Q := Ev_step rfl
theorem s_Stones_agreedJoints_33 : Ev sh 102 33 [a0, a1, a2] st σ Q = Ev sh 102 34 [a0, a1, a2] (.int 0 :: st) σ Q := Ev_step rfl
theorem s_Stones_agreedJoints_34 : Ev sh 102 34 [a0, a1, a2] [.int x1, .int x0] σ Q = Ev sh 155 0 [some (.int x1)] [] σ (fun r s => Ev sh 102 37 [a0, a1, a2] (zpush r [.int x0]) s Q) := Ev_call rfl
theorem s_Stones_agreedJoints_37 : Ev sh 102 37 [a0, a1, a2] (.int y :: .int x :: st) σ Q = Ev sh 102 38 [a0, a1, a2] (.int (x + y) :: st) σ Q := Ev_step rfl
theorem s_Stones_agreedJoints_38 : Ev sh 102 38 [a0, a1, a2] (.int x :: st) σ Q = Ev sh 102 39 [zdrop2 a0, some (.int x), a2] st σ Q := Ev_step rfl
theorem s_Stones_agreedJoints_39 : Ev sh 102 39 [a0, a1, some (.int x)] st σ Q = Ev sh 102 42 [a0, a1, some (.int (x + 1))] st σ Q := Ev_step rfl
theorem s_Stones_agreedJoints_42 : Ev sh 102 42 [a0, a1, a2] st σ Q = Ev sh 102 4 [a0, a1, a2] st σ Q := Ev_step rfl
theorem s_Stones_agreedJoints_45 : Ev sh 102 45 [a0, some (.int x), a2] st σ Q = Ev sh 102 46 [a0, some (.int x), a2] (.int x :: st) σ Q := Ev_step rfl
theorem s_Stones_agreedJoints_46 : Ev sh 102 46 [a0, a1, a2] [.int x] σ Q = Q (some (.int x)) σ := Ev_ret rfl
theorem s_X_letter_0 : Ev sh 103 0 [a0, some (.int x), a2] st σ Q = Ev sh 103 1 [a0, some (.int x), a2] (.int x :: st) σ Q := Ev_step rfl
theorem s_X_letter_1 : Ev sh 103 1 [a0, a1, a2] st σ Q = Ev sh 103 2 [a0, a1, a2] (.int 0 :: st) σ Q := Ev_step rfl
theorem s_X_letter_2 : Ev sh 103 2 [a0, a1, a2] st σ Q = Ev sh 103 5 [a0, a1, a2] (.int 255 :: st) σ Q := Ev_step rfl
theorem s_X_letter_5 : Ev sh 103 5 [a0, a1, a2] [.int x2, .int x1, .int x0] σ Q = Ev sh 149 0 [some (.int x0), some (.int x1), some (.int x2)] [] σ (fun r s => Ev sh 103 8 [a0, a1, a2] (zpush r []) s Q) := Ev_call rfl
theorem s_X_letter_8 : Ev sh 103 8 [a0, a1, a2] (.int x :: st) σ Q = Ev sh 103 9 [a0, zdrop2 a1, some (.int x)] st σ Q := Ev_step rfl
theorem s_X_letter_9 : Ev sh 103 9 [a0, a1, some (.int x)] st σ Q = Ev sh 103 10 [a0, a1, some (.int x)] (.int x :: st) σ Q := Ev_step rfl
theorem s_X_letter_10 : Ev sh 103 10 [a0, a1, a2] (.int x :: st) σ Q = if x = 0 then Ev sh 103 19 [a0, a1, a2] st σ Q else Ev sh 103 13 [a0, a1, a2] st σ Q := Ev_if rfl
theorem s_X_letter_13 : Ev sh 103 13 [some (.ref i), a1, a2] st σ Q = Ev sh 103 14 [some (.ref i), a1, a2] (.ref i :: st) σ Q := Ev_step rfl
theorem s_X_letter_14 : Ev sh 103 14 [a0, a1, some (.int x)] st σ Q = Ev sh 103 15 [a0, a1, some (.int x)] (.int x :: st) σ Q := Ev_step rfl
theorem s_X_letter_15 (h : sh i0 = 8) : Ev sh 103 15 [a0, a1, a2] [.int x1, .ref i0] σ Q = Ev sh 145 0 [some (.ref i0), some (.int x1), none] [] σ (fun r s => Ev sh 103 18 [a0, a1, a2] (zpush r []) s Q) := Ev_callh (zrecv_of (by decide) h) rfl
theorem s_X_letter_18 : Ev sh 103 18 [a0, a1, a2] [.int x] σ Q = Q (some (.int x)) σ := Ev_ret rfl
theorem s_X_letter_19 : Ev sh 103 19 [some (.ref i), a1, a2] st σ Q = Ev sh 103 20 [some (.ref i), a1, a2] (.ref i :: st) σ Q := Ev_step rfl
theorem s_X_letter_20 (h : sh i = 8) : Ev sh 103 20 [a0, a1, a2] (.ref i :: st) σ Q = Ev sh 103 23 [a0, a1, a2] (.ref 22 :: st) σ Q := Ev_h h rfl
theorem s_X_letter_23 (h : sh i0 = 3) : Ev sh 103 23 [a0, a1, a2] [.ref i0] σ Q = Ev sh 25 0 [some (.ref i0)] [] σ (fun r s => Ev sh 103 26 [a0, a1, a2] (zpush r []) s Q) := Ev_callh (zrecv_of (by decide) h) rfl
theorem s_X_letter_26 : Ev sh 103 26 [a0, a1, a2] (.int x :: st) σ Q = if x = 0 then Ev sh 103 36 [a0, a1, a2] st σ Q else Ev sh 103 29 [a0, a1, a2] st σ Q := Ev_if rfl
theorem s_X_letter_29 : Ev sh 103 29 [some (.ref i), a1, a2] st σ Q = Ev sh 103 30 [some (.ref i), a1, a2] (.ref i :: st) σ Q := Ev_step rfl
theorem s_X_letter_30 : Ev sh 103 30 [a0, a1, a2] st σ Q = Ev sh 103 32 [a0, a1, a2] (.int (-6) :: st) σ Q := Ev_step rfl
theorem s_X_letter_32 (h : sh i0 = 8) : Ev sh 103 32 [a0, a1, a2] [.int x1, .ref i0] σ Q = Ev sh 145 0 [some (.ref i0), some (.int x1), none] [] σ (fun r s => Ev sh 103 35 [a0, a1, a2] (zpush r []) s Q) := Ev_callh (zrecv_of (by decide) h) rfl
theorem s_X_letter_35 : Ev sh 103 35 [a0, a1, a2] [.int x] σ Q = Q (some (.int x)) σ := Ev_ret rfl
theorem s_X_letter_36 : Ev sh 103 36 [some (.ref i), a1, a2] st σ Q = Ev sh 103 37 [some (.ref i), a1, a2] (.ref i :: st) σ Q := Ev_step rfl
theorem s_X_letter_37 (h : sh i = 8) : Ev sh 103 37 [a0, a1, a2] (.ref i :: st) σ Q = Ev sh 103 40 [a0, a1, a2] (.ref 22 :: st) σ Q := Ev_h h rfl
theorem s_X_letter_40 : Ev sh 103 40 [a0, some (.int x), a2] st σ Q = Ev sh 103 41 [a0, some (.int x), a2] (.int x :: st) σ Q := Ev_step rfl
theorem s_X_letter_41 (h : sh i0 = 3) : Ev sh 103 41 [a0, a1, a2] [.int x1, .ref i0] σ Q = Ev sh 26 0 [some (.ref i0), some (.int x1)] [] σ (fun r s => Ev sh 103 44 [a0, a1, a2] (zpush r []) s Q) := Ev_callh (zrecv_of (by decide) h) rfl
theorem s_X_letter_44 : Ev sh 103 44 [some (.ref i), a1, a2] st σ Q = Ev sh 103 45 [some (.ref i), a1, a2] (.ref i :: st) σ Q := Ev_step rfl
theorem s_X_letter_45 (h : sh i = 8) : Ev sh 103 45 [a0, a1, a2] (.ref i :: st) σ Q = Ev sh 103 48 [a0, a1, a2] (.ref 22 :: st) σ Q := Ev_h h rfl
theorem s_X_letter_48 (h : sh i0 = 3) : Ev sh 103 48 [a0, a1, a2] [.ref i0] σ Q = Ev sh 24 0 [some (.ref i0)] [] σ (fun r s => Ev sh 103 51 [a0, a1, a2] (zpush r []) s Q) := Ev_callh (zrecv_of (by decide) h) rfl
theorem s_X_letter_51 : Ev sh 103 51 [a0, a1, a2] [.int x] σ Q = Q (some (.int x)) σ := Ev_ret rfl
theorem s_X_bridge_0 : Ev sh 104 0 [some (.ref i), a1, a2, a3] st σ Q = Ev sh 104 1 [some (.ref i), a1, a2, a3] (.ref i :: st) σ Q := Ev_step rfl
theorem s_X_bridge_1 (h : sh i = 8) : Ev sh 104 1 [a0, a1, a2, a3] (.ref i :: st) σ Q = Ev sh 104 4 [a0, a1, a2, a3] (.ref 22 :: st) σ Q := Ev_h h rfl
theorem s_X_bridge_4 (h : sh i0 = 3) : Ev sh 104 4 [a0, a1, a2, a3] [.ref i0] σ Q = Ev sh 28 0 [some (.ref i0), none, none] [] σ (fun r s => Ev sh 104 7 [a0, a1, a2, a3] (zpush r []) s Q) := Ev_callh (zrecv_of (by decide) h) rfl
theorem s_X_bridge_7 : Ev sh 104 7 [a0, a1, a2, a3] (.int x :: st) σ Q = Ev sh 104 8 [zdrop2 a0, some (.int x), a2, a3] st σ Q := Ev_step rfl
theorem s_X_bridge_8 : Ev sh 104 8 [some (.ref i), a1, a2, a3] st σ Q = Ev sh 104 9 [some (.ref i), a1, a2, a3] (.ref i :: st) σ Q := Ev_step rfl
theorem s_X_bridge_9 (h : sh i = 8) : Ev sh 104 9 [a0, a1, a2, a3] (.ref i :: st) σ Q = Ev sh 104 12 [a0, a1, a2, a3] (.ref 15 :: st) σ Q := Ev_h h rfl
theorem s_X_bridge_12 : Ev sh 104 12 [some (.ref i), a1, a2, a3] st σ Q = Ev sh 104 13 [some (.ref i), a1, a2, a3] (.ref i :: st) σ Q := Ev_step rfl
theorem s_X_bridge_13 (h : sh i = 8) : Ev sh 104 13 [a0, a1, a2, a3] (.ref i :: st) σ Q = Ev sh 104 16 [a0, a1, a2, a3] (.ref 1 :: st) σ Q := Ev_h h rfl
theorem s_X_bridge_16 (h : sh i0 = 0) : Ev sh 104 16 [a0, a1, a2, a3] [.ref i1, .ref i0] σ Q = Ev sh 0 0 [some (.ref i0), some (.ref i1)] [] σ (fun r s => Ev sh 104 19 [a0, a1, a2, a3] (zpush r []) s Q) := Ev_callh (zrecv_of (by decide) h) rfl
theorem s_X_bridge_19 : Ev sh 104 19 [a0, some (.int x), a2, a3] st σ Q = Ev sh 104 20 [a0, some (.int x), a2, a3] (.int x :: st) σ Q := Ev_step rfl
theorem s_X_bridge_20 : Ev sh 104 20 [a0, a1, a2, a3] st σ Q = Ev sh 104 22 [a0, a1, a2, a3] (.int (-9) :: st) σ Q := Ev_step rfl
theorem s_X_bridge_22 : Ev sh 104 22 [a0, a1, a2, a3] (.int y :: .int x :: st) σ Q = if x ≠ y then Ev sh 104 39 [a0, a1, a2, a3] st σ Q else Ev sh 104 25 [a0, a1, a2, a3] st σ Q := Ev_if rfl
theorem s_X_bridge_25 : Ev sh 104 25 [some (.ref i), a1, a2, a3] st σ Q = Ev sh 104 26 [some (.ref i), a1, a2, a3] (.ref i :: st) σ Q := Ev_step rfl
theorem s_X_bridge_26 (h : sh i = 8) : Ev sh 104 26 [a0, a1, a2, a3] (.ref i :: st) σ Q = Ev sh 104 29 [a0, a1, a2, a3] (.ref 22 :: st) σ Q := Ev_h h rfl
theorem s_X_bridge_29 : Ev sh 104 29 [some (.ref i), a1, a2, a3] st σ Q = Ev sh 104 30 [some (.ref i), a1, a2, a3] (.ref i :: st) σ Q := Ev_step rfl
theorem s_X_bridge_30 (h : sh i = 8) : Ev sh 104 30 [a0, a1, a2, a3] (.ref i :: st) σ Q = Ev sh 104 33 [a0, a1, a2, a3] (.ref 15 :: st) σ Q := Ev_h h rfl
theorem s_X_bridge_33 (h : sh i0 = 3) : Ev sh 104 33 [a0, a1, a2, a3] [.ref i1, .ref i0] σ Q = Ev sh 29 0 [some (.ref i0), some (.ref i1), none] [] σ (fun r s => Ev sh 104 36 [a0, a1, a2, a3] (zpush r []) s Q) := Ev_callh (zrecv_of (by decide) h) rfl
theorem s_X_bridge_36 : Ev sh 104 36 [a0, a1, a2, a3] st σ Q = Ev sh 104 41 [a0, a1, a2, a3] st σ Q := Ev_step rfl
theorem s_X_bridge_39 : Ev sh 104 39 [a0, a1, a2, a3] st σ Q = Ev sh 104 41 [a0, a1, a2, a3] (.int (-9) :: st) σ Q := Ev_step rfl
theorem s_X_bridge_41 : Ev sh 104 41 [a0, a1, a2, a3] (.int x :: st) σ Q = Ev sh 104 42 [a0, zdrop2 a1, some (.int x), a3] st σ Q := Ev_step rfl
theorem s_X_bridge_42 : Ev sh 104 42 [some (.ref i), a1, a2, a3] st σ Q = Ev sh 104 43 [some (.ref i), a1, a2, a3] (.ref i :: st) σ Q := Ev_step rfl
theorem s_X_bridge_43 (h : sh i = 8) : Ev sh 104 43 [a0, a1, a2, a3] (.ref i :: st) σ Q = Ev sh 104 46 [a0, a1, a2, a3] (.ref 22 :: st) σ Q := Ev_h h rfl
theorem s_X_bridge_46 (h : sh i0 = 3) : Ev sh 104 46 [a0, a1, a2, a3] [.ref i0] σ Q = Ev sh 30 0 [some (.ref i0), none, none] [] σ (fun r s => Ev sh 104 49 [a0, a1, a2, a3] (zpush r []) s Q) := Ev_callh (zrecv_of (by decide) h) rfl
theorem s_X_bridge_49 : Ev sh 104 49 [a0, a1, a2, a3] (.int x :: st) σ Q = Ev sh 104 50 [a0, a1, zdrop2 a2, some (.int x)] st σ Q := Ev_step rfl
theorem s_X_bridge_50 : Ev sh 104 50 [some (.ref i), a1, a2, a3] st σ Q = Ev sh 104 51 [some (.ref i), a1, a2, a3] (.ref i :: st) σ Q := Ev_step rfl
theorem s_X_bridge_51 (h : sh i = 8) : Ev sh 104 51 [a0, a1, a2, a3] (.ref i :: st) σ Q = Ev sh 104 54 [a0, a1, a2, a3] (.ref 22 :: st) σ Q := Ev_h h rfl
theorem s_X_bridge_54 (h : sh i0 = 3) : Ev sh 104 54 [a0, a1, a2, a3] [.ref i0] σ Q = Ev sh 27 0 [some (.ref i0)] [] σ (fun r s => Ev sh 104 57 [a0, a1, a2, a3] (zpush r []) s Q) := Ev_callh (zrecv_of (by decide) h) rfl
theorem s_X_bridge_57 : Ev sh 104 57 [a0, some (.int x), a2, a3] st σ Q = Ev sh 104 58 [a0, some (.int x), a2, a3] (.int x :: st) σ Q := Ev_step rfl
theorem s_X_bridge_58 : Ev sh 104 58 [a0, a1, a2, a3] st σ Q = Ev sh 104 60 [a0, a1, a2, a3] (.int (-9) :: st) σ Q := Ev_step rfl
theorem s_X_bridge_60 : Ev sh 104 60 [a0, a1, a2, a3] (.int y :: .int x :: st) σ Q = if x = y then Ev sh 104 69 [a0, a1, a2, a3] st σ Q else Ev sh 104 63 [a0, a1, a2, a3] st σ Q := Ev_if rfl
theorem s_X_bridge_63 : Ev sh 104 63 [a0, a1, a2, a3] st σ Q = Ev sh 104 66 [a0, a1, a2, a3] (.int (-1000) :: st) σ Q := Ev_step rfl
theorem s_X_bridge_66 : Ev sh 104 66 [a0, some (.int x), a2, a3] st σ Q = Ev sh 104 67 [a0, some (.int x), a2, a3] (.int x :: st) σ Q := Ev_step rfl
theorem s_X_bridge_67 : Ev sh 104 67 [a0, a1, a2, a3] (.int y :: .int x :: st) σ Q = Ev sh 104 68 [a0, a1, a2, a3] (.int (x - y) :: st) σ Q := Ev_step rfl
theorem s_X_bridge_68 : Ev sh 104 68 [a0, a1, a2, a3] [.int x] σ Q = Q (some (.int x)) σ := Ev_ret rfl
theorem s_X_bridge_69 : Ev sh 104 69 [a0, a1, some (.int x), a3] st σ Q = Ev sh 104 70 [a0, a1, some (.int x), a3] (.int x :: st) σ Q := Ev_step rfl
theorem s_X_bridge_70 : Ev sh 104 70 [a0, a1, a2, a3] st σ Q = Ev sh 104 72 [a0, a1, a2, a3] (.int (-9) :: st) σ Q := Ev_step rfl
theorem s_X_bridge_72 : Ev sh 104 72 [a0, a1, a2, a3] (.int y :: .int x :: st) σ Q = if x = y then Ev sh 104 81 [a0, a1, a2, a3] st σ Q else Ev sh 104 75 [a0, a1, a2, a3] st σ Q := Ev_if rfl
theorem s_X_bridge_75 : Ev sh 104 75 [a0, a1, a2, a3] st σ Q = Ev sh 104 78 [a0, a1, a2, a3] (.int (-2000) :: st) σ Q := Ev_step rfl
theorem s_X_bridge_78 : Ev sh 104 78 [a0, a1, some (.int x), a3] st σ Q = Ev sh 104 79 [a0, a1, some (.int x), a3] (.int x :: st) σ Q := Ev_step rfl
theorem s_X_bridge_79 : Ev sh 104 79 [a0, a1, a2, a3] (.int y :: .int x :: st) σ Q = Ev sh 104 80 [a0, a1, a2, a3] (.int (x - y) :: st) σ Q := Ev_step rfl
theorem s_X_bridge_80 : Ev sh 104 80 [a0, a1, a2, a3] [.int x] σ Q = Q (some (.int x)) σ := Ev_ret rfl
theorem s_X_bridge_81 : Ev sh 104 81 [some (.ref i), a1, a2, a3] st σ Q = Ev sh 104 82 [some (.ref i), a1, a2, a3] (.ref i :: st) σ Q := Ev_step rfl
theorem s_X_bridge_82 (h : sh i = 8) : Ev sh 104 82 [a0, a1, a2, a3] (.ref i :: st) σ Q = Ev sh 104 85 [a0, a1, a2, a3] (.ref 1 :: st) σ Q := Ev_h h rfl
theorem s_X_bridge_85 : Ev sh 104 85 [some (.ref i), a1, a2, a3] st σ Q = Ev sh 104 86 [some (.ref i), a1, a2, a3] (.ref i :: st) σ Q := Ev_step rfl
theorem s_X_bridge_86 (h : sh i = 8) : Ev sh 104 86 [a0, a1, a2, a3] (.ref i :: st) σ Q = Ev sh 104 89 [a0, a1, a2, a3] (.ref 15 :: st) σ Q := Ev_h h rfl
theorem s_X_bridge_89 (h : sh i0 = 0) : Ev sh 104 89 [a0, a1, a2, a3] [.ref i1, .ref i0] σ Q = Ev sh 0 0 [some (.ref i0), some (.ref i1)] [] σ (fun r s => Ev sh 104 92 [a0, a1, a2, a3] (zpush r []) s Q) := Ev_callh (zrecv_of (by decide) h) rfl
theorem s_X_bridge_92 : Ev sh 104 92 [a0, a1, a2, some (.int x)] st σ Q = Ev sh 104 93 [a0, a1, a2, some (.int x)] (.int x :: st) σ Q := Ev_step rfl
theorem s_X_bridge_93 : Ev sh 104 93 [a0, a1, a2, a3] [.int x] σ Q = Q (some (.int x)) σ := Ev_ret rfl
theorem s_X_stone_0 : Ev sh 105 0 [some (.ref i), a1, a2] st σ Q = Ev sh 105 1 [some (.ref i), a1, a2] (.ref i :: st) σ Q := Ev_step rfl
theorem s_X_stone_1 (h : sh i = 8) : Ev sh 105 1 [a0, a1, a2] (.ref i :: st) σ Q = Ev sh 105 4 [a0, a1, a2] (.ref 1 :: st) σ Q := Ev_h h rfl
theorem s_X_stone_4 (h : sh i = 0) : Ev sh 105 4 [a0, a1, a2] (.ref i :: st) σ Q = Ev sh 105 7 [a0, a1, a2] (.ref (i + 1) :: st) σ Q := Ev_h h rfl
theorem s_X_stone_7 : Ev sh 105 7 [a0, some (.int x), a2] st σ Q = Ev sh 105 8 [a0, some (.int x), a2] (.int x :: st) σ Q := Ev_step rfl
theorem s_X_stone_8 (h : sh i0 = 7) : Ev sh 105 8 [a0, a1, a2] [.int x1, .ref i0] σ Q = Ev sh 72 0 [some (.ref i0), some (.int x1)] [] σ (fun r s => Ev sh 105 11 [a0, a1, a2] (zpush r []) s Q) := Ev_callh (zrecv_of (by decide) h) rfl
theorem s_X_stone_11 : Ev sh 105 11 [a0, a1, a2] (.int x :: st) σ Q = if x ≠ 0 then Ev sh 105 20 [a0, a1, a2] st σ Q else Ev sh 105 14 [a0, a1, a2] st σ Q := Ev_if rfl
theorem s_X_stone_14 : Ev sh 105 14 [some (.ref i), a1, a2] st σ Q = Ev sh 105 15 [some (.ref i), a1, a2] (.ref i :: st) σ Q := Ev_step rfl
theorem s_X_stone_15 : Ev sh 105 15 [a0, a1, a2] st σ Q = Ev sh 105 16 [a0, a1, a2] (.int (-1) :: st) σ Q := Ev_step rfl
theorem s_X_stone_16 (h : sh i0 = 8) : Ev sh 105 16 [a0, a1, a2] [.int x1, .ref i0] σ Q = Ev sh 146 0 [some (.ref i0), some (.int x1)] [] σ (fun r s => Ev sh 105 19 [a0, a1, a2] (zpush r []) s Q) := Ev_callh (zrecv_of (by decide) h) rfl
theorem s_X_stone_19 : Ev sh 105 19 [a0, a1, a2] [.int x] σ Q = Q (some (.int x)) σ := Ev_ret rfl
theorem s_X_stone_20 : Ev sh 105 20 [a0, a1, some (.int x)] st σ Q = Ev sh 105 21 [a0, a1, some (.int x)] (.int x :: st) σ Q := Ev_step rfl
theorem s_X_stone_21 : Ev sh 105 21 [a0, a1, a2] (.int x :: st) σ Q = if x = 0 then Ev sh 105 60 [a0, a1, a2] st σ Q else if x = 1 then Ev sh 105 72 [a0, a1, a2] st σ Q else if x = 2 then Ev sh 105 84 [a0, a1, a2] st σ Q else if x = 3 then Ev sh 105 96 [a0, a1, a2] st σ Q else if x = 4 then Ev sh 105 108 [a0, a1, a2] st σ Q else if x = 5 then Ev sh 105 120 [a0, a1, a2] st σ Q else Ev sh 105 132 [a0, a1, a2] st σ Q := (Ev_step (pc' := zsw x 132 [(0, 60), (1, 72), (2, 84), (3, 96), (4, 108), (5, 120)]) rfl).trans (by rw [Ev_swc, Ev_swc, Ev_swc, Ev_swc, Ev_swc, Ev_swc]; rfl)
theorem s_X_stone_60 : Ev sh 105 60 [some (.ref i), a1, a2] st σ Q = Ev sh 105 61 [some (.ref i), a1, a2] (.ref i :: st) σ Q := Ev_step rfl
theorem s_X_stone_61 (h : sh i = 8) : Ev sh 105 61 [a0, a1, a2] (.ref i :: st) σ Q = Ev sh 105 64 [a0, a1, a2] (.ref 1 :: st) σ Q := Ev_h h rfl
theorem s_X_stone_64 (h : sh i = 0) : Ev sh 105 64 [a0, a1, a2] (.ref i :: st) σ Q = Ev sh 105 67 [a0, a1, a2] (.ref (i + 1) :: st) σ Q := Ev_h h rfl
theorem s_X_stone_67 : Ev sh 105 67 [a0, some (.int x), a2] st σ Q = Ev sh 105 68 [a0, some (.int x), a2] (.int x :: st) σ Q := Ev_step rfl
theorem s_X_stone_68 (h : sh i0 = 7) : Ev sh 105 68 [a0, a1, a2] [.int x1, .ref i0] σ Q = Ev sh 73 0 [some (.ref i0), some (.int x1)] [] σ (fun r s => Ev sh 105 71 [a0, a1, a2] (zpush r []) s Q) := Ev_callh (zrecv_of (by decide) h) rfl
theorem s_X_stone_71 : Ev sh 105 71 [a0, a1, a2] [.int x] σ Q = Q (some (.int x)) σ := Ev_ret rfl
theorem s_X_stone_72 : Ev sh 105 72 [some (.ref i), a1, a2] st σ Q = Ev sh 105 73 [some (.ref i), a1, a2] (.ref i :: st) σ Q := Ev_step rfl
theorem s_X_stone_73 (h : sh i = 8) : Ev sh 105 73 [a0, a1, a2] (.ref i :: st) σ Q = Ev sh 105 76 [a0, a1, a2] (.ref 1 :: st) σ Q := Ev_h h rfl
theorem s_X_stone_76 (h : sh i = 0) : Ev sh 105 76 [a0, a1, a2] (.ref i :: st) σ Q = Ev sh 105 79 [a0, a1, a2] (.ref (i + 1) :: st) σ Q := Ev_h h rfl
theorem s_X_stone_79 : Ev sh 105 79 [a0, some (.int x), a2] st σ Q = Ev sh 105 80 [a0, some (.int x), a2] (.int x :: st) σ Q := Ev_step rfl
theorem s_X_stone_80 (h : sh i0 = 7) : Ev sh 105 80 [a0, a1, a2] [.int x1, .ref i0] σ Q = Ev sh 74 0 [some (.ref i0), some (.int x1)] [] σ (fun r s => Ev sh 105 83 [a0, a1, a2] (zpush r []) s Q) := Ev_callh (zrecv_of (by decide) h) rfl
theorem s_X_stone_83 : Ev sh 105 83 [a0, a1, a2] [.int x] σ Q = Q (some (.int x)) σ := Ev_ret rfl
theorem s_X_stone_84 : Ev sh 105 84 [some (.ref i), a1, a2] st σ Q = Ev sh 105 85 [some (.ref i), a1, a2] (.ref i :: st) σ Q := Ev_step rfl
theorem s_X_stone_85 (h : sh i = 8) : Ev sh 105 85 [a0, a1, a2] (.ref i :: st) σ Q = Ev sh 105 88 [a0, a1, a2] (.ref 1 :: st) σ Q := Ev_h h rfl
theorem s_X_stone_88 (h : sh i = 0) : Ev sh 105 88 [a0, a1, a2] (.ref i :: st) σ Q = Ev sh 105 91 [a0, a1, a2] (.ref (i + 1) :: st) σ Q := Ev_h h rfl
theorem s_X_stone_91 : Ev sh 105 91 [a0, some (.int x), a2] st σ Q = Ev sh 105 92 [a0, some (.int x), a2] (.int x :: st) σ Q := Ev_step rfl
theorem s_X_stone_92 (h : sh i0 = 7) : Ev sh 105 92 [a0, a1, a2] [.int x1, .ref i0] σ Q = Ev sh 75 0 [some (.ref i0), some (.int x1)] [] σ (fun r s => Ev sh 105 95 [a0, a1, a2] (zpush r []) s Q) := Ev_callh (zrecv_of (by decide) h) rfl
theorem s_X_stone_95 : Ev sh 105 95 [a0, a1, a2] [.int x] σ Q = Q (some (.int x)) σ := Ev_ret rfl
theorem s_X_stone_96 : Ev sh 105 96 [some (.ref i), a1, a2] st σ Q = Ev sh 105 97 [some (.ref i), a1, a2] (.ref i :: st) σ Q := Ev_step rfl
theorem s_X_stone_97 (h : sh i = 8) : Ev sh 105 97 [a0, a1, a2] (.ref i :: st) σ Q = Ev sh 105 100 [a0, a1, a2] (.ref 1 :: st) σ Q := Ev_h h rfl
theorem s_X_stone_100 (h : sh i = 0) : Ev sh 105 100 [a0, a1, a2] (.ref i :: st) σ Q = Ev sh 105 103 [a0, a1, a2] (.ref (i + 1) :: st) σ Q := Ev_h h rfl
theorem s_X_stone_103 : Ev sh 105 103 [a0, some (.int x), a2] st σ Q = Ev sh 105 104 [a0, some (.int x), a2] (.int x :: st) σ Q := Ev_step rfl
theorem s_X_stone_104 (h : sh i0 = 7) : Ev sh 105 104 [a0, a1, a2] [.int x1, .ref i0] σ Q = Ev sh 76 0 [some (.ref i0), some (.int x1), none] [] σ (fun r s => Ev sh 105 107 [a0, a1, a2] (zpush r []) s Q) := Ev_callh (zrecv_of (by decide) h) rfl
theorem s_X_stone_107 : Ev sh 105 107 [a0, a1, a2] [.int x] σ Q = Q (some (.int x)) σ := Ev_ret rfl
theorem s_X_stone_108 : Ev sh 105 108 [some (.ref i), a1, a2] st σ Q = Ev sh 105 109 [some (.ref i), a1, a2] (.ref i :: st) σ Q := Ev_step rfl
theorem s_X_stone_109 (h : sh i = 8) : Ev sh 105 109 [a0, a1, a2] (.ref i :: st) σ Q = Ev sh 105 112 [a0, a1, a2] (.ref 1 :: st) σ Q := Ev_h h rfl
theorem s_X_stone_112 (h : sh i = 0) : Ev sh 105 112 [a0, a1, a2] (.ref i :: st) σ Q = Ev sh 105 115 [a0, a1, a2] (.ref (i + 1) :: st) σ Q := Ev_h h rfl
theorem s_X_stone_115 : Ev sh 105 115 [a0, some (.int x), a2] st σ Q = Ev sh 105 116 [a0, some (.int x), a2] (.int x :: st) σ Q := Ev_step rfl
theorem s_X_stone_116 (h : sh i0 = 7) : Ev sh 105 116 [a0, a1, a2] [.int x1, .ref i0] σ Q = Ev sh 77 0 [some (.ref i0), some (.int x1), none] [] σ (fun r s => Ev sh 105 119 [a0, a1, a2] (zpush r []) s Q) := Ev_callh (zrecv_of (by decide) h) rfl
theorem s_X_stone_119 : Ev sh 105 119 [a0, a1, a2] [.int x] σ Q = Q (some (.int x)) σ := Ev_ret rfl
theorem s_X_stone_120 : Ev sh 105 120 [some (.ref i), a1, a2] st σ Q = Ev sh 105 121 [some (.ref i), a1, a2] (.ref i :: st) σ Q := Ev_step rfl
theorem s_X_stone_121 (h : sh i = 8) : Ev sh 105 121 [a0, a1, a2] (.ref i :: st) σ Q = Ev sh 105 124 [a0, a1, a2] (.ref 1 :: st) σ Q := Ev_h h rfl
theorem s_X_stone_124 (h : sh i = 0) : Ev sh 105 124 [a0, a1, a2] (.ref i :: st) σ Q = Ev sh 105 127 [a0, a1, a2] (.ref (i + 1) :: st) σ Q := Ev_h h rfl
theorem s_X_stone_127 : Ev sh 105 127 [a0, some (.int x), a2] st σ Q = Ev sh 105 128 [a0, some (.int x), a2] (.int x :: st) σ Q := Ev_step rfl
theorem s_X_stone_128 (h : sh i0 = 7) : Ev sh 105 128 [a0, a1, a2] [.int x1, .ref i0] σ Q = Ev sh 78 0 [some (.ref i0), some (.int x1), none, none] [] σ (fun r s => Ev sh 105 131 [a0, a1, a2] (zpush r []) s Q) := Ev_callh (zrecv_of (by decide) h) rfl
theorem s_X_stone_131 : Ev sh 105 131 [a0, a1, a2] [.int x] σ Q = Q (some (.int x)) σ := Ev_ret rfl
theorem s_X_stone_132 : Ev sh 105 132 [some (.ref i), a1, a2] st σ Q = Ev sh 105 133 [some (.ref i), a1, a2] (.ref i :: st) σ Q := Ev_step rfl
theorem s_X_stone_133 : Ev sh 105 133 [a0, a1, a2] st σ Q = Ev sh 105 135 [a0, a1, a2] (.int (-2) :: st) σ Q := Ev_step rfl
theorem s_X_stone_135 (h : sh i0 = 8) : Ev sh 105 135 [a0, a1, a2] [.int x1, .ref i0] σ Q = Ev sh 146 0 [some (.ref i0), some (.int x1)] [] σ (fun r s => Ev sh 105 138 [a0, a1, a2] (zpush r []) s Q) := Ev_callh (zrecv_of (by decide) h) rfl
theorem s_X_stone_138 : Ev sh 105 138 [a0, a1, a2] [.int x] σ Q = Q (some (.int x)) σ := Ev_ret rfl
theorem s_X_joint_0 : Ev sh 106 0 [some (.ref i), a1, a2] st σ Q = Ev sh 106 1 [some (.ref i), a1, a2] (.ref i :: st) σ Q := Ev_step rfl
theorem s_X_joint_1 (h : sh i = 8) : Ev sh 106 1 [a0, a1, a2] (.ref i :: st) σ Q = Ev sh 106 4 [a0, a1, a2] (.ref 1 :: st) σ Q := Ev_h h rfl
theorem s_X_joint_4 (h : sh i = 0) : Ev sh 106 4 [a0, a1, a2] (.ref i :: st) σ Q = Ev sh 106 7 [a0, a1, a2] (.ref (i + 1) :: st) σ Q := Ev_h h rfl
theorem s_X_joint_7 : Ev sh 106 7 [a0, some (.int x), a2] st σ Q = Ev sh 106 8 [a0, some (.int x), a2] (.int x :: st) σ Q := Ev_step rfl
theorem s_X_joint_8 (h : sh i0 = 7) : Ev sh 106 8 [a0, a1, a2] [.int x1, .ref i0] σ Q = Ev sh 83 0 [some (.ref i0), some (.int x1)] [] σ (fun r s => Ev sh 106 11 [a0, a1, a2] (zpush r []) s Q) := Ev_callh (zrecv_of (by decide) h) rfl
theorem s_X_joint_11 : Ev sh 106 11 [a0, a1, a2] (.int x :: st) σ Q = if x ≠ 0 then Ev sh 106 20 [a0, a1, a2] st σ Q else Ev sh 106 14 [a0, a1, a2] st σ Q := Ev_if rfl
theorem s_X_joint_14 : Ev sh 106 14 [some (.ref i), a1, a2] st σ Q = Ev sh 106 15 [some (.ref i), a1, a2] (.ref i :: st) σ Q := Ev_step rfl
theorem s_X_joint_15 : Ev sh 106 15 [a0, a1, a2] st σ Q = Ev sh 106 16 [a0, a1, a2] (.int (-1) :: st) σ Q := Ev_step rfl
theorem s_X_joint_16 (h : sh i0 = 8) : Ev sh 106 16 [a0, a1, a2] [.int x1, .ref i0] σ Q = Ev sh 145 0 [some (.ref i0), some (.int x1), none] [] σ (fun r s => Ev sh 106 19 [a0, a1, a2] (zpush r []) s Q) := Ev_callh (zrecv_of (by decide) h) rfl
theorem s_X_joint_19 : Ev sh 106 19 [a0, a1, a2] [.int x] σ Q = Q (some (.int x)) σ := Ev_ret rfl
theorem s_X_joint_20 : Ev sh 106 20 [a0, a1, some (.int x)] st σ Q = Ev sh 106 21 [a0, a1, some (.int x)] (.int x :: st) σ Q := Ev_step rfl
theorem s_X_joint_21 : Ev sh 106 21 [a0, a1, a2] (.int x :: st) σ Q = if x = 0 then Ev sh 106 48 [a0, a1, a2] st σ Q else if x = 1 then Ev sh 106 60 [a0, a1, a2] st σ Q else Ev sh 106 72 [a0, a1, a2] st σ Q := (Ev_step (pc' := zsw x 72 [(0, 48), (1, 60)]) rfl).trans (by rw [Ev_swc, Ev_swc]; rfl)
theorem s_X_joint_48 : Ev sh 106 48 [some (.ref i), a1, a2] st σ Q = Ev sh 106 49 [some (.ref i), a1, a2] (.ref i :: st) σ Q := Ev_step rfl
theorem s_X_joint_49 (h : sh i = 8) : Ev sh 106 49 [a0, a1, a2] (.ref i :: st) σ Q = Ev sh 106 52 [a0, a1, a2] (.ref 1 :: st) σ Q := Ev_h h rfl
theorem s_X_joint_52 (h : sh i = 0) : Ev sh 106 52 [a0, a1, a2] (.ref i :: st) σ Q = Ev sh 106 55 [a0, a1, a2] (.ref (i + 1) :: st) σ Q := Ev_h h rfl
theorem s_X_joint_55 : Ev sh 106 55 [a0, some (.int x), a2] st σ Q = Ev sh 106 56 [a0, some (.int x), a2] (.int x :: st) σ Q := Ev_step rfl
theorem s_X_joint_56 (h : sh i0 = 7) : Ev sh 106 56 [a0, a1, a2] [.int x1, .ref i0] σ Q = Ev sh 86 0 [some (.ref i0), some (.int x1), none] [] σ (fun r s => Ev sh 106 59 [a0, a1, a2] (zpush r []) s Q) := Ev_callh (zrecv_of (by decide) h) rfl
theorem s_X_joint_59 : Ev sh 106 59 [a0, a1, a2] [.int x] σ Q = Q (some (.int x)) σ := Ev_ret rfl
theorem s_X_joint_60 : Ev sh 106 60 [some (.ref i), a1, a2] st σ Q = Ev sh 106 61 [some (.ref i), a1, a2] (.ref i :: st) σ Q := Ev_step rfl
theorem s_X_joint_61 (h : sh i = 8) : Ev sh 106 61 [a0, a1, a2] (.ref i :: st) σ Q = Ev sh 106 64 [a0, a1, a2] (.ref 1 :: st) σ Q := Ev_h h rfl
theorem s_X_joint_64 (h : sh i = 0) : Ev sh 106 64 [a0, a1, a2] (.ref i :: st) σ Q = Ev sh 106 67 [a0, a1, a2] (.ref (i + 1) :: st) σ Q := Ev_h h rfl
theorem s_X_joint_67 : Ev sh 106 67 [a0, some (.int x), a2] st σ Q = Ev sh 106 68 [a0, some (.int x), a2] (.int x :: st) σ Q := Ev_step rfl
theorem s_X_joint_68 (h : sh i0 = 7) : Ev sh 106 68 [a0, a1, a2] [.int x1, .ref i0] σ Q = Ev sh 87 0 [some (.ref i0), some (.int x1)] [] σ (fun r s => Ev sh 106 71 [a0, a1, a2] (zpush r []) s Q) := Ev_callh (zrecv_of (by decide) h) rfl
theorem s_X_joint_71 : Ev sh 106 71 [a0, a1, a2] [.int x] σ Q = Q (some (.int x)) σ := Ev_ret rfl
theorem s_X_joint_72 : Ev sh 106 72 [some (.ref i), a1, a2] st σ Q = Ev sh 106 73 [some (.ref i), a1, a2] (.ref i :: st) σ Q := Ev_step rfl
theorem s_X_joint_73 : Ev sh 106 73 [a0, a1, a2] st σ Q = Ev sh 106 75 [a0, a1, a2] (.int (-2) :: st) σ Q := Ev_step rfl
theorem s_X_joint_75 (h : sh i0 = 8) : Ev sh 106 75 [a0, a1, a2] [.int x1, .ref i0] σ Q = Ev sh 145 0 [some (.ref i0), some (.int x1), none] [] σ (fun r s => Ev sh 106 78 [a0, a1, a2] (zpush r []) s Q) := Ev_callh (zrecv_of (by decide) h) rfl
theorem s_X_joint_78 : Ev sh 106 78 [a0, a1, a2] [.int x] σ Q = Q (some (.int x)) σ := Ev_ret rfl
theorem s_X_mason_0 : Ev sh 107 0 [a0, some (.int x), a2] st σ Q = Ev sh 107 1 [a0, some (.int x), a2] (.int x :: st) σ Q := Ev_step rfl
theorem s_X_mason_1 : Ev sh 107 1 [a0, a1, a2] [.int x0] σ Q = Ev sh 151 0 [some (.int x0)] [] σ (fun r s => Ev sh 107 4 [a0, a1, a2] (zpush r []) s Q) := Ev_call rfl
theorem s_X_mason_4 : Ev sh 107 4 [a0, a1, a2] (.int x :: st) σ Q = if x ≠ 0 then Ev sh 107 13 [a0, a1, a2] st σ Q else Ev sh 107 7 [a0, a1, a2] st σ Q := Ev_if rfl
theorem s_X_mason_7 : Ev sh 107 7 [some (.ref i), a1, a2] st σ Q = Ev sh 107 8 [some (.ref i), a1, a2] (.ref i :: st) σ Q := Ev_step rfl
theorem s_X_mason_8 : Ev sh 107 8 [a0, a1, a2] st σ Q = Ev sh 107 9 [a0, a1, a2] (.int (-1) :: st) σ Q := Ev_step rfl
theorem s_X_mason_9 (h : sh i0 = 8) : Ev sh 107 9 [a0, a1, a2] [.int x1, .ref i0] σ Q = Ev sh 145 0 [some (.ref i0), some (.int x1), none] [] σ (fun r s => Ev sh 107 12 [a0, a1, a2] (zpush r []) s Q) := Ev_callh (zrecv_of (by decide) h) rfl
theorem s_X_mason_12 : Ev sh 107 12 [a0, a1, a2] [.int x] σ Q = Q (some (.int x)) σ := Ev_ret rfl
theorem s_X_mason_13 : Ev sh 107 13 [a0, a1, some (.int x)] st σ Q = Ev sh 107 14 [a0, a1, some (.int x)] (.int x :: st) σ Q := Ev_step rfl
theorem s_X_mason_14 : Ev sh 107 14 [a0, a1, a2] (.int x :: st) σ Q = if x = 0 then Ev sh 107 44 [a0, a1, a2] st σ Q else if x = 1 then Ev sh 107 56 [a0, a1, a2] st σ Q else if x = 2 then Ev sh 107 68 [a0, a1, a2] st σ Q else if x = 3 then Ev sh 107 80 [a0, a1, a2] st σ Q else Ev sh 107 92 [a0, a1, a2] st σ Q := (Ev_step (pc' := zsw x 92 [(0, 44), (1, 56), (2, 68), (3, 80)]) rfl).trans (by rw [Ev_swc, Ev_swc, Ev_swc, Ev_swc]; rfl)
theorem s_X_mason_44 : Ev sh 107 44 [some (.ref i), a1, a2] st σ Q = Ev sh 107 45 [some (.ref i), a1, a2] (.ref i :: st) σ Q := Ev_step rfl
theorem s_X_mason_45 (h : sh i = 8) : Ev sh 107 45 [a0, a1, a2] (.ref i :: st) σ Q = Ev sh 107 48 [a0, a1, a2] (.ref 1 :: st) σ Q := Ev_h h rfl
theorem s_X_mason_48 : Ev sh 107 48 [a0, some (.int x), a2] st σ Q = Ev sh 107 49 [a0, some (.int x), a2] (.int x :: st) σ Q := Ev_step rfl
theorem s_X_mason_49 (h : sh i0 = 0) : Ev sh 107 49 [a0, a1, a2] [.int x1, .ref i0] σ Q = Ev sh 1 0 [some (.ref i0), some (.int x1)] [] σ (fun r s => Ev sh 107 52 [a0, a1, a2] (zpush r []) s Q) := Ev_callh (zrecv_of (by decide) h) rfl
theorem s_X_mason_52 (h : sh i = 4) : Ev sh 107 52 [a0, a1, a2] (.ref i :: st) σ Q = Ev sh 107 55 [a0, a1, a2] (.int (σ i 0) :: st) σ Q := Ev_h h rfl
theorem s_X_mason_55 : Ev sh 107 55 [a0, a1, a2] [.int x] σ Q = Q (some (.int x)) σ := Ev_ret rfl
theorem s_X_mason_56 : Ev sh 107 56 [some (.ref i), a1, a2] st σ Q = Ev sh 107 57 [some (.ref i), a1, a2] (.ref i :: st) σ Q := Ev_step rfl
theorem s_X_mason_57 (h : sh i = 8) : Ev sh 107 57 [a0, a1, a2] (.ref i :: st) σ Q = Ev sh 107 60 [a0, a1, a2] (.ref 1 :: st) σ Q := Ev_h h rfl
theorem s_X_mason_60 : Ev sh 107 60 [a0, some (.int x), a2] st σ Q = Ev sh 107 61 [a0, some (.int x), a2] (.int x :: st) σ Q := Ev_step rfl
theorem s_X_mason_61 (h : sh i0 = 0) : Ev sh 107 61 [a0, a1, a2] [.int x1, .ref i0] σ Q = Ev sh 1 0 [some (.ref i0), some (.int x1)] [] σ (fun r s => Ev sh 107 64 [a0, a1, a2] (zpush r []) s Q) := Ev_callh (zrecv_of (by decide) h) rfl
theorem s_X_mason_64 (h : sh i = 4) : Ev sh 107 64 [a0, a1, a2] (.ref i :: st) σ Q = Ev sh 107 67 [a0, a1, a2] (.int (σ i 1) :: st) σ Q := Ev_h h rfl
theorem s_X_mason_67 : Ev sh 107 67 [a0, a1, a2] [.int x] σ Q = Q (some (.int x)) σ := Ev_ret rfl
theorem s_X_mason_68 : Ev sh 107 68 [some (.ref i), a1, a2] st σ Q = Ev sh 107 69 [some (.ref i), a1, a2] (.ref i :: st) σ Q := Ev_step rfl
theorem s_X_mason_69 (h : sh i = 8) : Ev sh 107 69 [a0, a1, a2] (.ref i :: st) σ Q = Ev sh 107 72 [a0, a1, a2] (.ref 1 :: st) σ Q := Ev_h h rfl
theorem s_X_mason_72 : Ev sh 107 72 [a0, some (.int x), a2] st σ Q = Ev sh 107 73 [a0, some (.int x), a2] (.int x :: st) σ Q := Ev_step rfl
theorem s_X_mason_73 (h : sh i0 = 0) : Ev sh 107 73 [a0, a1, a2] [.int x1, .ref i0] σ Q = Ev sh 1 0 [some (.ref i0), some (.int x1)] [] σ (fun r s => Ev sh 107 76 [a0, a1, a2] (zpush r []) s Q) := Ev_callh (zrecv_of (by decide) h) rfl
theorem s_X_mason_76 (h : sh i = 4) : Ev sh 107 76 [a0, a1, a2] (.ref i :: st) σ Q = Ev sh 107 79 [a0, a1, a2] (.int (σ i 2) :: st) σ Q := Ev_h h rfl
theorem s_X_mason_79 : Ev sh 107 79 [a0, a1, a2] [.int x] σ Q = Q (some (.int x)) σ := Ev_ret rfl
theorem s_X_mason_80 : Ev sh 107 80 [some (.ref i), a1, a2] st σ Q = Ev sh 107 81 [some (.ref i), a1, a2] (.ref i :: st) σ Q := Ev_step rfl
theorem s_X_mason_81 (h : sh i = 8) : Ev sh 107 81 [a0, a1, a2] (.ref i :: st) σ Q = Ev sh 107 84 [a0, a1, a2] (.ref 1 :: st) σ Q := Ev_h h rfl
theorem s_X_mason_84 (h : sh i = 0) : Ev sh 107 84 [a0, a1, a2] (.ref i :: st) σ Q = Ev sh 107 87 [a0, a1, a2] (.ref (i + 1) :: st) σ Q := Ev_h h rfl
theorem s_X_mason_87 : Ev sh 107 87 [a0, some (.int x), a2] st σ Q = Ev sh 107 88 [a0, some (.int x), a2] (.int x :: st) σ Q := Ev_step rfl
theorem s_X_mason_88 (h : sh i0 = 7) : Ev sh 107 88 [a0, a1, a2] [.int x1, .ref i0] σ Q = Ev sh 98 0 [some (.ref i0), some (.int x1)] [] σ (fun r s => Ev sh 107 91 [a0, a1, a2] (zpush r []) s Q) := Ev_callh (zrecv_of (by decide) h) rfl
theorem s_X_mason_91 : Ev sh 107 91 [a0, a1, a2] [.int x] σ Q = Q (some (.int x)) σ := Ev_ret rfl
theorem s_X_mason_92 : Ev sh 107 92 [some (.ref i), a1, a2] st σ Q = Ev sh 107 93 [some (.ref i), a1, a2] (.ref i :: st) σ Q := Ev_step rfl
theorem s_X_mason_93 : Ev sh 107 93 [a0, a1, a2] st σ Q = Ev sh 107 95 [a0, a1, a2] (.int (-2) :: st) σ Q := Ev_step rfl
theorem s_X_mason_95 (h : sh i0 = 8) : Ev sh 107 95 [a0, a1, a2] [.int x1, .ref i0] σ Q = Ev sh 145 0 [some (.ref i0), some (.int x1), none] [] σ (fun r s => Ev sh 107 98 [a0, a1, a2] (zpush r []) s Q) := Ev_callh (zrecv_of (by decide) h) rfl
theorem s_X_mason_98 : Ev sh 107 98 [a0, a1, a2] [.int x] σ Q = Q (some (.int x)) σ := Ev_ret rfl
theorem s_X_lays_0 : Ev sh 108 0 [a0, some (.int x), a2, a3, a4] st σ Q = Ev sh 108 1 [a0, some (.int x), a2, a3, a4] (.int x :: st) σ Q := Ev_step rfl
theorem s_X_lays_1 : Ev sh 108 1 [a0, a1, a2, a3, a4] [.int x0] σ Q = Ev sh 152 0 [some (.int x0)] [] σ (fun r s => Ev sh 108 4 [a0, a1, a2, a3, a4] (zpush r []) s Q) := Ev_call rfl
theorem s_X_lays_4 : Ev sh 108 4 [a0, a1, a2, a3, a4] (.int x :: st) σ Q = if x ≠ 0 then Ev sh 108 14 [a0, a1, a2, a3, a4] st σ Q else Ev sh 108 7 [a0, a1, a2, a3, a4] st σ Q := Ev_if rfl
theorem s_X_lays_7 : Ev sh 108 7 [some (.ref i), a1, a2, a3, a4] st σ Q = Ev sh 108 8 [some (.ref i), a1, a2, a3, a4] (.ref i :: st) σ Q := Ev_step rfl
theorem s_X_lays_8 : Ev sh 108 8 [a0, a1, a2, a3, a4] st σ Q = Ev sh 108 10 [a0, a1, a2, a3, a4] (.int (-2) :: st) σ Q := Ev_step rfl
theorem s_X_lays_10 (h : sh i0 = 8) : Ev sh 108 10 [a0, a1, a2, a3, a4] [.int x1, .ref i0] σ Q = Ev sh 145 0 [some (.ref i0), some (.int x1), none] [] σ (fun r s => Ev sh 108 13 [a0, a1, a2, a3, a4] (zpush r []) s Q) := Ev_callh (zrecv_of (by decide) h) rfl
theorem s_X_lays_13 : Ev sh 108 13 [a0, a1, a2, a3, a4] [.int x] σ Q = Q (some (.int x)) σ := Ev_ret rfl
theorem s_X_lays_14 : Ev sh 108 14 [a0, a1, some (.int x), a3, a4] st σ Q = Ev sh 108 15 [a0, a1, some (.int x), a3, a4] (.int x :: st) σ Q := Ev_step rfl
theorem s_X_lays_15 : Ev sh 108 15 [a0, a1, a2, a3, a4] st σ Q = Ev sh 108 16 [a0, a1, a2, a3, a4] (.int 0 :: st) σ Q := Ev_step rfl
theorem s_X_lays_16 : Ev sh 108 16 [a0, a1, a2, a3, a4] st σ Q = Ev sh 108 18 [a0, a1, a2, a3, a4] (.int 9 :: st) σ Q := Ev_step rfl
theorem s_X_lays_18 : Ev sh 108 18 [a0, a1, a2, a3, a4] [.int x2, .int x1, .int x0] σ Q = Ev sh 149 0 [some (.int x0), some (.int x1), some (.int x2)] [] σ (fun r s => Ev sh 108 21 [a0, a1, a2, a3, a4] (zpush r []) s Q) := Ev_call rfl
theorem s_X_lays_21 : Ev sh 108 21 [a0, a1, a2, a3, a4] (.int x :: st) σ Q = Ev sh 108 23 [a0, a1, a2, zdrop2 a3, some (.int x)] st σ Q := Ev_step rfl
theorem s_X_lays_23 : Ev sh 108 23 [a0, a1, a2, a3, some (.int x)] st σ Q = Ev sh 108 25 [a0, a1, a2, a3, some (.int x)] (.int x :: st) σ Q := Ev_step rfl
theorem s_X_lays_25 : Ev sh 108 25 [a0, a1, a2, a3, a4] (.int x :: st) σ Q = if x = 0 then Ev sh 108 35 [a0, a1, a2, a3, a4] st σ Q else Ev sh 108 28 [a0, a1, a2, a3, a4] st σ Q := Ev_if rfl
theorem s_X_lays_28 : Ev sh 108 28 [some (.ref i), a1, a2, a3, a4] st σ Q = Ev sh 108 29 [some (.ref i), a1, a2, a3, a4] (.ref i :: st) σ Q := Ev_step rfl
theorem s_X_lays_29 : Ev sh 108 29 [a0, a1, a2, a3, some (.int x)] st σ Q = Ev sh 108 31 [a0, a1, a2, a3, some (.int x)] (.int x :: st) σ Q := Ev_step rfl
theorem s_X_lays_31 (h : sh i0 = 8) : Ev sh 108 31 [a0, a1, a2, a3, a4] [.int x1, .ref i0] σ Q = Ev sh 145 0 [some (.ref i0), some (.int x1), none] [] σ (fun r s => Ev sh 108 34 [a0, a1, a2, a3, a4] (zpush r []) s Q) := Ev_callh (zrecv_of (by decide) h) rfl
theorem s_X_lays_34 : Ev sh 108 34 [a0, a1, a2, a3, a4] [.int x] σ Q = Q (some (.int x)) σ := Ev_ret rfl
theorem s_X_lays_35 : Ev sh 108 35 [a0, a1, a2, some (.int x), a4] st σ Q = Ev sh 108 36 [a0, a1, a2, some (.int x), a4] (.int x :: st) σ Q := Ev_step rfl
theorem s_X_lays_36 : Ev sh 108 36 [a0, a1, a2, a3, a4] [.int x0] σ Q = Ev sh 151 0 [some (.int x0)] [] σ (fun r s => Ev sh 108 39 [a0, a1, a2, a3, a4] (zpush r []) s Q) := Ev_call rfl
theorem s_X_lays_39 : Ev sh 108 39 [a0, a1, a2, a3, a4] (.int x :: st) σ Q = if x ≠ 0 then Ev sh 108 48 [a0, a1, a2, a3, a4] st σ Q else Ev sh 108 42 [a0, a1, a2, a3, a4] st σ Q := Ev_if rfl
theorem s_X_lays_42 : Ev sh 108 42 [some (.ref i), a1, a2, a3, a4] st σ Q = Ev sh 108 43 [some (.ref i), a1, a2, a3, a4] (.ref i :: st) σ Q := Ev_step rfl
theorem s_X_lays_43 : Ev sh 108 43 [a0, a1, a2, a3, a4] st σ Q = Ev sh 108 44 [a0, a1, a2, a3, a4] (.int (-1) :: st) σ Q := Ev_step rfl
theorem s_X_lays_44 (h : sh i0 = 8) : Ev sh 108 44 [a0, a1, a2, a3, a4] [.int x1, .ref i0] σ Q = Ev sh 145 0 [some (.ref i0), some (.int x1), none] [] σ (fun r s => Ev sh 108 47 [a0, a1, a2, a3, a4] (zpush r []) s Q) := Ev_callh (zrecv_of (by decide) h) rfl
theorem s_X_lays_47 : Ev sh 108 47 [a0, a1, a2, a3, a4] [.int x] σ Q = Q (some (.int x)) σ := Ev_ret rfl
theorem s_X_lays_48 : Ev sh 108 48 [some (.ref i), a1, a2, a3, a4] st σ Q = Ev sh 108 49 [some (.ref i), a1, a2, a3, a4] (.ref i :: st) σ Q := Ev_step rfl
theorem s_X_lays_49 (h : sh i = 8) : Ev sh 108 49 [a0, a1, a2, a3, a4] (.ref i :: st) σ Q = Ev sh 108 52 [a0, a1, a2, a3, a4] (.ref 1 :: st) σ Q := Ev_h h rfl
theorem s_X_lays_52 (h : sh i = 0) : Ev sh 108 52 [a0, a1, a2, a3, a4] (.ref i :: st) σ Q = Ev sh 108 55 [a0, a1, a2, a3, a4] (.ref (i + 1) :: st) σ Q := Ev_h h rfl
theorem s_X_lays_55 (h : sh i0 = 7) : Ev sh 108 55 [a0, a1, a2, a3, a4] [.ref i0] σ Q = Ev sh 71 0 [some (.ref i0)] [] σ (fun r s => Ev sh 108 58 [a0, a1, a2, a3, a4] (zpush r []) s Q) := Ev_callh (zrecv_of (by decide) h) rfl
theorem s_X_lays_58 : Ev sh 108 58 [a0, a1, a2, a3, a4] (.int x :: st) σ Q = if x ≠ 0 then Ev sh 108 68 [a0, a1, a2, a3, a4] st σ Q else Ev sh 108 61 [a0, a1, a2, a3, a4] st σ Q := Ev_if rfl
theorem s_X_lays_61 : Ev sh 108 61 [some (.ref i), a1, a2, a3, a4] st σ Q = Ev sh 108 62 [some (.ref i), a1, a2, a3, a4] (.ref i :: st) σ Q := Ev_step rfl
theorem s_X_lays_62 : Ev sh 108 62 [a0, a1, a2, a3, a4] st σ Q = Ev sh 108 64 [a0, a1, a2, a3, a4] (.int (-6) :: st) σ Q := Ev_step rfl
theorem s_X_lays_64 (h : sh i0 = 8) : Ev sh 108 64 [a0, a1, a2, a3, a4] [.int x1, .ref i0] σ Q = Ev sh 145 0 [some (.ref i0), some (.int x1), none] [] σ (fun r s => Ev sh 108 67 [a0, a1, a2, a3, a4] (zpush r []) s Q) := Ev_callh (zrecv_of (by decide) h) rfl
theorem s_X_lays_67 : Ev sh 108 67 [a0, a1, a2, a3, a4] [.int x] σ Q = Q (some (.int x)) σ := Ev_ret rfl
theorem s_X_lays_68 : Ev sh 108 68 [some (.ref i), a1, a2, a3, a4] st σ Q = Ev sh 108 69 [some (.ref i), a1, a2, a3, a4] (.ref i :: st) σ Q := Ev_step rfl
theorem s_X_lays_69 (h : sh i = 8) : Ev sh 108 69 [a0, a1, a2, a3, a4] (.ref i :: st) σ Q = Ev sh 108 72 [a0, a1, a2, a3, a4] (.ref 1 :: st) σ Q := Ev_h h rfl
theorem s_X_lays_72 (h : sh i = 0) : Ev sh 108 72 [a0, a1, a2, a3, a4] (.ref i :: st) σ Q = Ev sh 108 75 [a0, a1, a2, a3, a4] (.ref (i + 1) :: st) σ Q := Ev_h h rfl
theorem s_X_lays_75 : Ev sh 108 75 [a0, some (.int x), a2, a3, a4] st σ Q = Ev sh 108 76 [a0, some (.int x), a2, a3, a4] (.int x :: st) σ Q := Ev_step rfl
theorem s_X_lays_76 : Ev sh 108 76 [a0, a1, some (.int x), a3, a4] st σ Q = Ev sh 108 77 [a0, a1, some (.int x), a3, a4] (.int x :: st) σ Q := Ev_step rfl
theorem s_X_lays_77 : Ev sh 108 77 [a0, a1, a2, some (.int x), a4] st σ Q = Ev sh 108 78 [a0, a1, a2, some (.int x), a4] (.int x :: st) σ Q := Ev_step rfl
theorem s_X_lays_78 (h : sh i0 = 7) : Ev sh 108 78 [a0, a1, a2, a3, a4] [.int x3, .int x2, .int x1, .ref i0] σ Q = Ev sh 64 0 [some (.ref i0), some (.int x1), some (.int x2), some (.int x3)] [] σ (fun r s => Ev sh 108 81 [a0, a1, a2, a3, a4] (zpush r []) s Q) := Ev_callh (zrecv_of (by decide) h) rfl
theorem s_X_lays_81 : Ev sh 108 81 [some (.ref i), a1, a2, a3, a4] st σ Q = Ev sh 108 82 [some (.ref i), a1, a2, a3, a4] (.ref i :: st) σ Q := Ev_step rfl
theorem s_X_lays_82 (h : sh i = 8) : Ev sh 108 82 [a0, a1, a2, a3, a4] (.ref i :: st) σ Q = Ev sh 108 85 [a0, a1, a2, a3, a4] (.ref 1 :: st) σ Q := Ev_h h rfl
theorem s_X_lays_85 (h : sh i = 0) : Ev sh 108 85 [a0, a1, a2, a3, a4] (.ref i :: st) σ Q = Ev sh 108 88 [a0, a1, a2, a3, a4] (.ref (i + 1) :: st) σ Q := Ev_h h rfl
theorem s_X_lays_88 (h : sh i0 = 7) : Ev sh 108 88 [a0, a1, a2, a3, a4] [.ref i0] σ Q = Ev sh 70 0 [some (.ref i0)] [] σ (fun r s => Ev sh 108 91 [a0, a1, a2, a3, a4] (zpush r []) s Q) := Ev_callh (zrecv_of (by decide) h) rfl
theorem s_X_lays_91 : Ev sh 108 91 [a0, a1, a2, a3, a4] st σ Q = Ev sh 108 92 [a0, a1, a2, a3, a4] (.int 1 :: st) σ Q := Ev_step rfl
theorem s_X_lays_92 : Ev sh 108 92 [a0, a1, a2, a3, a4] (.int y :: .int x :: st) σ Q = Ev sh 108 93 [a0, a1, a2, a3, a4] (.int (x - y) :: st) σ Q := Ev_step rfl
theorem s_X_lays_93 : Ev sh 108 93 [a0, a1, a2, a3, a4] [.int x] σ Q = Q (some (.int x)) σ := Ev_ret rfl
theorem s_X_corrects_0 : Ev sh 109 0 [some (.ref i), a1, a2, a3, a4, a5] st σ Q = Ev sh 109 1 [some (.ref i), a1, a2, a3, a4, a5] (.ref i :: st) σ Q := Ev_step rfl
theorem s_X_corrects_1 (h : sh i = 8) : Ev sh 109 1 [a0, a1, a2, a3, a4, a5] (.ref i :: st) σ Q = Ev sh 109 4 [a0, a1, a2, a3, a4, a5] (.ref 1 :: st) σ Q := Ev_h h rfl
theorem s_X_corrects_4 (h : sh i = 0) : Ev sh 109 4 [a0, a1, a2, a3, a4, a5] (.ref i :: st) σ Q = Ev sh 109 7 [a0, a1, a2, a3, a4, a5] (.ref (i + 1) :: st) σ Q := Ev_h h rfl
theorem s_X_corrects_7 : Ev sh 109 7 [a0, some (.int x), a2, a3, a4, a5] st σ Q = Ev sh 109 8 [a0, some (.int x), a2, a3, a4, a5] (.int x :: st) σ Q := Ev_step rfl
theorem s_X_corrects_8 (h : sh i0 = 7) : Ev sh 109 8 [a0, a1, a2, a3, a4, a5] [.int x1, .ref i0] σ Q = Ev sh 72 0 [some (.ref i0), some (.int x1)] [] σ (fun r s => Ev sh 109 11 [a0, a1, a2, a3, a4, a5] (zpush r []) s Q) := Ev_callh (zrecv_of (by decide) h) rfl
theorem s_X_corrects_11 : Ev sh 109 11 [a0, a1, a2, a3, a4, a5] (.int x :: st) σ Q = if x ≠ 0 then Ev sh 109 20 [a0, a1, a2, a3, a4, a5] st σ Q else Ev sh 109 14 [a0, a1, a2, a3, a4, a5] st σ Q := Ev_if rfl
theorem s_X_corrects_14 : Ev sh 109 14 [some (.ref i), a1, a2, a3, a4, a5] st σ Q = Ev sh 109 15 [some (.ref i), a1, a2, a3, a4, a5] (.ref i :: st) σ Q := Ev_step rfl
theorem s_X_corrects_15 : Ev sh 109 15 [a0, a1, a2, a3, a4, a5] st σ Q = Ev sh 109 16 [a0, a1, a2, a3, a4, a5] (.int (-1) :: st) σ Q := Ev_step rfl
theorem s_X_corrects_16 (h : sh i0 = 8) : Ev sh 109 16 [a0, a1, a2, a3, a4, a5] [.int x1, .ref i0] σ Q = Ev sh 145 0 [some (.ref i0), some (.int x1), none] [] σ (fun r s => Ev sh 109 19 [a0, a1, a2, a3, a4, a5] (zpush r []) s Q) := Ev_callh (zrecv_of (by decide) h) rfl
theorem s_X_corrects_19 : Ev sh 109 19 [a0, a1, a2, a3, a4, a5] [.int x] σ Q = Q (some (.int x)) σ := Ev_ret rfl
theorem s_X_corrects_20 : Ev sh 109 20 [a0, a1, some (.int x), a3, a4, a5] st σ Q = Ev sh 109 21 [a0, a1, some (.int x), a3, a4, a5] (.int x :: st) σ Q := Ev_step rfl
theorem s_X_corrects_21 : Ev sh 109 21 [a0, a1, a2, a3, a4, a5] [.int x0] σ Q = Ev sh 152 0 [some (.int x0)] [] σ (fun r s => Ev sh 109 24 [a0, a1, a2, a3, a4, a5] (zpush r []) s Q) := Ev_call rfl
theorem s_X_corrects_24 : Ev sh 109 24 [a0, a1, a2, a3, a4, a5] (.int x :: st) σ Q = if x ≠ 0 then Ev sh 109 34 [a0, a1, a2, a3, a4, a5] st σ Q else Ev sh 109 27 [a0, a1, a2, a3, a4, a5] st σ Q := Ev_if rfl
theorem s_X_corrects_27 : Ev sh 109 27 [some (.ref i), a1, a2, a3, a4, a5] st σ Q = Ev sh 109 28 [some (.ref i), a1, a2, a3, a4, a5] (.ref i :: st) σ Q := Ev_step rfl
theorem s_X_corrects_28 : Ev sh 109 28 [a0, a1, a2, a3, a4, a5] st σ Q = Ev sh 109 30 [a0, a1, a2, a3, a4, a5] (.int (-2) :: st) σ Q := Ev_step rfl
theorem s_X_corrects_30 (h : sh i0 = 8) : Ev sh 109 30 [a0, a1, a2, a3, a4, a5] [.int x1, .ref i0] σ Q = Ev sh 145 0 [some (.ref i0), some (.int x1), none] [] σ (fun r s => Ev sh 109 33 [a0, a1, a2, a3, a4, a5] (zpush r []) s Q) := Ev_callh (zrecv_of (by decide) h) rfl
theorem s_X_corrects_33 : Ev sh 109 33 [a0, a1, a2, a3, a4, a5] [.int x] σ Q = Q (some (.int x)) σ := Ev_ret rfl
theorem s_X_corrects_34 : Ev sh 109 34 [a0, a1, a2, some (.int x), a4, a5] st σ Q = Ev sh 109 35 [a0, a1, a2, some (.int x), a4, a5] (.int x :: st) σ Q := Ev_step rfl
theorem s_X_corrects_35 : Ev sh 109 35 [a0, a1, a2, a3, a4, a5] st σ Q = Ev sh 109 36 [a0, a1, a2, a3, a4, a5] (.int 0 :: st) σ Q := Ev_step rfl
theorem s_X_corrects_36 : Ev sh 109 36 [a0, a1, a2, a3, a4, a5] st σ Q = Ev sh 109 38 [a0, a1, a2, a3, a4, a5] (.int 9 :: st) σ Q := Ev_step rfl
theorem s_X_corrects_38 : Ev sh 109 38 [a0, a1, a2, a3, a4, a5] [.int x2, .int x1, .int x0] σ Q = Ev sh 149 0 [some (.int x0), some (.int x1), some (.int x2)] [] σ (fun r s => Ev sh 109 41 [a0, a1, a2, a3, a4, a5] (zpush r []) s Q) := Ev_call rfl
theorem s_X_corrects_41 : Ev sh 109 41 [a0, a1, a2, a3, a4, a5] (.int x :: st) σ Q = Ev sh 109 43 [a0, a1, a2, zdrop2 a3, some (.int x), a5] st σ Q := Ev_step rfl
theorem s_X_corrects_43 : Ev sh 109 43 [a0, a1, a2, a3, some (.int x), a5] st σ Q = Ev sh 109 45 [a0, a1, a2, a3, some (.int x), a5] (.int x :: st) σ Q := Ev_step rfl
theorem s_X_corrects_45 : Ev sh 109 45 [a0, a1, a2, a3, a4, a5] (.int x :: st) σ Q = if x = 0 then Ev sh 109 55 [a0, a1, a2, a3, a4, a5] st σ Q else Ev sh 109 48 [a0, a1, a2, a3, a4, a5] st σ Q := Ev_if rfl
theorem s_X_corrects_48 : Ev sh 109 48 [some (.ref i), a1, a2, a3, a4, a5] st σ Q = Ev sh 109 49 [some (.ref i), a1, a2, a3, a4, a5] (.ref i :: st) σ Q := Ev_step rfl
theorem s_X_corrects_49 : Ev sh 109 49 [a0, a1, a2, a3, some (.int x), a5] st σ Q = Ev sh 109 51 [a0, a1, a2, a3, some (.int x), a5] (.int x :: st) σ Q := Ev_step rfl
theorem s_X_corrects_51 (h : sh i0 = 8) : Ev sh 109 51 [a0, a1, a2, a3, a4, a5] [.int x1, .ref i0] σ Q = Ev sh 145 0 [some (.ref i0), some (.int x1), none] [] σ (fun r s => Ev sh 109 54 [a0, a1, a2, a3, a4, a5] (zpush r []) s Q) := Ev_callh (zrecv_of (by decide) h) rfl
theorem s_X_corrects_54 : Ev sh 109 54 [a0, a1, a2, a3, a4, a5] [.int x] σ Q = Q (some (.int x)) σ := Ev_ret rfl
theorem s_X_corrects_55 : Ev sh 109 55 [a0, a1, a2, a3, a4, a5] st σ Q = Ev sh 109 57 [a0, a1, a2, a3, a4, a5] (.int 10 :: st) σ Q := Ev_step rfl
theorem s_X_corrects_57 : Ev sh 109 57 [some (.ref i), a1, a2, a3, a4, a5] st σ Q = Ev sh 109 58 [some (.ref i), a1, a2, a3, a4, a5] (.ref i :: st) σ Q := Ev_step rfl
theorem s_X_corrects_58 (h : sh i = 8) : Ev sh 109 58 [a0, a1, a2, a3, a4, a5] (.ref i :: st) σ Q = Ev sh 109 61 [a0, a1, a2, a3, a4, a5] (.ref 1 :: st) σ Q := Ev_h h rfl
theorem s_X_corrects_61 (h : sh i = 0) : Ev sh 109 61 [a0, a1, a2, a3, a4, a5] (.ref i :: st) σ Q = Ev sh 109 64 [a0, a1, a2, a3, a4, a5] (.ref (i + 1) :: st) σ Q := Ev_h h rfl
theorem s_X_corrects_64 : Ev sh 109 64 [a0, some (.int x), a2, a3, a4, a5] st σ Q = Ev sh 109 65 [a0, some (.int x), a2, a3, a4, a5] (.int x :: st) σ Q := Ev_step rfl
theorem s_X_corrects_65 (h : sh i1 = 7) : Ev sh 109 65 [a0, a1, a2, a3, a4, a5] [.int x2, .ref i1, .int x0] σ Q = Ev sh 73 0 [some (.ref i1), some (.int x2)] [] σ (fun r s => Ev sh 109 68 [a0, a1, a2, a3, a4, a5] (zpush r [.int x0]) s Q) := Ev_callh (zrecv_of (by decide) h) rfl
theorem s_X_corrects_68 : Ev sh 109 68 [a0, a1, a2, a3, a4, a5] (.int y :: .int x :: st) σ Q = Ev sh 109 69 [a0, a1, a2, a3, a4, a5] (.int (x * y) :: st) σ Q := Ev_step rfl
theorem s_X_corrects_69 : Ev sh 109 69 [some (.ref i), a1, a2, a3, a4, a5] st σ Q = Ev sh 109 70 [some (.ref i), a1, a2, a3, a4, a5] (.ref i :: st) σ Q := Ev_step rfl
theorem s_X_corrects_70 (h : sh i = 8) : Ev sh 109 70 [a0, a1, a2, a3, a4, a5] (.ref i :: st) σ Q = Ev sh 109 73 [a0, a1, a2, a3, a4, a5] (.ref 1 :: st) σ Q := Ev_h h rfl
theorem s_X_corrects_73 (h : sh i = 0) : Ev sh 109 73 [a0, a1, a2, a3, a4, a5] (.ref i :: st) σ Q = Ev sh 109 76 [a0, a1, a2, a3, a4, a5] (.ref (i + 1) :: st) σ Q := Ev_h h rfl
theorem s_X_corrects_76 : Ev sh 109 76 [a0, some (.int x), a2, a3, a4, a5] st σ Q = Ev sh 109 77 [a0, some (.int x), a2, a3, a4, a5] (.int x :: st) σ Q := Ev_step rfl
theorem s_X_corrects_77 (h : sh i1 = 7) : Ev sh 109 77 [a0, a1, a2, a3, a4, a5] [.int x2, .ref i1, .int x0] σ Q = Ev sh 74 0 [some (.ref i1), some (.int x2)] [] σ (fun r s => Ev sh 109 80 [a0, a1, a2, a3, a4, a5] (zpush r [.int x0]) s Q) := Ev_callh (zrecv_of (by decide) h) rfl
theorem s_X_corrects_80 : Ev sh 109 80 [a0, a1, a2, a3, a4, a5] (.int y :: .int x :: st) σ Q = Ev sh 109 81 [a0, a1, a2, a3, a4, a5] (.int (x + y) :: st) σ Q := Ev_step rfl
theorem s_X_corrects_81 : Ev sh 109 81 [a0, a1, a2, a3, a4, a5] (.int x :: st) σ Q = Ev sh 109 83 [a0, a1, a2, a3, zdrop2 a4, some (.int x)] st σ Q := Ev_step rfl
theorem s_X_corrects_83 : Ev sh 109 83 [some (.ref i), a1, a2, a3, a4, a5] st σ Q = Ev sh 109 84 [some (.ref i), a1, a2, a3, a4, a5] (.ref i :: st) σ Q := Ev_step rfl
theorem s_X_corrects_84 (h : sh i = 8) : Ev sh 109 84 [a0, a1, a2, a3, a4, a5] (.ref i :: st) σ Q = Ev sh 109 87 [a0, a1, a2, a3, a4, a5] (.ref 1 :: st) σ Q := Ev_h h rfl
theorem s_X_corrects_87 (h : sh i = 0) : Ev sh 109 87 [a0, a1, a2, a3, a4, a5] (.ref i :: st) σ Q = Ev sh 109 90 [a0, a1, a2, a3, a4, a5] (.ref (i + 1) :: st) σ Q := Ev_h h rfl
theorem s_X_corrects_90 : Ev sh 109 90 [a0, some (.int x), a2, a3, a4, a5] st σ Q = Ev sh 109 91 [a0, some (.int x), a2, a3, a4, a5] (.int x :: st) σ Q := Ev_step rfl
theorem s_X_corrects_91 : Ev sh 109 91 [a0, a1, some (.int x), a3, a4, a5] st σ Q = Ev sh 109 92 [a0, a1, some (.int x), a3, a4, a5] (.int x :: st) σ Q := Ev_step rfl
theorem s_X_corrects_92 : Ev sh 109 92 [a0, a1, a2, some (.int x), a4, a5] st σ Q = Ev sh 109 93 [a0, a1, a2, some (.int x), a4, a5] (.int x :: st) σ Q := Ev_step rfl
theorem s_X_corrects_93 (h : sh i0 = 7) : Ev sh 109 93 [a0, a1, a2, a3, a4, a5] [.int x3, .int x2, .int x1, .ref i0] σ Q = Ev sh 65 0 [some (.ref i0), some (.int x1), some (.int x2), some (.int x3)] [] σ (fun r s => Ev sh 109 96 [a0, a1, a2, a3, a4, a5] (zpush r []) s Q) := Ev_callh (zrecv_of (by decide) h) rfl
theorem s_X_corrects_96 : Ev sh 109 96 [a0, a1, a2, a3, a4, some (.int x)] st σ Q = Ev sh 109 98 [a0, a1, a2, a3, a4, some (.int x)] (.int x :: st) σ Q := Ev_step rfl
theorem s_X_corrects_98 : Ev sh 109 98 [a0, a1, a2, a3, a4, a5] [.int x] σ Q = Q (some (.int x)) σ := Ev_ret rfl
theorem s_X_takes_0 : Ev sh 110 0 [a0, some (.int x), a2] st σ Q = Ev sh 110 1 [a0, some (.int x), a2] (.int x :: st) σ Q := Ev_step rfl
theorem s_X_takes_1 : Ev sh 110 1 [a0, a1, a2] st σ Q = Ev sh 110 2 [a0, a1, a2] (.int 1 :: st) σ Q := Ev_step rfl
theorem s_X_takes_2 : Ev sh 110 2 [some (.ref i), a1, a2] st σ Q = Ev sh 110 3 [some (.ref i), a1, a2] (.ref i :: st) σ Q := Ev_step rfl
theorem s_X_takes_3 (h : sh i = 8) : Ev sh 110 3 [a0, a1, a2] (.ref i :: st) σ Q = Ev sh 110 6 [a0, a1, a2] (.ref 1 :: st) σ Q := Ev_h h rfl
theorem s_X_takes_6 (h : sh i = 0) : Ev sh 110 6 [a0, a1, a2] (.ref i :: st) σ Q = Ev sh 110 9 [a0, a1, a2] (.ref (i + 1) :: st) σ Q := Ev_h h rfl
theorem s_X_takes_9 (h : sh i2 = 7) : Ev sh 110 9 [a0, a1, a2] [.ref i2, .int x1, .int x0] σ Q = Ev sh 70 0 [some (.ref i2)] [] σ (fun r s => Ev sh 110 12 [a0, a1, a2] (zpush r [.int x1, .int x0]) s Q) := Ev_callh (zrecv_of (by decide) h) rfl
theorem s_X_takes_12 : Ev sh 110 12 [a0, a1, a2] [.int x2, .int x1, .int x0] σ Q = Ev sh 149 0 [some (.int x0), some (.int x1), some (.int x2)] [] σ (fun r s => Ev sh 110 15 [a0, a1, a2] (zpush r []) s Q) := Ev_call rfl
theorem s_X_takes_15 : Ev sh 110 15 [a0, a1, a2] (.int x :: st) σ Q = Ev sh 110 16 [a0, zdrop2 a1, some (.int x)] st σ Q := Ev_step rfl
theorem s_X_takes_16 : Ev sh 110 16 [a0, a1, some (.int x)] st σ Q = Ev sh 110 17 [a0, a1, some (.int x)] (.int x :: st) σ Q := Ev_step rfl
theorem s_X_takes_17 : Ev sh 110 17 [a0, a1, a2] (.int x :: st) σ Q = if x = 0 then Ev sh 110 26 [a0, a1, a2] st σ Q else Ev sh 110 20 [a0, a1, a2] st σ Q := Ev_if rfl
theorem s_X_takes_20 : Ev sh 110 20 [some (.ref i), a1, a2] st σ Q = Ev sh 110 21 [some (.ref i), a1, a2] (.ref i :: st) σ Q := Ev_step rfl
theorem s_X_takes_21 : Ev sh 110 21 [a0, a1, some (.int x)] st σ Q = Ev sh 110 22 [a0, a1, some (.int x)] (.int x :: st) σ Q := Ev_step rfl
theorem s_X_takes_22 (h : sh i0 = 8) : Ev sh 110 22 [a0, a1, a2] [.int x1, .ref i0] σ Q = Ev sh 145 0 [some (.ref i0), some (.int x1), none] [] σ (fun r s => Ev sh 110 25 [a0, a1, a2] (zpush r []) s Q) := Ev_callh (zrecv_of (by decide) h) rfl
theorem s_X_takes_25 : Ev sh 110 25 [a0, a1, a2] [.int x] σ Q = Q (some (.int x)) σ := Ev_ret rfl
theorem s_X_takes_26 : Ev sh 110 26 [some (.ref i), a1, a2] st σ Q = Ev sh 110 27 [some (.ref i), a1, a2] (.ref i :: st) σ Q := Ev_step rfl
theorem s_X_takes_27 (h : sh i = 8) : Ev sh 110 27 [a0, a1, a2] (.ref i :: st) σ Q = Ev sh 110 30 [a0, a1, a2] (.ref 1 :: st) σ Q := Ev_h h rfl
theorem s_X_takes_30 (h : sh i = 0) : Ev sh 110 30 [a0, a1, a2] (.ref i :: st) σ Q = Ev sh 110 33 [a0, a1, a2] (.ref (i + 1) :: st) σ Q := Ev_h h rfl
theorem s_X_takes_33 : Ev sh 110 33 [a0, some (.int x), a2] st σ Q = Ev sh 110 34 [a0, some (.int x), a2] (.int x :: st) σ Q := Ev_step rfl
theorem s_X_takes_34 (h : sh i0 = 7) : Ev sh 110 34 [a0, a1, a2] [.int x1, .ref i0] σ Q = Ev sh 67 0 [some (.ref i0), some (.int x1)] [] σ (fun r s => Ev sh 110 37 [a0, a1, a2] (zpush r []) s Q) := Ev_callh (zrecv_of (by decide) h) rfl
theorem s_X_takes_37 : Ev sh 110 37 [some (.ref i), a1, a2] st σ Q = Ev sh 110 38 [some (.ref i), a1, a2] (.ref i :: st) σ Q := Ev_step rfl
theorem s_X_takes_38 (h : sh i = 8) : Ev sh 110 38 [a0, a1, a2] (.ref i :: st) σ Q = Ev sh 110 41 [a0, a1, a2] (.ref 1 :: st) σ Q := Ev_h h rfl
theorem s_X_takes_41 (h : sh i = 0) : Ev sh 110 41 [a0, a1, a2] (.ref i :: st) σ Q = Ev sh 110 44 [a0, a1, a2] (.ref (i + 1) :: st) σ Q := Ev_h h rfl
theorem s_X_takes_44 (h : sh i0 = 7) : Ev sh 110 44 [a0, a1, a2] [.ref i0] σ Q = Ev sh 70 0 [some (.ref i0)] [] σ (fun r s => Ev sh 110 47 [a0, a1, a2] (zpush r []) s Q) := Ev_callh (zrecv_of (by decide) h) rfl
theorem s_X_takes_47 : Ev sh 110 47 [a0, a1, a2] [.int x] σ Q = Q (some (.int x)) σ := Ev_ret rfl
theorem s_X_styles_0 : Ev sh 111 0 [a0, some (.int x), a2, a3] st σ Q = Ev sh 111 1 [a0, some (.int x), a2, a3] (.int x :: st) σ Q := Ev_step rfl
theorem s_X_styles_1 : Ev sh 111 1 [a0, a1, a2, a3] [.int x0] σ Q = Ev sh 151 0 [some (.int x0)] [] σ (fun r s => Ev sh 111 4 [a0, a1, a2, a3] (zpush r []) s Q) := Ev_call rfl
theorem s_X_styles_4 : Ev sh 111 4 [a0, a1, a2, a3] (.int x :: st) σ Q = if x ≠ 0 then Ev sh 111 13 [a0, a1, a2, a3] st σ Q else Ev sh 111 7 [a0, a1, a2, a3] st σ Q := Ev_if rfl
theorem s_X_styles_7 : Ev sh 111 7 [some (.ref i), a1, a2, a3] st σ Q = Ev sh 111 8 [some (.ref i), a1, a2, a3] (.ref i :: st) σ Q := Ev_step rfl
theorem s_X_styles_8 : Ev sh 111 8 [a0, a1, a2, a3] st σ Q = Ev sh 111 9 [a0, a1, a2, a3] (.int (-1) :: st) σ Q := Ev_step rfl
theorem s_X_styles_9 (h : sh i0 = 8) : Ev sh 111 9 [a0, a1, a2, a3] [.int x1, .ref i0] σ Q = Ev sh 145 0 [some (.ref i0), some (.int x1), none] [] σ (fun r s => Ev sh 111 12 [a0, a1, a2, a3] (zpush r []) s Q) := Ev_callh (zrecv_of (by decide) h) rfl
theorem s_X_styles_12 : Ev sh 111 12 [a0, a1, a2, a3] [.int x] σ Q = Q (some (.int x)) σ := Ev_ret rfl
theorem s_X_styles_13 : Ev sh 111 13 [a0, a1, some (.int x), a3] st σ Q = Ev sh 111 14 [a0, a1, some (.int x), a3] (.int x :: st) σ Q := Ev_step rfl
theorem s_X_styles_14 : Ev sh 111 14 [a0, a1, a2, a3] [.int x0] σ Q = Ev sh 152 0 [some (.int x0)] [] σ (fun r s => Ev sh 111 17 [a0, a1, a2, a3] (zpush r []) s Q) := Ev_call rfl
theorem s_X_styles_17 : Ev sh 111 17 [a0, a1, a2, a3] (.int x :: st) σ Q = if x ≠ 0 then Ev sh 111 27 [a0, a1, a2, a3] st σ Q else Ev sh 111 20 [a0, a1, a2, a3] st σ Q := Ev_if rfl
theorem s_X_styles_20 : Ev sh 111 20 [some (.ref i), a1, a2, a3] st σ Q = Ev sh 111 21 [some (.ref i), a1, a2, a3] (.ref i :: st) σ Q := Ev_step rfl
theorem s_X_styles_21 : Ev sh 111 21 [a0, a1, a2, a3] st σ Q = Ev sh 111 23 [a0, a1, a2, a3] (.int (-2) :: st) σ Q := Ev_step rfl
theorem s_X_styles_23 (h : sh i0 = 8) : Ev sh 111 23 [a0, a1, a2, a3] [.int x1, .ref i0] σ Q = Ev sh 145 0 [some (.ref i0), some (.int x1), none] [] σ (fun r s => Ev sh 111 26 [a0, a1, a2, a3] (zpush r []) s Q) := Ev_callh (zrecv_of (by decide) h) rfl
theorem s_X_styles_26 : Ev sh 111 26 [a0, a1, a2, a3] [.int x] σ Q = Q (some (.int x)) σ := Ev_ret rfl
theorem s_X_styles_27 : Ev sh 111 27 [some (.ref i), a1, a2, a3] st σ Q = Ev sh 111 28 [some (.ref i), a1, a2, a3] (.ref i :: st) σ Q := Ev_step rfl
theorem s_X_styles_28 (h : sh i = 8) : Ev sh 111 28 [a0, a1, a2, a3] (.ref i :: st) σ Q = Ev sh 111 31 [a0, a1, a2, a3] (.ref 1 :: st) σ Q := Ev_h h rfl
theorem s_X_styles_31 : Ev sh 111 31 [a0, some (.int x), a2, a3] st σ Q = Ev sh 111 32 [a0, some (.int x), a2, a3] (.int x :: st) σ Q := Ev_step rfl
theorem s_X_styles_32 (h : sh i0 = 0) : Ev sh 111 32 [a0, a1, a2, a3] [.int x1, .ref i0] σ Q = Ev sh 1 0 [some (.ref i0), some (.int x1)] [] σ (fun r s => Ev sh 111 35 [a0, a1, a2, a3] (zpush r []) s Q) := Ev_callh (zrecv_of (by decide) h) rfl
theorem s_X_styles_35 (h : sh i = 4) : Ev sh 111 35 [a0, a1, a2, a3] (.ref i :: st) σ Q = Ev sh 111 38 [a0, a1, a2, a3] (.int (σ i 0) :: st) σ Q := Ev_h h rfl
theorem s_X_styles_38 : Ev sh 111 38 [a0, a1, a2, a3] (.int x :: st) σ Q = Ev sh 111 39 [a0, a1, zdrop2 a2, some (.int x)] st σ Q := Ev_step rfl
theorem s_X_styles_39 : Ev sh 111 39 [some (.ref i), a1, a2, a3] st σ Q = Ev sh 111 40 [some (.ref i), a1, a2, a3] (.ref i :: st) σ Q := Ev_step rfl
theorem s_X_styles_40 (h : sh i = 8) : Ev sh 111 40 [a0, a1, a2, a3] (.ref i :: st) σ Q = Ev sh 111 43 [a0, a1, a2, a3] (.ref 1 :: st) σ Q := Ev_h h rfl
theorem s_X_styles_43 : Ev sh 111 43 [a0, some (.int x), a2, a3] st σ Q = Ev sh 111 44 [a0, some (.int x), a2, a3] (.int x :: st) σ Q := Ev_step rfl
theorem s_X_styles_44 (h : sh i0 = 0) : Ev sh 111 44 [a0, a1, a2, a3] [.int x1, .ref i0] σ Q = Ev sh 1 0 [some (.ref i0), some (.int x1)] [] σ (fun r s => Ev sh 111 47 [a0, a1, a2, a3] (zpush r []) s Q) := Ev_callh (zrecv_of (by decide) h) rfl
theorem s_X_styles_47 : Ev sh 111 47 [a0, a1, some (.int x), a3] st σ Q = Ev sh 111 48 [a0, a1, some (.int x), a3] (.int x :: st) σ Q := Ev_step rfl
theorem s_X_styles_48 (h : sh i = 4) : Ev sh 111 48 [a0, a1, a2, a3] (.int x :: .ref i :: st) σ Q = Ev sh 111 51 [a0, a1, a2, a3] st (zup σ i 0 x) Q := Ev_h h rfl
theorem s_X_styles_51 : Ev sh 111 51 [a0, a1, a2, some (.int x)] st σ Q = Ev sh 111 52 [a0, a1, a2, some (.int x)] (.int x :: st) σ Q := Ev_step rfl
theorem s_X_styles_52 : Ev sh 111 52 [a0, a1, a2, a3] [.int x] σ Q = Q (some (.int x)) σ := Ev_ret rfl
theorem s_X_hands_0 : Ev sh 112 0 [a0, some (.int x), a2, a3, a4] st σ Q = Ev sh 112 1 [a0, some (.int x), a2, a3, a4] (.int x :: st) σ Q := Ev_step rfl
theorem s_X_hands_1 : Ev sh 112 1 [a0, a1, some (.int x), a3, a4] st σ Q = Ev sh 112 2 [a0, a1, some (.int x), a3, a4] (.int x :: st) σ Q := Ev_step rfl
theorem s_X_hands_2 : Ev sh 112 2 [a0, a1, a2, a3, a4] [.int x1, .int x0] σ Q = Ev sh 148 0 [some (.int x0), some (.int x1)] [] σ (fun r s => Ev sh 112 5 [a0, a1, a2, a3, a4] (zpush r []) s Q) := Ev_call rfl
theorem s_X_hands_5 : Ev sh 112 5 [a0, a1, a2, a3, a4] (.int x :: st) σ Q = Ev sh 112 6 [a0, a1, zdrop2 a2, some (.int x), a4] st σ Q := Ev_step rfl
theorem s_X_hands_6 : Ev sh 112 6 [a0, a1, a2, some (.int x), a4] st σ Q = Ev sh 112 7 [a0, a1, a2, some (.int x), a4] (.int x :: st) σ Q := Ev_step rfl
theorem s_X_hands_7 : Ev sh 112 7 [a0, a1, a2, a3, a4] (.int x :: st) σ Q = if x = 0 then Ev sh 112 16 [a0, a1, a2, a3, a4] st σ Q else Ev sh 112 10 [a0, a1, a2, a3, a4] st σ Q := Ev_if rfl
theorem s_X_hands_10 : Ev sh 112 10 [some (.ref i), a1, a2, a3, a4] st σ Q = Ev sh 112 11 [some (.ref i), a1, a2, a3, a4] (.ref i :: st) σ Q := Ev_step rfl
theorem s_X_hands_11 : Ev sh 112 11 [a0, a1, a2, some (.int x), a4] st σ Q = Ev sh 112 12 [a0, a1, a2, some (.int x), a4] (.int x :: st) σ Q := Ev_step rfl
theorem s_X_hands_12 (h : sh i0 = 8) : Ev sh 112 12 [a0, a1, a2, a3, a4] [.int x1, .ref i0] σ Q = Ev sh 145 0 [some (.ref i0), some (.int x1), none] [] σ (fun r s => Ev sh 112 15 [a0, a1, a2, a3, a4] (zpush r []) s Q) := Ev_callh (zrecv_of (by decide) h) rfl
theorem s_X_hands_15 : Ev sh 112 15 [a0, a1, a2, a3, a4] [.int x] σ Q = Q (some (.int x)) σ := Ev_ret rfl
theorem s_X_hands_16 : Ev sh 112 16 [some (.ref i), a1, a2, a3, a4] st σ Q = Ev sh 112 17 [some (.ref i), a1, a2, a3, a4] (.ref i :: st) σ Q := Ev_step rfl
theorem s_X_hands_17 (h : sh i = 8) : Ev sh 112 17 [a0, a1, a2, a3, a4] (.ref i :: st) σ Q = Ev sh 112 20 [a0, a1, a2, a3, a4] (.ref 1 :: st) σ Q := Ev_h h rfl
theorem s_X_hands_20 : Ev sh 112 20 [a0, some (.int x), a2, a3, a4] st σ Q = Ev sh 112 21 [a0, some (.int x), a2, a3, a4] (.int x :: st) σ Q := Ev_step rfl
theorem s_X_hands_21 (h : sh i0 = 0) : Ev sh 112 21 [a0, a1, a2, a3, a4] [.int x1, .ref i0] σ Q = Ev sh 1 0 [some (.ref i0), some (.int x1)] [] σ (fun r s => Ev sh 112 24 [a0, a1, a2, a3, a4] (zpush r []) s Q) := Ev_callh (zrecv_of (by decide) h) rfl
theorem s_X_hands_24 (h : sh i = 4) : Ev sh 112 24 [a0, a1, a2, a3, a4] (.ref i :: st) σ Q = Ev sh 112 27 [a0, a1, a2, a3, a4] (.int (σ i 1) :: st) σ Q := Ev_h h rfl
theorem s_X_hands_27 : Ev sh 112 27 [a0, a1, a2, a3, a4] (.int x :: st) σ Q = Ev sh 112 29 [a0, a1, a2, zdrop2 a3, some (.int x)] st σ Q := Ev_step rfl
theorem s_X_hands_29 : Ev sh 112 29 [some (.ref i), a1, a2, a3, a4] st σ Q = Ev sh 112 30 [some (.ref i), a1, a2, a3, a4] (.ref i :: st) σ Q := Ev_step rfl
theorem s_X_hands_30 (h : sh i = 8) : Ev sh 112 30 [a0, a1, a2, a3, a4] (.ref i :: st) σ Q = Ev sh 112 33 [a0, a1, a2, a3, a4] (.ref 1 :: st) σ Q := Ev_h h rfl
theorem s_X_hands_33 : Ev sh 112 33 [a0, some (.int x), a2, a3, a4] st σ Q = Ev sh 112 34 [a0, some (.int x), a2, a3, a4] (.int x :: st) σ Q := Ev_step rfl
theorem s_X_hands_34 (h : sh i0 = 0) : Ev sh 112 34 [a0, a1, a2, a3, a4] [.int x1, .ref i0] σ Q = Ev sh 1 0 [some (.ref i0), some (.int x1)] [] σ (fun r s => Ev sh 112 37 [a0, a1, a2, a3, a4] (zpush r []) s Q) := Ev_callh (zrecv_of (by decide) h) rfl
theorem s_X_hands_37 : Ev sh 112 37 [a0, a1, some (.int x), a3, a4] st σ Q = Ev sh 112 38 [a0, a1, some (.int x), a3, a4] (.int x :: st) σ Q := Ev_step rfl
theorem s_X_hands_38 (h : sh i = 4) : Ev sh 112 38 [a0, a1, a2, a3, a4] (.int x :: .ref i :: st) σ Q = Ev sh 112 41 [a0, a1, a2, a3, a4] st (zup σ i 1 x) Q := Ev_h h rfl
theorem s_X_hands_41 : Ev sh 112 41 [a0, a1, a2, a3, some (.int x)] st σ Q = Ev sh 112 43 [a0, a1, a2, a3, some (.int x)] (.int x :: st) σ Q := Ev_step rfl
theorem s_X_hands_43 : Ev sh 112 43 [a0, a1, a2, a3, a4] [.int x] σ Q = Q (some (.int x)) σ := Ev_ret rfl
theorem s_X_spites_0 : Ev sh 113 0 [a0, some (.int x), a2, a3, a4] st σ Q = Ev sh 113 1 [a0, some (.int x), a2, a3, a4] (.int x :: st) σ Q := Ev_step rfl
theorem s_X_spites_1 : Ev sh 113 1 [a0, a1, some (.int x), a3, a4] st σ Q = Ev sh 113 2 [a0, a1, some (.int x), a3, a4] (.int x :: st) σ Q := Ev_step rfl
theorem s_X_spites_2 : Ev sh 113 2 [a0, a1, a2, a3, a4] [.int x1, .int x0] σ Q = Ev sh 148 0 [some (.int x0), some (.int x1)] [] σ (fun r s => Ev sh 113 5 [a0, a1, a2, a3, a4] (zpush r []) s Q) := Ev_call rfl
theorem s_X_spites_5 : Ev sh 113 5 [a0, a1, a2, a3, a4] (.int x :: st) σ Q = Ev sh 113 6 [a0, a1, zdrop2 a2, some (.int x), a4] st σ Q := Ev_step rfl
theorem s_X_spites_6 : Ev sh 113 6 [a0, a1, a2, some (.int x), a4] st σ Q = Ev sh 113 7 [a0, a1, a2, some (.int x), a4] (.int x :: st) σ Q := Ev_step rfl
theorem s_X_spites_7 : Ev sh 113 7 [a0, a1, a2, a3, a4] (.int x :: st) σ Q = if x = 0 then Ev sh 113 16 [a0, a1, a2, a3, a4] st σ Q else Ev sh 113 10 [a0, a1, a2, a3, a4] st σ Q := Ev_if rfl
theorem s_X_spites_10 : Ev sh 113 10 [some (.ref i), a1, a2, a3, a4] st σ Q = Ev sh 113 11 [some (.ref i), a1, a2, a3, a4] (.ref i :: st) σ Q := Ev_step rfl
theorem s_X_spites_11 : Ev sh 113 11 [a0, a1, a2, some (.int x), a4] st σ Q = Ev sh 113 12 [a0, a1, a2, some (.int x), a4] (.int x :: st) σ Q := Ev_step rfl
theorem s_X_spites_12 (h : sh i0 = 8) : Ev sh 113 12 [a0, a1, a2, a3, a4] [.int x1, .ref i0] σ Q = Ev sh 145 0 [some (.ref i0), some (.int x1), none] [] σ (fun r s => Ev sh 113 15 [a0, a1, a2, a3, a4] (zpush r []) s Q) := Ev_callh (zrecv_of (by decide) h) rfl
theorem s_X_spites_15 : Ev sh 113 15 [a0, a1, a2, a3, a4] [.int x] σ Q = Q (some (.int x)) σ := Ev_ret rfl
theorem s_X_spites_16 : Ev sh 113 16 [some (.ref i), a1, a2, a3, a4] st σ Q = Ev sh 113 17 [some (.ref i), a1, a2, a3, a4] (.ref i :: st) σ Q := Ev_step rfl
theorem s_X_spites_17 (h : sh i = 8) : Ev sh 113 17 [a0, a1, a2, a3, a4] (.ref i :: st) σ Q = Ev sh 113 20 [a0, a1, a2, a3, a4] (.ref 1 :: st) σ Q := Ev_h h rfl
theorem s_X_spites_20 : Ev sh 113 20 [a0, some (.int x), a2, a3, a4] st σ Q = Ev sh 113 21 [a0, some (.int x), a2, a3, a4] (.int x :: st) σ Q := Ev_step rfl
theorem s_X_spites_21 (h : sh i0 = 0) : Ev sh 113 21 [a0, a1, a2, a3, a4] [.int x1, .ref i0] σ Q = Ev sh 1 0 [some (.ref i0), some (.int x1)] [] σ (fun r s => Ev sh 113 24 [a0, a1, a2, a3, a4] (zpush r []) s Q) := Ev_callh (zrecv_of (by decide) h) rfl
theorem s_X_spites_24 (h : sh i = 4) : Ev sh 113 24 [a0, a1, a2, a3, a4] (.ref i :: st) σ Q = Ev sh 113 27 [a0, a1, a2, a3, a4] (.int (σ i 2) :: st) σ Q := Ev_h h rfl
theorem s_X_spites_27 : Ev sh 113 27 [a0, a1, a2, a3, a4] (.int x :: st) σ Q = Ev sh 113 29 [a0, a1, a2, zdrop2 a3, some (.int x)] st σ Q := Ev_step rfl
theorem s_X_spites_29 : Ev sh 113 29 [some (.ref i), a1, a2, a3, a4] st σ Q = Ev sh 113 30 [some (.ref i), a1, a2, a3, a4] (.ref i :: st) σ Q := Ev_step rfl
theorem s_X_spites_30 (h : sh i = 8) : Ev sh 113 30 [a0, a1, a2, a3, a4] (.ref i :: st) σ Q = Ev sh 113 33 [a0, a1, a2, a3, a4] (.ref 1 :: st) σ Q := Ev_h h rfl
theorem s_X_spites_33 : Ev sh 113 33 [a0, some (.int x), a2, a3, a4] st σ Q = Ev sh 113 34 [a0, some (.int x), a2, a3, a4] (.int x :: st) σ Q := Ev_step rfl
theorem s_X_spites_34 (h : sh i0 = 0) : Ev sh 113 34 [a0, a1, a2, a3, a4] [.int x1, .ref i0] σ Q = Ev sh 1 0 [some (.ref i0), some (.int x1)] [] σ (fun r s => Ev sh 113 37 [a0, a1, a2, a3, a4] (zpush r []) s Q) := Ev_callh (zrecv_of (by decide) h) rfl
theorem s_X_spites_37 : Ev sh 113 37 [a0, a1, some (.int x), a3, a4] st σ Q = Ev sh 113 38 [a0, a1, some (.int x), a3, a4] (.int x :: st) σ Q := Ev_step rfl
theorem s_X_spites_38 (h : sh i = 4) : Ev sh 113 38 [a0, a1, a2, a3, a4] (.int x :: .ref i :: st) σ Q = Ev sh 113 41 [a0, a1, a2, a3, a4] st (zup σ i 2 x) Q := Ev_h h rfl
theorem s_X_spites_41 : Ev sh 113 41 [a0, a1, a2, a3, some (.int x)] st σ Q = Ev sh 113 43 [a0, a1, a2, a3, some (.int x)] (.int x :: st) σ Q := Ev_step rfl
theorem s_X_spites_43 : Ev sh 113 43 [a0, a1, a2, a3, a4] [.int x] σ Q = Q (some (.int x)) σ := Ev_ret rfl
theorem s_X_days_0 : Ev sh 114 0 [a0, some (.int x), a2] st σ Q = Ev sh 114 1 [a0, some (.int x), a2] (.int x :: st) σ Q := Ev_step rfl
theorem s_X_days_1 : Ev sh 114 1 [a0, a1, a2] st σ Q = Ev sh 114 2 [a0, a1, a2] (.int 1 :: st) σ Q := Ev_step rfl
theorem s_X_days_2 : Ev sh 114 2 [a0, a1, a2] st σ Q = Ev sh 114 4 [a0, a1, a2] (.int 60 :: st) σ Q := Ev_step rfl
theorem s_X_days_4 : Ev sh 114 4 [a0, a1, a2] [.int x2, .int x1, .int x0] σ Q = Ev sh 149 0 [some (.int x0), some (.int x1), some (.int x2)] [] σ (fun r s => Ev sh 114 7 [a0, a1, a2] (zpush r []) s Q) := Ev_call rfl
theorem s_X_days_7 : Ev sh 114 7 [a0, a1, a2] (.int x :: st) σ Q = Ev sh 114 8 [a0, zdrop2 a1, some (.int x)] st σ Q := Ev_step rfl
theorem s_X_days_8 : Ev sh 114 8 [a0, a1, some (.int x)] st σ Q = Ev sh 114 9 [a0, a1, some (.int x)] (.int x :: st) σ Q := Ev_step rfl
theorem s_X_days_9 : Ev sh 114 9 [a0, a1, a2] (.int x :: st) σ Q = if x = 0 then Ev sh 114 18 [a0, a1, a2] st σ Q else Ev sh 114 12 [a0, a1, a2] st σ Q := Ev_if rfl
theorem s_X_days_12 : Ev sh 114 12 [some (.ref i), a1, a2] st σ Q = Ev sh 114 13 [some (.ref i), a1, a2] (.ref i :: st) σ Q := Ev_step rfl
theorem s_X_days_13 : Ev sh 114 13 [a0, a1, some (.int x)] st σ Q = Ev sh 114 14 [a0, a1, some (.int x)] (.int x :: st) σ Q := Ev_step rfl
theorem s_X_days_14 (h : sh i0 = 8) : Ev sh 114 14 [a0, a1, a2] [.int x1, .ref i0] σ Q = Ev sh 145 0 [some (.ref i0), some (.int x1), none] [] σ (fun r s => Ev sh 114 17 [a0, a1, a2] (zpush r []) s Q) := Ev_callh (zrecv_of (by decide) h) rfl
theorem s_X_days_17 : Ev sh 114 17 [a0, a1, a2] [.int x] σ Q = Q (some (.int x)) σ := Ev_ret rfl
theorem s_X_days_18 : Ev sh 114 18 [some (.ref i), a1, a2] st σ Q = Ev sh 114 19 [some (.ref i), a1, a2] (.ref i :: st) σ Q := Ev_step rfl
theorem s_X_days_19 (h : sh i = 8) : Ev sh 114 19 [a0, a1, a2] (.ref i :: st) σ Q = Ev sh 114 22 [a0, a1, a2] (.ref 1 :: st) σ Q := Ev_h h rfl
theorem s_X_days_22 : Ev sh 114 22 [a0, some (.int x), a2] st σ Q = Ev sh 114 23 [a0, some (.int x), a2] (.int x :: st) σ Q := Ev_step rfl
theorem s_X_days_23 (h : sh i0 = 0) : Ev sh 114 23 [a0, a1, a2] [.int x1, .ref i0] σ Q = Ev sh 2 0 [some (.ref i0), some (.int x1)] [] σ (fun r s => Ev sh 114 26 [a0, a1, a2] (zpush r []) s Q) := Ev_callh (zrecv_of (by decide) h) rfl
theorem s_X_days_26 : Ev sh 114 26 [a0, a1, a2] (.int x :: st) σ Q = if x ≠ 0 then Ev sh 114 36 [a0, a1, a2] st σ Q else Ev sh 114 29 [a0, a1, a2] st σ Q := Ev_if rfl
theorem s_X_days_29 : Ev sh 114 29 [some (.ref i), a1, a2] st σ Q = Ev sh 114 30 [some (.ref i), a1, a2] (.ref i :: st) σ Q := Ev_step rfl
theorem s_X_days_30 : Ev sh 114 30 [a0, a1, a2] st σ Q = Ev sh 114 32 [a0, a1, a2] (.int (-6) :: st) σ Q := Ev_step rfl
theorem s_X_days_32 (h : sh i0 = 8) : Ev sh 114 32 [a0, a1, a2] [.int x1, .ref i0] σ Q = Ev sh 145 0 [some (.ref i0), some (.int x1), none] [] σ (fun r s => Ev sh 114 35 [a0, a1, a2] (zpush r []) s Q) := Ev_callh (zrecv_of (by decide) h) rfl
theorem s_X_days_35 : Ev sh 114 35 [a0, a1, a2] [.int x] σ Q = Q (some (.int x)) σ := Ev_ret rfl
theorem s_X_days_36 : Ev sh 114 36 [some (.ref i), a1, a2] st σ Q = Ev sh 114 37 [some (.ref i), a1, a2] (.ref i :: st) σ Q := Ev_step rfl
theorem s_X_days_37 (h : sh i = 8) : Ev sh 114 37 [a0, a1, a2] (.ref i :: st) σ Q = Ev sh 114 40 [a0, a1, a2] (.ref 1 :: st) σ Q := Ev_h h rfl
theorem s_X_days_40 : Ev sh 114 40 [a0, some (.int x), a2] st σ Q = Ev sh 114 41 [a0, some (.int x), a2] (.int x :: st) σ Q := Ev_step rfl
theorem s_X_days_41 (h : sh i0 = 0) : Ev sh 114 41 [a0, a1, a2] [.int x1, .ref i0] σ Q = Ev sh 3 0 [some (.ref i0), some (.int x1), none] [] σ (fun r s => Ev sh 114 44 [a0, a1, a2] (zpush r []) s Q) := Ev_callh (zrecv_of (by decide) h) rfl
theorem s_X_days_44 : Ev sh 114 44 [some (.ref i), a1, a2] st σ Q = Ev sh 114 45 [some (.ref i), a1, a2] (.ref i :: st) σ Q := Ev_step rfl
theorem s_X_days_45 (h : sh i = 8) : Ev sh 114 45 [a0, a1, a2] (.ref i :: st) σ Q = Ev sh 114 48 [a0, a1, a2] (.ref 1 :: st) σ Q := Ev_h h rfl
theorem s_X_days_48 (h : sh i = 0) : Ev sh 114 48 [a0, a1, a2] (.ref i :: st) σ Q = Ev sh 114 51 [a0, a1, a2] (.ref (i + 1) :: st) σ Q := Ev_h h rfl
theorem s_X_days_51 (h : sh i0 = 7) : Ev sh 114 51 [a0, a1, a2] [.ref i0] σ Q = Ev sh 70 0 [some (.ref i0)] [] σ (fun r s => Ev sh 114 54 [a0, a1, a2] (zpush r []) s Q) := Ev_callh (zrecv_of (by decide) h) rfl
theorem s_X_days_54 : Ev sh 114 54 [a0, a1, a2] [.int x] σ Q = Q (some (.int x)) σ := Ev_ret rfl
theorem s_X_stands_0 : Ev sh 115 0 [a0, some (.int x)] st σ Q = Ev sh 115 1 [a0, some (.int x)] (.int x :: st) σ Q := Ev_step rfl
theorem s_X_stands_1 : Ev sh 115 1 [a0, a1] (.int x :: st) σ Q = if x = 0 then Ev sh 115 28 [a0, a1] st σ Q else if x = 1 then Ev sh 115 42 [a0, a1] st σ Q else if x = 2 then Ev sh 115 53 [a0, a1] st σ Q else Ev sh 115 64 [a0, a1] st σ Q := (Ev_step (pc' := zsw x 64 [(0, 28), (1, 42), (2, 53)]) rfl).trans (by rw [Ev_swc, Ev_swc, Ev_swc]; rfl)
theorem s_X_stands_28 : Ev sh 115 28 [some (.ref i), a1] st σ Q = Ev sh 115 29 [some (.ref i), a1] (.ref i :: st) σ Q := Ev_step rfl
theorem s_X_stands_29 (h : sh i = 8) : Ev sh 115 29 [a0, a1] (.ref i :: st) σ Q = Ev sh 115 32 [a0, a1] (.ref 1 :: st) σ Q := Ev_h h rfl
theorem s_X_stands_32 (h : sh i = 0) : Ev sh 115 32 [a0, a1] (.ref i :: st) σ Q = Ev sh 115 35 [a0, a1] (.ref (i + 1) :: st) σ Q := Ev_h h rfl
theorem s_X_stands_35 (h : sh i0 = 7) : Ev sh 115 35 [a0, a1] [.ref i0] σ Q = Ev sh 90 0 [some (.ref i0)] [] σ (fun r s => Ev sh 115 38 [a0, a1] (zpush r []) s Q) := Ev_callh (zrecv_of (by decide) h) rfl
theorem s_X_stands_38 : Ev sh 115 38 [a0, a1] [.int x0] σ Q = Ev sh 155 0 [some (.int x0)] [] σ (fun r s => Ev sh 115 41 [a0, a1] (zpush r []) s Q) := Ev_call rfl
theorem s_X_stands_41 : Ev sh 115 41 [a0, a1] [.int x] σ Q = Q (some (.int x)) σ := Ev_ret rfl
theorem s_X_stands_42 : Ev sh 115 42 [some (.ref i), a1] st σ Q = Ev sh 115 43 [some (.ref i), a1] (.ref i :: st) σ Q := Ev_step rfl
theorem s_X_stands_43 (h : sh i = 8) : Ev sh 115 43 [a0, a1] (.ref i :: st) σ Q = Ev sh 115 46 [a0, a1] (.ref 1 :: st) σ Q := Ev_h h rfl
theorem s_X_stands_46 (h : sh i = 0) : Ev sh 115 46 [a0, a1] (.ref i :: st) σ Q = Ev sh 115 49 [a0, a1] (.ref (i + 1) :: st) σ Q := Ev_h h rfl
theorem s_X_stands_49 (h : sh i0 = 7) : Ev sh 115 49 [a0, a1] [.ref i0] σ Q = Ev sh 89 0 [some (.ref i0), none] [] σ (fun r s => Ev sh 115 52 [a0, a1] (zpush r []) s Q) := Ev_callh (zrecv_of (by decide) h) rfl
theorem s_X_stands_52 : Ev sh 115 52 [a0, a1] [.int x] σ Q = Q (some (.int x)) σ := Ev_ret rfl
theorem s_X_stands_53 : Ev sh 115 53 [some (.ref i), a1] st σ Q = Ev sh 115 54 [some (.ref i), a1] (.ref i :: st) σ Q := Ev_step rfl
theorem s_X_stands_54 (h : sh i = 8) : Ev sh 115 54 [a0, a1] (.ref i :: st) σ Q = Ev sh 115 57 [a0, a1] (.ref 1 :: st) σ Q := Ev_h h rfl
theorem s_X_stands_57 (h : sh i = 0) : Ev sh 115 57 [a0, a1] (.ref i :: st) σ Q = Ev sh 115 60 [a0, a1] (.ref (i + 1) :: st) σ Q := Ev_h h rfl
theorem s_X_stands_60 (h : sh i0 = 7) : Ev sh 115 60 [a0, a1] [.ref i0] σ Q = Ev sh 81 0 [some (.ref i0), none, none] [] σ (fun r s => Ev sh 115 63 [a0, a1] (zpush r []) s Q) := Ev_callh (zrecv_of (by decide) h) rfl
theorem s_X_stands_63 : Ev sh 115 63 [a0, a1] [.int x] σ Q = Q (some (.int x)) σ := Ev_ret rfl
theorem s_X_stands_64 : Ev sh 115 64 [some (.ref i), a1] st σ Q = Ev sh 115 65 [some (.ref i), a1] (.ref i :: st) σ Q := Ev_step rfl
theorem s_X_stands_65 : Ev sh 115 65 [a0, a1] st σ Q = Ev sh 115 67 [a0, a1] (.int (-2) :: st) σ Q := Ev_step rfl
theorem s_X_stands_67 (h : sh i0 = 8) : Ev sh 115 67 [a0, a1] [.int x1, .ref i0] σ Q = Ev sh 145 0 [some (.ref i0), some (.int x1), none] [] σ (fun r s => Ev sh 115 70 [a0, a1] (zpush r []) s Q) := Ev_callh (zrecv_of (by decide) h) rfl
theorem s_X_stands_70 : Ev sh 115 70 [a0, a1] [.int x] σ Q = Q (some (.int x)) σ := Ev_ret rfl
theorem s_X_spare_0 : Ev sh 116 0 [a0, some (.int x)] st σ Q = Ev sh 116 1 [a0, some (.int x)] (.int x :: st) σ Q := Ev_step rfl
theorem s_X_spare_1 : Ev sh 116 1 [a0, a1] (.int x :: st) σ Q = if x = 0 then Ev sh 116 28 [a0, a1] st σ Q else if x = 1 then Ev sh 116 39 [a0, a1] st σ Q else Ev sh 116 50 [a0, a1] st σ Q := (Ev_step (pc' := zsw x 50 [(0, 28), (1, 39)]) rfl).trans (by rw [Ev_swc, Ev_swc]; rfl)
theorem s_X_spare_28 : Ev sh 116 28 [some (.ref i), a1] st σ Q = Ev sh 116 29 [some (.ref i), a1] (.ref i :: st) σ Q := Ev_step rfl
theorem s_X_spare_29 (h : sh i = 8) : Ev sh 116 29 [a0, a1] (.ref i :: st) σ Q = Ev sh 116 32 [a0, a1] (.ref 1 :: st) σ Q := Ev_h h rfl
theorem s_X_spare_32 (h : sh i = 0) : Ev sh 116 32 [a0, a1] (.ref i :: st) σ Q = Ev sh 116 35 [a0, a1] (.ref (i + 1) :: st) σ Q := Ev_h h rfl
theorem s_X_spare_35 (h : sh i0 = 7) : Ev sh 116 35 [a0, a1] [.ref i0] σ Q = Ev sh 91 0 [some (.ref i0), none, none] [] σ (fun r s => Ev sh 116 38 [a0, a1] (zpush r []) s Q) := Ev_callh (zrecv_of (by decide) h) rfl
theorem s_X_spare_38 : Ev sh 116 38 [a0, a1] [.int x] σ Q = Q (some (.int x)) σ := Ev_ret rfl
theorem s_X_spare_39 : Ev sh 116 39 [some (.ref i), a1] st σ Q = Ev sh 116 40 [some (.ref i), a1] (.ref i :: st) σ Q := Ev_step rfl
theorem s_X_spare_40 (h : sh i = 8) : Ev sh 116 40 [a0, a1] (.ref i :: st) σ Q = Ev sh 116 43 [a0, a1] (.ref 1 :: st) σ Q := Ev_h h rfl
theorem s_X_spare_43 (h : sh i = 0) : Ev sh 116 43 [a0, a1] (.ref i :: st) σ Q = Ev sh 116 46 [a0, a1] (.ref (i + 1) :: st) σ Q := Ev_h h rfl
theorem s_X_spare_46 (h : sh i0 = 7) : Ev sh 116 46 [a0, a1] [.ref i0] σ Q = Ev sh 92 0 [some (.ref i0), none, none] [] σ (fun r s => Ev sh 116 49 [a0, a1] (zpush r []) s Q) := Ev_callh (zrecv_of (by decide) h) rfl
theorem s_X_spare_49 : Ev sh 116 49 [a0, a1] [.int x] σ Q = Q (some (.int x)) σ := Ev_ret rfl
theorem s_X_spare_50 : Ev sh 116 50 [some (.ref i), a1] st σ Q = Ev sh 116 51 [some (.ref i), a1] (.ref i :: st) σ Q := Ev_step rfl
theorem s_X_spare_51 : Ev sh 116 51 [a0, a1] st σ Q = Ev sh 116 53 [a0, a1] (.int (-2) :: st) σ Q := Ev_step rfl
theorem s_X_spare_53 (h : sh i0 = 8) : Ev sh 116 53 [a0, a1] [.int x1, .ref i0] σ Q = Ev sh 146 0 [some (.ref i0), some (.int x1)] [] σ (fun r s => Ev sh 116 56 [a0, a1] (zpush r []) s Q) := Ev_callh (zrecv_of (by decide) h) rfl
theorem s_X_spare_56 : Ev sh 116 56 [a0, a1] [.int x] σ Q = Q (some (.int x)) σ := Ev_ret rfl
theorem s_X_lean_0 : Ev sh 117 0 [a0, some (.int x)] st σ Q = Ev sh 117 1 [a0, some (.int x)] (.int x :: st) σ Q := Ev_step rfl
theorem s_X_lean_1 : Ev sh 117 1 [a0, a1] (.int x :: st) σ Q = if x = 0 then Ev sh 117 28 [a0, a1] st σ Q else if x = 1 then Ev sh 117 39 [a0, a1] st σ Q else Ev sh 117 50 [a0, a1] st σ Q := (Ev_step (pc' := zsw x 50 [(0, 28), (1, 39)]) rfl).trans (by rw [Ev_swc, Ev_swc]; rfl)
theorem s_X_lean_28 : Ev sh 117 28 [some (.ref i), a1] st σ Q = Ev sh 117 29 [some (.ref i), a1] (.ref i :: st) σ Q := Ev_step rfl
theorem s_X_lean_29 (h : sh i = 8) : Ev sh 117 29 [a0, a1] (.ref i :: st) σ Q = Ev sh 117 32 [a0, a1] (.ref 1 :: st) σ Q := Ev_h h rfl
theorem s_X_lean_32 (h : sh i = 0) : Ev sh 117 32 [a0, a1] (.ref i :: st) σ Q = Ev sh 117 35 [a0, a1] (.ref (i + 1) :: st) σ Q := Ev_h h rfl
theorem s_X_lean_35 (h : sh i0 = 7) : Ev sh 117 35 [a0, a1] [.ref i0] σ Q = Ev sh 79 0 [some (.ref i0)] [] σ (fun r s => Ev sh 117 38 [a0, a1] (zpush r []) s Q) := Ev_callh (zrecv_of (by decide) h) rfl
theorem s_X_lean_38 : Ev sh 117 38 [a0, a1] [.int x] σ Q = Q (some (.int x)) σ := Ev_ret rfl
theorem s_X_lean_39 : Ev sh 117 39 [some (.ref i), a1] st σ Q = Ev sh 117 40 [some (.ref i), a1] (.ref i :: st) σ Q := Ev_step rfl
theorem s_X_lean_40 (h : sh i = 8) : Ev sh 117 40 [a0, a1] (.ref i :: st) σ Q = Ev sh 117 43 [a0, a1] (.ref 1 :: st) σ Q := Ev_h h rfl
theorem s_X_lean_43 (h : sh i = 0) : Ev sh 117 43 [a0, a1] (.ref i :: st) σ Q = Ev sh 117 46 [a0, a1] (.ref (i + 1) :: st) σ Q := Ev_h h rfl
theorem s_X_lean_46 (h : sh i0 = 7) : Ev sh 117 46 [a0, a1] [.ref i0] σ Q = Ev sh 80 0 [some (.ref i0), none, none, none] [] σ (fun r s => Ev sh 117 49 [a0, a1] (zpush r []) s Q) := Ev_callh (zrecv_of (by decide) h) rfl
theorem s_X_lean_49 : Ev sh 117 49 [a0, a1] [.int x] σ Q = Q (some (.int x)) σ := Ev_ret rfl
theorem s_X_lean_50 : Ev sh 117 50 [some (.ref i), a1] st σ Q = Ev sh 117 51 [some (.ref i), a1] (.ref i :: st) σ Q := Ev_step rfl
theorem s_X_lean_51 : Ev sh 117 51 [a0, a1] st σ Q = Ev sh 117 53 [a0, a1] (.int (-2) :: st) σ Q := Ev_step rfl
theorem s_X_lean_53 (h : sh i0 = 8) : Ev sh 117 53 [a0, a1] [.int x1, .ref i0] σ Q = Ev sh 146 0 [some (.ref i0), some (.int x1)] [] σ (fun r s => Ev sh 117 56 [a0, a1] (zpush r []) s Q) := Ev_callh (zrecv_of (by decide) h) rfl
theorem s_X_lean_56 : Ev sh 117 56 [a0, a1] [.int x] σ Q = Q (some (.int x)) σ := Ev_ret rfl
theorem s_X_then_0 : Ev sh 118 0 [a0, some (.int x), a2, a3] st σ Q = Ev sh 118 1 [a0, some (.int x), a2, a3] (.int x :: st) σ Q := Ev_step rfl
theorem s_X_then_1 : Ev sh 118 1 [a0, a1, a2, a3] st σ Q = Ev sh 118 2 [a0, a1, a2, a3] (.int 0 :: st) σ Q := Ev_step rfl
theorem s_X_then_2 : Ev sh 118 2 [a0, a1, a2, a3] st σ Q = Ev sh 118 4 [a0, a1, a2, a3] (.int 60 :: st) σ Q := Ev_step rfl
theorem s_X_then_4 : Ev sh 118 4 [a0, a1, a2, a3] [.int x2, .int x1, .int x0] σ Q = Ev sh 149 0 [some (.int x0), some (.int x1), some (.int x2)] [] σ (fun r s => Ev sh 118 7 [a0, a1, a2, a3] (zpush r []) s Q) := Ev_call rfl
theorem s_X_then_7 : Ev sh 118 7 [a0, a1, a2, a3] (.int x :: st) σ Q = Ev sh 118 8 [a0, a1, zdrop2 a2, some (.int x)] st σ Q := Ev_step rfl
theorem s_X_then_8 : Ev sh 118 8 [a0, a1, a2, some (.int x)] st σ Q = Ev sh 118 9 [a0, a1, a2, some (.int x)] (.int x :: st) σ Q := Ev_step rfl
theorem s_X_then_9 : Ev sh 118 9 [a0, a1, a2, a3] (.int x :: st) σ Q = if x = 0 then Ev sh 118 18 [a0, a1, a2, a3] st σ Q else Ev sh 118 12 [a0, a1, a2, a3] st σ Q := Ev_if rfl
theorem s_X_then_12 : Ev sh 118 12 [some (.ref i), a1, a2, a3] st σ Q = Ev sh 118 13 [some (.ref i), a1, a2, a3] (.ref i :: st) σ Q := Ev_step rfl
theorem s_X_then_13 : Ev sh 118 13 [a0, a1, a2, some (.int x)] st σ Q = Ev sh 118 14 [a0, a1, a2, some (.int x)] (.int x :: st) σ Q := Ev_step rfl
theorem s_X_then_14 (h : sh i0 = 8) : Ev sh 118 14 [a0, a1, a2, a3] [.int x1, .ref i0] σ Q = Ev sh 145 0 [some (.ref i0), some (.int x1), none] [] σ (fun r s => Ev sh 118 17 [a0, a1, a2, a3] (zpush r []) s Q) := Ev_callh (zrecv_of (by decide) h) rfl
theorem s_X_then_17 : Ev sh 118 17 [a0, a1, a2, a3] [.int x] σ Q = Q (some (.int x)) σ := Ev_ret rfl
theorem s_X_then_18 : Ev sh 118 18 [a0, a1, some (.int x), a3] st σ Q = Ev sh 118 19 [a0, a1, some (.int x), a3] (.int x :: st) σ Q := Ev_step rfl
theorem s_X_then_19 : Ev sh 118 19 [a0, a1, a2, a3] (.int x :: st) σ Q = if x = 0 then Ev sh 118 44 [a0, a1, a2, a3] st σ Q else if x = 1 then Ev sh 118 59 [a0, a1, a2, a3] st σ Q else if x = 2 then Ev sh 118 71 [a0, a1, a2, a3] st σ Q else Ev sh 118 89 [a0, a1, a2, a3] st σ Q := (Ev_step (pc' := zsw x 89 [(0, 44), (1, 59), (2, 71)]) rfl).trans (by rw [Ev_swc, Ev_swc, Ev_swc]; rfl)
theorem s_X_then_44 : Ev sh 118 44 [some (.ref i), a1, a2, a3] st σ Q = Ev sh 118 45 [some (.ref i), a1, a2, a3] (.ref i :: st) σ Q := Ev_step rfl
theorem s_X_then_45 (h : sh i = 8) : Ev sh 118 45 [a0, a1, a2, a3] (.ref i :: st) σ Q = Ev sh 118 48 [a0, a1, a2, a3] (.ref 26 :: st) σ Q := Ev_h h rfl
theorem s_X_then_48 : Ev sh 118 48 [a0, some (.int x), a2, a3] st σ Q = Ev sh 118 49 [a0, some (.int x), a2, a3] (.int x :: st) σ Q := Ev_step rfl
theorem s_X_then_49 (h : sh i0 = 2) : Ev sh 118 49 [a0, a1, a2, a3] [.int x1, .ref i0] σ Q = Ev sh 8 0 [some (.ref i0), some (.int x1)] [] σ (fun r s => Ev sh 118 52 [a0, a1, a2, a3] (zpush r []) s Q) := Ev_callh (zrecv_of (by decide) h) rfl
theorem s_X_then_52 (h : sh i = 0) : Ev sh 118 52 [a0, a1, a2, a3] (.ref i :: st) σ Q = Ev sh 118 55 [a0, a1, a2, a3] (.ref (i + 1) :: st) σ Q := Ev_h h rfl
theorem s_X_then_55 (h : sh i0 = 7) : Ev sh 118 55 [a0, a1, a2, a3] [.ref i0] σ Q = Ev sh 70 0 [some (.ref i0)] [] σ (fun r s => Ev sh 118 58 [a0, a1, a2, a3] (zpush r []) s Q) := Ev_callh (zrecv_of (by decide) h) rfl
theorem s_X_then_58 : Ev sh 118 58 [a0, a1, a2, a3] [.int x] σ Q = Q (some (.int x)) σ := Ev_ret rfl
theorem s_X_then_59 : Ev sh 118 59 [some (.ref i), a1, a2, a3] st σ Q = Ev sh 118 60 [some (.ref i), a1, a2, a3] (.ref i :: st) σ Q := Ev_step rfl
theorem s_X_then_60 (h : sh i = 8) : Ev sh 118 60 [a0, a1, a2, a3] (.ref i :: st) σ Q = Ev sh 118 63 [a0, a1, a2, a3] (.ref 26 :: st) σ Q := Ev_h h rfl
theorem s_X_then_63 : Ev sh 118 63 [a0, some (.int x), a2, a3] st σ Q = Ev sh 118 64 [a0, some (.int x), a2, a3] (.int x :: st) σ Q := Ev_step rfl
theorem s_X_then_64 (h : sh i0 = 2) : Ev sh 118 64 [a0, a1, a2, a3] [.int x1, .ref i0] σ Q = Ev sh 8 0 [some (.ref i0), some (.int x1)] [] σ (fun r s => Ev sh 118 67 [a0, a1, a2, a3] (zpush r []) s Q) := Ev_callh (zrecv_of (by decide) h) rfl
theorem s_X_then_67 (h : sh i = 0) : Ev sh 118 67 [a0, a1, a2, a3] (.ref i :: st) σ Q = Ev sh 118 70 [a0, a1, a2, a3] (.int (σ i 3) :: st) σ Q := Ev_h h rfl
theorem s_X_then_70 : Ev sh 118 70 [a0, a1, a2, a3] [.int x] σ Q = Q (some (.int x)) σ := Ev_ret rfl
theorem s_X_then_71 : Ev sh 118 71 [some (.ref i), a1, a2, a3] st σ Q = Ev sh 118 72 [some (.ref i), a1, a2, a3] (.ref i :: st) σ Q := Ev_step rfl
theorem s_X_then_72 (h : sh i = 8) : Ev sh 118 72 [a0, a1, a2, a3] (.ref i :: st) σ Q = Ev sh 118 75 [a0, a1, a2, a3] (.ref 26 :: st) σ Q := Ev_h h rfl
theorem s_X_then_75 : Ev sh 118 75 [a0, some (.int x), a2, a3] st σ Q = Ev sh 118 76 [a0, some (.int x), a2, a3] (.int x :: st) σ Q := Ev_step rfl
theorem s_X_then_76 (h : sh i0 = 2) : Ev sh 118 76 [a0, a1, a2, a3] [.int x1, .ref i0] σ Q = Ev sh 8 0 [some (.ref i0), some (.int x1)] [] σ (fun r s => Ev sh 118 79 [a0, a1, a2, a3] (zpush r []) s Q) := Ev_callh (zrecv_of (by decide) h) rfl
theorem s_X_then_79 (h : sh i = 0) : Ev sh 118 79 [a0, a1, a2, a3] (.ref i :: st) σ Q = Ev sh 118 82 [a0, a1, a2, a3] (.ref (i + 1) :: st) σ Q := Ev_h h rfl
theorem s_X_then_82 (h : sh i0 = 7) : Ev sh 118 82 [a0, a1, a2, a3] [.ref i0] σ Q = Ev sh 90 0 [some (.ref i0)] [] σ (fun r s => Ev sh 118 85 [a0, a1, a2, a3] (zpush r []) s Q) := Ev_callh (zrecv_of (by decide) h) rfl
theorem s_X_then_85 : Ev sh 118 85 [a0, a1, a2, a3] [.int x0] σ Q = Ev sh 155 0 [some (.int x0)] [] σ (fun r s => Ev sh 118 88 [a0, a1, a2, a3] (zpush r []) s Q) := Ev_call rfl
theorem s_X_then_88 : Ev sh 118 88 [a0, a1, a2, a3] [.int x] σ Q = Q (some (.int x)) σ := Ev_ret rfl
theorem s_X_then_89 : Ev sh 118 89 [some (.ref i), a1, a2, a3] st σ Q = Ev sh 118 90 [some (.ref i), a1, a2, a3] (.ref i :: st) σ Q := Ev_step rfl
theorem s_X_then_90 : Ev sh 118 90 [a0, a1, a2, a3] st σ Q = Ev sh 118 92 [a0, a1, a2, a3] (.int (-2) :: st) σ Q := Ev_step rfl
theorem s_X_then_92 (h : sh i0 = 8) : Ev sh 118 92 [a0, a1, a2, a3] [.int x1, .ref i0] σ Q = Ev sh 145 0 [some (.ref i0), some (.int x1), none] [] σ (fun r s => Ev sh 118 95 [a0, a1, a2, a3] (zpush r []) s Q) := Ev_callh (zrecv_of (by decide) h) rfl
theorem s_X_then_95 : Ev sh 118 95 [a0, a1, a2, a3] [.int x] σ Q = Q (some (.int x)) σ := Ev_ret rfl
theorem s_X_up_0 : Ev sh 119 0 [a0, some (.int x)] st σ Q = Ev sh 119 1 [a0, some (.int x)] (.int x :: st) σ Q := Ev_step rfl
theorem s_X_up_1 : Ev sh 119 1 [a0, a1] (.int x :: st) σ Q = if x = 0 then Ev sh 119 28 [a0, a1] st σ Q else if x = 1 then Ev sh 119 36 [a0, a1] st σ Q else Ev sh 119 44 [a0, a1] st σ Q := (Ev_step (pc' := zsw x 44 [(0, 28), (1, 36)]) rfl).trans (by rw [Ev_swc, Ev_swc]; rfl)
theorem s_X_up_28 : Ev sh 119 28 [some (.ref i), a1] st σ Q = Ev sh 119 29 [some (.ref i), a1] (.ref i :: st) σ Q := Ev_step rfl
theorem s_X_up_29 (h : sh i = 8) : Ev sh 119 29 [a0, a1] (.ref i :: st) σ Q = Ev sh 119 32 [a0, a1] (.ref 26 :: st) σ Q := Ev_h h rfl
theorem s_X_up_32 (h : sh i0 = 2) : Ev sh 119 32 [a0, a1] [.ref i0] σ Q = Ev sh 9 0 [some (.ref i0), none] [] σ (fun r s => Ev sh 119 35 [a0, a1] (zpush r []) s Q) := Ev_callh (zrecv_of (by decide) h) rfl
theorem s_X_up_35 : Ev sh 119 35 [a0, a1] [.int x] σ Q = Q (some (.int x)) σ := Ev_ret rfl
theorem s_X_up_36 : Ev sh 119 36 [some (.ref i), a1] st σ Q = Ev sh 119 37 [some (.ref i), a1] (.ref i :: st) σ Q := Ev_step rfl
theorem s_X_up_37 (h : sh i = 8) : Ev sh 119 37 [a0, a1] (.ref i :: st) σ Q = Ev sh 119 40 [a0, a1] (.ref 26 :: st) σ Q := Ev_h h rfl
theorem s_X_up_40 (h : sh i0 = 2) : Ev sh 119 40 [a0, a1] [.ref i0] σ Q = Ev sh 10 0 [some (.ref i0), none] [] σ (fun r s => Ev sh 119 43 [a0, a1] (zpush r []) s Q) := Ev_callh (zrecv_of (by decide) h) rfl
theorem s_X_up_43 : Ev sh 119 43 [a0, a1] [.int x] σ Q = Q (some (.int x)) σ := Ev_ret rfl
theorem s_X_up_44 : Ev sh 119 44 [some (.ref i), a1] st σ Q = Ev sh 119 45 [some (.ref i), a1] (.ref i :: st) σ Q := Ev_step rfl
theorem s_X_up_45 : Ev sh 119 45 [a0, a1] st σ Q = Ev sh 119 47 [a0, a1] (.int (-2) :: st) σ Q := Ev_step rfl
theorem s_X_up_47 (h : sh i0 = 8) : Ev sh 119 47 [a0, a1] [.int x1, .ref i0] σ Q = Ev sh 145 0 [some (.ref i0), some (.int x1), none] [] σ (fun r s => Ev sh 119 50 [a0, a1] (zpush r []) s Q) := Ev_callh (zrecv_of (by decide) h) rfl
theorem s_X_up_50 : Ev sh 119 50 [a0, a1] [.int x] σ Q = Q (some (.int x)) σ := Ev_ret rfl
theorem s_X_next_0 : Ev sh 120 0 [a0, some (.int x)] st σ Q = Ev sh 120 1 [a0, some (.int x)] (.int x :: st) σ Q := Ev_step rfl
theorem s_X_next_1 : Ev sh 120 1 [a0, a1] [.int x0] σ Q = Ev sh 151 0 [some (.int x0)] [] σ (fun r s => Ev sh 120 4 [a0, a1] (zpush r []) s Q) := Ev_call rfl
theorem s_X_next_4 : Ev sh 120 4 [a0, a1] (.int x :: st) σ Q = if x ≠ 0 then Ev sh 120 13 [a0, a1] st σ Q else Ev sh 120 7 [a0, a1] st σ Q := Ev_if rfl
theorem s_X_next_7 : Ev sh 120 7 [some (.ref i), a1] st σ Q = Ev sh 120 8 [some (.ref i), a1] (.ref i :: st) σ Q := Ev_step rfl
theorem s_X_next_8 : Ev sh 120 8 [a0, a1] st σ Q = Ev sh 120 9 [a0, a1] (.int (-1) :: st) σ Q := Ev_step rfl
theorem s_X_next_9 (h : sh i0 = 8) : Ev sh 120 9 [a0, a1] [.int x1, .ref i0] σ Q = Ev sh 145 0 [some (.ref i0), some (.int x1), none] [] σ (fun r s => Ev sh 120 12 [a0, a1] (zpush r []) s Q) := Ev_callh (zrecv_of (by decide) h) rfl
theorem s_X_next_12 : Ev sh 120 12 [a0, a1] [.int x] σ Q = Q (some (.int x)) σ := Ev_ret rfl
theorem s_X_next_13 : Ev sh 120 13 [some (.ref i), a1] st σ Q = Ev sh 120 14 [some (.ref i), a1] (.ref i :: st) σ Q := Ev_step rfl
theorem s_X_next_14 (h : sh i = 8) : Ev sh 120 14 [a0, a1] (.ref i :: st) σ Q = Ev sh 120 17 [a0, a1] (.ref 36 :: st) σ Q := Ev_h h rfl
theorem s_X_next_17 : Ev sh 120 17 [a0, some (.int x)] st σ Q = Ev sh 120 18 [a0, some (.int x)] (.int x :: st) σ Q := Ev_step rfl
theorem s_X_next_18 (h : sh i0 = 5) : Ev sh 120 18 [a0, a1] [.int x1, .ref i0] σ Q = Ev sh 45 0 [some (.ref i0), some (.int x1), none, none, none, none, none] [] σ (fun r s => Ev sh 120 21 [a0, a1] (zpush r []) s Q) := Ev_callh (zrecv_of (by decide) h) rfl
theorem s_X_next_21 : Ev sh 120 21 [a0, a1] [.int x] σ Q = Q (some (.int x)) σ := Ev_ret rfl
theorem s_X_mend_0 : Ev sh 121 0 [some (.ref i)] st σ Q = Ev sh 121 1 [some (.ref i)] (.ref i :: st) σ Q := Ev_step rfl
theorem s_X_mend_1 (h : sh i = 8) : Ev sh 121 1 [a0] (.ref i :: st) σ Q = Ev sh 121 4 [a0] (.ref 36 :: st) σ Q := Ev_h h rfl
theorem s_X_mend_4 (h : sh i0 = 5) : Ev sh 121 4 [a0] [.ref i0] σ Q = Ev sh 46 0 [some (.ref i0), none, none] [] σ (fun r s => Ev sh 121 7 [a0] (zpush r []) s Q) := Ev_callh (zrecv_of (by decide) h) rfl
theorem s_X_mend_7 : Ev sh 121 7 [a0] [.int x] σ Q = Q (some (.int x)) σ := Ev_ret rfl
theorem s_X_fewest_0 : Ev sh 122 0 [some (.ref i)] st σ Q = Ev sh 122 1 [some (.ref i)] (.ref i :: st) σ Q := Ev_step rfl
theorem s_X_fewest_1 (h : sh i = 8) : Ev sh 122 1 [a0] (.ref i :: st) σ Q = Ev sh 122 4 [a0] (.ref 36 :: st) σ Q := Ev_h h rfl
theorem s_X_fewest_4 (h : sh i0 = 5) : Ev sh 122 4 [a0] [.ref i0] σ Q = Ev sh 47 0 [some (.ref i0), none, none] [] σ (fun r s => Ev sh 122 7 [a0] (zpush r []) s Q) := Ev_callh (zrecv_of (by decide) h) rfl
theorem s_X_fewest_7 : Ev sh 122 7 [a0] [.int x] σ Q = Q (some (.int x)) σ := Ev_ret rfl
theorem s_X_take_0 : Ev sh 123 0 [some (.ref i)] st σ Q = Ev sh 123 1 [some (.ref i)] (.ref i :: st) σ Q := Ev_step rfl
theorem s_X_take_1 (h : sh i = 8) : Ev sh 123 1 [a0] (.ref i :: st) σ Q = Ev sh 123 4 [a0] (.ref 36 :: st) σ Q := Ev_h h rfl
theorem s_X_take_4 (h : sh i0 = 5) : Ev sh 123 4 [a0] [.ref i0] σ Q = Ev sh 52 0 [some (.ref i0), none] [] σ (fun r s => Ev sh 123 7 [a0] (zpush r []) s Q) := Ev_callh (zrecv_of (by decide) h) rfl
theorem s_X_take_7 : Ev sh 123 7 [a0] [.int x] σ Q = Q (some (.int x)) σ := Ev_ret rfl
theorem s_X_turnBack_0 : Ev sh 124 0 [some (.ref i)] st σ Q = Ev sh 124 1 [some (.ref i)] (.ref i :: st) σ Q := Ev_step rfl
theorem s_X_turnBack_1 (h : sh i = 8) : Ev sh 124 1 [a0] (.ref i :: st) σ Q = Ev sh 124 4 [a0] (.ref 36 :: st) σ Q := Ev_h h rfl
theorem s_X_turnBack_4 (h : sh i0 = 5) : Ev sh 124 4 [a0] [.ref i0] σ Q = Ev sh 53 0 [some (.ref i0), none, none, none, none] [] σ (fun r s => Ev sh 124 7 [a0] (zpush r []) s Q) := Ev_callh (zrecv_of (by decide) h) rfl
theorem s_X_turnBack_7 : Ev sh 124 7 [a0] [.int x] σ Q = Q (some (.int x)) σ := Ev_ret rfl
theorem s_X_runs_0 : Ev sh 125 0 [a0, some (.int x)] st σ Q = Ev sh 125 1 [a0, some (.int x)] (.int x :: st) σ Q := Ev_step rfl
theorem s_X_runs_1 : Ev sh 125 1 [a0, a1] (.int x :: st) σ Q = if x = 0 then Ev sh 125 28 [a0, a1] st σ Q else if x = 1 then Ev sh 125 39 [a0, a1] st σ Q else if x = 2 then Ev sh 125 50 [a0, a1] st σ Q else Ev sh 125 61 [a0, a1] st σ Q := (Ev_step (pc' := zsw x 61 [(0, 28), (1, 39), (2, 50)]) rfl).trans (by rw [Ev_swc, Ev_swc, Ev_swc]; rfl)
theorem s_X_runs_28 : Ev sh 125 28 [some (.ref i), a1] st σ Q = Ev sh 125 29 [some (.ref i), a1] (.ref i :: st) σ Q := Ev_step rfl
theorem s_X_runs_29 (h : sh i = 8) : Ev sh 125 29 [a0, a1] (.ref i :: st) σ Q = Ev sh 125 32 [a0, a1] (.ref 1 :: st) σ Q := Ev_h h rfl
theorem s_X_runs_32 (h : sh i = 0) : Ev sh 125 32 [a0, a1] (.ref i :: st) σ Q = Ev sh 125 35 [a0, a1] (.ref (i + 1) :: st) σ Q := Ev_h h rfl
theorem s_X_runs_35 (h : sh i0 = 7) : Ev sh 125 35 [a0, a1] [.ref i0] σ Q = Ev sh 100 0 [some (.ref i0), none, none] [] σ (fun r s => Ev sh 125 38 [a0, a1] (zpush r []) s Q) := Ev_callh (zrecv_of (by decide) h) rfl
theorem s_X_runs_38 : Ev sh 125 38 [a0, a1] [.int x] σ Q = Q (some (.int x)) σ := Ev_ret rfl
theorem s_X_runs_39 : Ev sh 125 39 [some (.ref i), a1] st σ Q = Ev sh 125 40 [some (.ref i), a1] (.ref i :: st) σ Q := Ev_step rfl
theorem s_X_runs_40 (h : sh i = 8) : Ev sh 125 40 [a0, a1] (.ref i :: st) σ Q = Ev sh 125 43 [a0, a1] (.ref 1 :: st) σ Q := Ev_h h rfl
theorem s_X_runs_43 (h : sh i = 0) : Ev sh 125 43 [a0, a1] (.ref i :: st) σ Q = Ev sh 125 46 [a0, a1] (.ref (i + 1) :: st) σ Q := Ev_h h rfl
theorem s_X_runs_46 (h : sh i0 = 7) : Ev sh 125 46 [a0, a1] [.ref i0] σ Q = Ev sh 101 0 [some (.ref i0), none, none, none] [] σ (fun r s => Ev sh 125 49 [a0, a1] (zpush r []) s Q) := Ev_callh (zrecv_of (by decide) h) rfl
theorem s_X_runs_49 : Ev sh 125 49 [a0, a1] [.int x] σ Q = Q (some (.int x)) σ := Ev_ret rfl
theorem s_X_runs_50 : Ev sh 125 50 [some (.ref i), a1] st σ Q = Ev sh 125 51 [some (.ref i), a1] (.ref i :: st) σ Q := Ev_step rfl
theorem s_X_runs_51 (h : sh i = 8) : Ev sh 125 51 [a0, a1] (.ref i :: st) σ Q = Ev sh 125 54 [a0, a1] (.ref 1 :: st) σ Q := Ev_h h rfl
theorem s_X_runs_54 (h : sh i = 0) : Ev sh 125 54 [a0, a1] (.ref i :: st) σ Q = Ev sh 125 57 [a0, a1] (.ref (i + 1) :: st) σ Q := Ev_h h rfl
theorem s_X_runs_57 (h : sh i0 = 7) : Ev sh 125 57 [a0, a1] [.ref i0] σ Q = Ev sh 102 0 [some (.ref i0), none, none] [] σ (fun r s => Ev sh 125 60 [a0, a1] (zpush r []) s Q) := Ev_callh (zrecv_of (by decide) h) rfl
theorem s_X_runs_60 : Ev sh 125 60 [a0, a1] [.int x] σ Q = Q (some (.int x)) σ := Ev_ret rfl
theorem s_X_runs_61 : Ev sh 125 61 [some (.ref i), a1] st σ Q = Ev sh 125 62 [some (.ref i), a1] (.ref i :: st) σ Q := Ev_step rfl
theorem s_X_runs_62 : Ev sh 125 62 [a0, a1] st σ Q = Ev sh 125 64 [a0, a1] (.int (-2) :: st) σ Q := Ev_step rfl
theorem s_X_runs_64 (h : sh i0 = 8) : Ev sh 125 64 [a0, a1] [.int x1, .ref i0] σ Q = Ev sh 145 0 [some (.ref i0), some (.int x1), none] [] σ (fun r s => Ev sh 125 67 [a0, a1] (zpush r []) s Q) := Ev_callh (zrecv_of (by decide) h) rfl
theorem s_X_runs_67 : Ev sh 125 67 [a0, a1] [.int x] σ Q = Q (some (.int x)) σ := Ev_ret rfl
theorem s_X_kinds_0 : Ev sh 126 0 [a0, some (.int x)] st σ Q = Ev sh 126 1 [a0, some (.int x)] (.int x :: st) σ Q := Ev_step rfl
theorem s_X_kinds_1 : Ev sh 126 1 [a0, a1] [.int x0] σ Q = Ev sh 151 0 [some (.int x0)] [] σ (fun r s => Ev sh 126 4 [a0, a1] (zpush r []) s Q) := Ev_call rfl
theorem s_X_kinds_4 : Ev sh 126 4 [a0, a1] (.int x :: st) σ Q = if x ≠ 0 then Ev sh 126 13 [a0, a1] st σ Q else Ev sh 126 7 [a0, a1] st σ Q := Ev_if rfl
theorem s_X_kinds_7 : Ev sh 126 7 [some (.ref i), a1] st σ Q = Ev sh 126 8 [some (.ref i), a1] (.ref i :: st) σ Q := Ev_step rfl
theorem s_X_kinds_8 : Ev sh 126 8 [a0, a1] st σ Q = Ev sh 126 9 [a0, a1] (.int (-1) :: st) σ Q := Ev_step rfl
theorem s_X_kinds_9 (h : sh i0 = 8) : Ev sh 126 9 [a0, a1] [.int x1, .ref i0] σ Q = Ev sh 145 0 [some (.ref i0), some (.int x1), none] [] σ (fun r s => Ev sh 126 12 [a0, a1] (zpush r []) s Q) := Ev_callh (zrecv_of (by decide) h) rfl
theorem s_X_kinds_12 : Ev sh 126 12 [a0, a1] [.int x] σ Q = Q (some (.int x)) σ := Ev_ret rfl
theorem s_X_kinds_13 : Ev sh 126 13 [some (.ref i), a1] st σ Q = Ev sh 126 14 [some (.ref i), a1] (.ref i :: st) σ Q := Ev_step rfl
theorem s_X_kinds_14 (h : sh i = 8) : Ev sh 126 14 [a0, a1] (.ref i :: st) σ Q = Ev sh 126 17 [a0, a1] (.ref 1 :: st) σ Q := Ev_h h rfl
theorem s_X_kinds_17 (h : sh i = 0) : Ev sh 126 17 [a0, a1] (.ref i :: st) σ Q = Ev sh 126 20 [a0, a1] (.ref (i + 1) :: st) σ Q := Ev_h h rfl
theorem s_X_kinds_20 : Ev sh 126 20 [a0, some (.int x)] st σ Q = Ev sh 126 21 [a0, some (.int x)] (.int x :: st) σ Q := Ev_step rfl
theorem s_X_kinds_21 (h : sh i0 = 7) : Ev sh 126 21 [a0, a1] [.int x1, .ref i0] σ Q = Ev sh 99 0 [some (.ref i0), some (.int x1), none, none] [] σ (fun r s => Ev sh 126 24 [a0, a1] (zpush r []) s Q) := Ev_callh (zrecv_of (by decide) h) rfl
theorem s_X_kinds_24 : Ev sh 126 24 [a0, a1] [.int x] σ Q = Q (some (.int x)) σ := Ev_ret rfl
theorem s_X_keystone_0 : Ev sh 127 0 [some (.ref i)] st σ Q = Ev sh 127 1 [some (.ref i)] (.ref i :: st) σ Q := Ev_step rfl
theorem s_X_keystone_1 (h : sh i = 8) : Ev sh 127 1 [a0] (.ref i :: st) σ Q = Ev sh 127 4 [a0] (.ref 1 :: st) σ Q := Ev_h h rfl
theorem s_X_keystone_4 (h : sh i = 0) : Ev sh 127 4 [a0] (.ref i :: st) σ Q = Ev sh 127 7 [a0] (.ref (i + 1) :: st) σ Q := Ev_h h rfl
theorem s_X_keystone_7 (h : sh i0 = 7) : Ev sh 127 7 [a0] [.ref i0] σ Q = Ev sh 95 0 [some (.ref i0), none, none, none, none] [] σ (fun r s => Ev sh 127 10 [a0] (zpush r []) s Q) := Ev_callh (zrecv_of (by decide) h) rfl
theorem s_X_keystone_10 : Ev sh 127 10 [a0] [.int x] σ Q = Q (some (.int x)) σ := Ev_ret rfl
theorem s_X_mortar_0 : Ev sh 128 0 [some (.ref i)] st σ Q = Ev sh 128 1 [some (.ref i)] (.ref i :: st) σ Q := Ev_step rfl
theorem s_X_mortar_1 (h : sh i = 8) : Ev sh 128 1 [a0] (.ref i :: st) σ Q = Ev sh 128 4 [a0] (.ref 1 :: st) σ Q := Ev_h h rfl
theorem s_X_mortar_4 (h : sh i = 0) : Ev sh 128 4 [a0] (.ref i :: st) σ Q = Ev sh 128 7 [a0] (.ref (i + 1) :: st) σ Q := Ev_h h rfl
theorem s_X_mortar_7 (h : sh i0 = 7) : Ev sh 128 7 [a0] [.ref i0] σ Q = Ev sh 93 0 [some (.ref i0), none, none] [] σ (fun r s => Ev sh 128 10 [a0] (zpush r []) s Q) := Ev_callh (zrecv_of (by decide) h) rfl
theorem s_X_mortar_10 : Ev sh 128 10 [a0] [.int x] σ Q = Q (some (.int x)) σ := Ev_ret rfl
theorem s_X_yields_0 : Ev sh 129 0 [a0, some (.int x), a2] st σ Q = Ev sh 129 1 [a0, some (.int x), a2] (.int x :: st) σ Q := Ev_step rfl
theorem s_X_yields_1 : Ev sh 129 1 [a0, a1, a2] st σ Q = Ev sh 129 2 [a0, a1, a2] (.int 0 :: st) σ Q := Ev_step rfl
theorem s_X_yields_2 : Ev sh 129 2 [a0, a1, a2] st σ Q = Ev sh 129 4 [a0, a1, a2] (.int 60 :: st) σ Q := Ev_step rfl
theorem s_X_yields_4 : Ev sh 129 4 [a0, a1, a2] [.int x2, .int x1, .int x0] σ Q = Ev sh 149 0 [some (.int x0), some (.int x1), some (.int x2)] [] σ (fun r s => Ev sh 129 7 [a0, a1, a2] (zpush r []) s Q) := Ev_call rfl
theorem s_X_yields_7 : Ev sh 129 7 [a0, a1, a2] (.int x :: st) σ Q = Ev sh 129 8 [a0, zdrop2 a1, some (.int x)] st σ Q := Ev_step rfl
theorem s_X_yields_8 : Ev sh 129 8 [a0, a1, some (.int x)] st σ Q = Ev sh 129 9 [a0, a1, some (.int x)] (.int x :: st) σ Q := Ev_step rfl
theorem s_X_yields_9 : Ev sh 129 9 [a0, a1, a2] (.int x :: st) σ Q = if x = 0 then Ev sh 129 18 [a0, a1, a2] st σ Q else Ev sh 129 12 [a0, a1, a2] st σ Q := Ev_if rfl
theorem s_X_yields_12 : Ev sh 129 12 [some (.ref i), a1, a2] st σ Q = Ev sh 129 13 [some (.ref i), a1, a2] (.ref i :: st) σ Q := Ev_step rfl
theorem s_X_yields_13 : Ev sh 129 13 [a0, a1, some (.int x)] st σ Q = Ev sh 129 14 [a0, a1, some (.int x)] (.int x :: st) σ Q := Ev_step rfl
theorem s_X_yields_14 (h : sh i0 = 8) : Ev sh 129 14 [a0, a1, a2] [.int x1, .ref i0] σ Q = Ev sh 145 0 [some (.ref i0), some (.int x1), none] [] σ (fun r s => Ev sh 129 17 [a0, a1, a2] (zpush r []) s Q) := Ev_callh (zrecv_of (by decide) h) rfl
theorem s_X_yields_17 : Ev sh 129 17 [a0, a1, a2] [.int x] σ Q = Q (some (.int x)) σ := Ev_ret rfl
theorem s_X_yields_18 : Ev sh 129 18 [some (.ref i), a1, a2] st σ Q = Ev sh 129 19 [some (.ref i), a1, a2] (.ref i :: st) σ Q := Ev_step rfl
theorem s_X_yields_19 (h : sh i = 8) : Ev sh 129 19 [a0, a1, a2] (.ref i :: st) σ Q = Ev sh 129 22 [a0, a1, a2] (.ref 26 :: st) σ Q := Ev_h h rfl
theorem s_X_yields_22 : Ev sh 129 22 [a0, some (.int x), a2] st σ Q = Ev sh 129 23 [a0, some (.int x), a2] (.int x :: st) σ Q := Ev_step rfl
theorem s_X_yields_23 (h : sh i0 = 2) : Ev sh 129 23 [a0, a1, a2] [.int x1, .ref i0] σ Q = Ev sh 11 0 [some (.ref i0), some (.int x1), none, none, none, none] [] σ (fun r s => Ev sh 129 26 [a0, a1, a2] (zpush r []) s Q) := Ev_callh (zrecv_of (by decide) h) rfl
theorem s_X_yields_26 : Ev sh 129 26 [a0, a1, a2] [.int x] σ Q = Q (some (.int x)) σ := Ev_ret rfl
theorem s_X_best_0 : Ev sh 130 0 [a0, some (.int x), a2, a3, a4] st σ Q = Ev sh 130 1 [a0, some (.int x), a2, a3, a4] (.int x :: st) σ Q := Ev_step rfl
theorem s_X_best_1 : Ev sh 130 1 [a0, a1, a2, a3, a4] [.int x0] σ Q = Ev sh 151 0 [some (.int x0)] [] σ (fun r s => Ev sh 130 4 [a0, a1, a2, a3, a4] (zpush r []) s Q) := Ev_call rfl
theorem s_X_best_4 : Ev sh 130 4 [a0, a1, a2, a3, a4] (.int x :: st) σ Q = if x ≠ 0 then Ev sh 130 13 [a0, a1, a2, a3, a4] st σ Q else Ev sh 130 7 [a0, a1, a2, a3, a4] st σ Q := Ev_if rfl
theorem s_X_best_7 : Ev sh 130 7 [some (.ref i), a1, a2, a3, a4] st σ Q = Ev sh 130 8 [some (.ref i), a1, a2, a3, a4] (.ref i :: st) σ Q := Ev_step rfl
theorem s_X_best_8 : Ev sh 130 8 [a0, a1, a2, a3, a4] st σ Q = Ev sh 130 9 [a0, a1, a2, a3, a4] (.int (-1) :: st) σ Q := Ev_step rfl
theorem s_X_best_9 (h : sh i0 = 8) : Ev sh 130 9 [a0, a1, a2, a3, a4] [.int x1, .ref i0] σ Q = Ev sh 146 0 [some (.ref i0), some (.int x1)] [] σ (fun r s => Ev sh 130 12 [a0, a1, a2, a3, a4] (zpush r []) s Q) := Ev_callh (zrecv_of (by decide) h) rfl
theorem s_X_best_12 : Ev sh 130 12 [a0, a1, a2, a3, a4] [.int x] σ Q = Q (some (.int x)) σ := Ev_ret rfl
theorem s_X_best_13 : Ev sh 130 13 [a0, a1, some (.int x), a3, a4] st σ Q = Ev sh 130 14 [a0, a1, some (.int x), a3, a4] (.int x :: st) σ Q := Ev_step rfl
theorem s_X_best_14 : Ev sh 130 14 [a0, a1, a2, a3, a4] st σ Q = Ev sh 130 15 [a0, a1, a2, a3, a4] (.int 0 :: st) σ Q := Ev_step rfl
theorem s_X_best_15 : Ev sh 130 15 [a0, a1, a2, a3, a4] st σ Q = Ev sh 130 17 [a0, a1, a2, a3, a4] (.int 20 :: st) σ Q := Ev_step rfl
theorem s_X_best_17 : Ev sh 130 17 [a0, a1, a2, a3, a4] [.int x2, .int x1, .int x0] σ Q = Ev sh 149 0 [some (.int x0), some (.int x1), some (.int x2)] [] σ (fun r s => Ev sh 130 20 [a0, a1, a2, a3, a4] (zpush r []) s Q) := Ev_call rfl
theorem s_X_best_20 : Ev sh 130 20 [a0, a1, a2, a3, a4] (.int x :: st) σ Q = Ev sh 130 22 [a0, a1, a2, zdrop2 a3, some (.int x)] st σ Q := Ev_step rfl
theorem s_X_best_22 : Ev sh 130 22 [a0, a1, a2, a3, some (.int x)] st σ Q = Ev sh 130 24 [a0, a1, a2, a3, some (.int x)] (.int x :: st) σ Q := Ev_step rfl
theorem s_X_best_24 : Ev sh 130 24 [a0, a1, a2, a3, a4] (.int x :: st) σ Q = if x = 0 then Ev sh 130 34 [a0, a1, a2, a3, a4] st σ Q else Ev sh 130 27 [a0, a1, a2, a3, a4] st σ Q := Ev_if rfl
theorem s_X_best_27 : Ev sh 130 27 [some (.ref i), a1, a2, a3, a4] st σ Q = Ev sh 130 28 [some (.ref i), a1, a2, a3, a4] (.ref i :: st) σ Q := Ev_step rfl
theorem s_X_best_28 : Ev sh 130 28 [a0, a1, a2, a3, some (.int x)] st σ Q = Ev sh 130 30 [a0, a1, a2, a3, some (.int x)] (.int x :: st) σ Q := Ev_step rfl
theorem s_X_best_30 (h : sh i0 = 8) : Ev sh 130 30 [a0, a1, a2, a3, a4] [.int x1, .ref i0] σ Q = Ev sh 146 0 [some (.ref i0), some (.int x1)] [] σ (fun r s => Ev sh 130 33 [a0, a1, a2, a3, a4] (zpush r []) s Q) := Ev_callh (zrecv_of (by decide) h) rfl
theorem s_X_best_33 : Ev sh 130 33 [a0, a1, a2, a3, a4] [.int x] σ Q = Q (some (.int x)) σ := Ev_ret rfl
theorem s_X_best_34 : Ev sh 130 34 [a0, a1, a2, some (.int x), a4] st σ Q = Ev sh 130 35 [a0, a1, a2, some (.int x), a4] (.int x :: st) σ Q := Ev_step rfl
theorem s_X_best_35 : Ev sh 130 35 [a0, a1, a2, a3, a4] (.int x :: st) σ Q = if x = 0 then Ev sh 130 60 [a0, a1, a2, a3, a4] st σ Q else if x = 1 then Ev sh 130 70 [a0, a1, a2, a3, a4] st σ Q else Ev sh 130 89 [a0, a1, a2, a3, a4] st σ Q := (Ev_step (pc' := zsw x 89 [(0, 60), (1, 70)]) rfl).trans (by rw [Ev_swc, Ev_swc]; rfl)
theorem s_X_best_60 : Ev sh 130 60 [some (.ref i), a1, a2, a3, a4] st σ Q = Ev sh 130 61 [some (.ref i), a1, a2, a3, a4] (.ref i :: st) σ Q := Ev_step rfl
theorem s_X_best_61 (h : sh i = 8) : Ev sh 130 61 [a0, a1, a2, a3, a4] (.ref i :: st) σ Q = Ev sh 130 64 [a0, a1, a2, a3, a4] (.ref 26 :: st) σ Q := Ev_h h rfl
theorem s_X_best_64 : Ev sh 130 64 [a0, some (.int x), a2, a3, a4] st σ Q = Ev sh 130 65 [a0, some (.int x), a2, a3, a4] (.int x :: st) σ Q := Ev_step rfl
theorem s_X_best_65 : Ev sh 130 65 [a0, a1, some (.int x), a3, a4] st σ Q = Ev sh 130 66 [a0, a1, some (.int x), a3, a4] (.int x :: st) σ Q := Ev_step rfl
theorem s_X_best_66 (h : sh i0 = 2) : Ev sh 130 66 [a0, a1, a2, a3, a4] [.int x2, .int x1, .ref i0] σ Q = Ev sh 13 0 [some (.ref i0), some (.int x1), some (.int x2), none, none, none, none] [] σ (fun r s => Ev sh 130 69 [a0, a1, a2, a3, a4] (zpush r []) s Q) := Ev_callh (zrecv_of (by decide) h) rfl
theorem s_X_best_69 : Ev sh 130 69 [a0, a1, a2, a3, a4] [.int x] σ Q = Q (some (.int x)) σ := Ev_ret rfl
theorem s_X_best_70 : Ev sh 130 70 [some (.ref i), a1, a2, a3, a4] st σ Q = Ev sh 130 71 [some (.ref i), a1, a2, a3, a4] (.ref i :: st) σ Q := Ev_step rfl
theorem s_X_best_71 (h : sh i = 8) : Ev sh 130 71 [a0, a1, a2, a3, a4] (.ref i :: st) σ Q = Ev sh 130 74 [a0, a1, a2, a3, a4] (.ref 26 :: st) σ Q := Ev_h h rfl
theorem s_X_best_74 : Ev sh 130 74 [a0, some (.int x), a2, a3, a4] st σ Q = Ev sh 130 75 [a0, some (.int x), a2, a3, a4] (.int x :: st) σ Q := Ev_step rfl
theorem s_X_best_75 : Ev sh 130 75 [some (.ref i), a1, a2, a3, a4] st σ Q = Ev sh 130 76 [some (.ref i), a1, a2, a3, a4] (.ref i :: st) σ Q := Ev_step rfl
theorem s_X_best_76 (h : sh i = 8) : Ev sh 130 76 [a0, a1, a2, a3, a4] (.ref i :: st) σ Q = Ev sh 130 79 [a0, a1, a2, a3, a4] (.ref 26 :: st) σ Q := Ev_h h rfl
theorem s_X_best_79 : Ev sh 130 79 [a0, some (.int x), a2, a3, a4] st σ Q = Ev sh 130 80 [a0, some (.int x), a2, a3, a4] (.int x :: st) σ Q := Ev_step rfl
theorem s_X_best_80 : Ev sh 130 80 [a0, a1, some (.int x), a3, a4] st σ Q = Ev sh 130 81 [a0, a1, some (.int x), a3, a4] (.int x :: st) σ Q := Ev_step rfl
theorem s_X_best_81 (h : sh i2 = 2) : Ev sh 130 81 [a0, a1, a2, a3, a4] [.int x4, .int x3, .ref i2, .int x1, .ref i0] σ Q = Ev sh 13 0 [some (.ref i2), some (.int x3), some (.int x4), none, none, none, none] [] σ (fun r s => Ev sh 130 84 [a0, a1, a2, a3, a4] (zpush r [.int x1, .ref i0]) s Q) := Ev_callh (zrecv_of (by decide) h) rfl
theorem s_X_best_84 : Ev sh 130 84 [a0, a1, some (.int x), a3, a4] st σ Q = Ev sh 130 85 [a0, a1, some (.int x), a3, a4] (.int x :: st) σ Q := Ev_step rfl
theorem s_X_best_85 (h : sh i0 = 2) : Ev sh 130 85 [a0, a1, a2, a3, a4] [.int x3, .int x2, .int x1, .ref i0] σ Q = Ev sh 14 0 [some (.ref i0), some (.int x1), some (.int x2), some (.int x3)] [] σ (fun r s => Ev sh 130 88 [a0, a1, a2, a3, a4] (zpush r []) s Q) := Ev_callh (zrecv_of (by decide) h) rfl
theorem s_X_best_88 : Ev sh 130 88 [a0, a1, a2, a3, a4] [.int x] σ Q = Q (some (.int x)) σ := Ev_ret rfl
theorem s_X_best_89 : Ev sh 130 89 [some (.ref i), a1, a2, a3, a4] st σ Q = Ev sh 130 90 [some (.ref i), a1, a2, a3, a4] (.ref i :: st) σ Q := Ev_step rfl
theorem s_X_best_90 : Ev sh 130 90 [a0, a1, a2, a3, a4] st σ Q = Ev sh 130 92 [a0, a1, a2, a3, a4] (.int (-2) :: st) σ Q := Ev_step rfl
theorem s_X_best_92 (h : sh i0 = 8) : Ev sh 130 92 [a0, a1, a2, a3, a4] [.int x1, .ref i0] σ Q = Ev sh 146 0 [some (.ref i0), some (.int x1)] [] σ (fun r s => Ev sh 130 95 [a0, a1, a2, a3, a4] (zpush r []) s Q) := Ev_callh (zrecv_of (by decide) h) rfl
theorem s_X_best_95 : Ev sh 130 95 [a0, a1, a2, a3, a4] [.int x] σ Q = Q (some (.int x)) σ := Ev_ret rfl
theorem s_X_peace_0 : Ev sh 131 0 [some (.ref i)] st σ Q = Ev sh 131 1 [some (.ref i)] (.ref i :: st) σ Q := Ev_step rfl
theorem s_X_peace_1 (h : sh i = 8) : Ev sh 131 1 [a0] (.ref i :: st) σ Q = Ev sh 131 4 [a0] (.ref 26 :: st) σ Q := Ev_h h rfl
theorem s_X_peace_4 (h : sh i0 = 2) : Ev sh 131 4 [a0] [.ref i0] σ Q = Ev sh 15 0 [some (.ref i0), none] [] σ (fun r s => Ev sh 131 7 [a0] (zpush r []) s Q) := Ev_callh (zrecv_of (by decide) h) rfl
theorem s_X_peace_7 : Ev sh 131 7 [a0] [.int x] σ Q = Q (some (.int x)) σ := Ev_ret rfl
theorem s_X_swap_0 : Ev sh 132 0 [a0, some (.int x), a2] st σ Q = Ev sh 132 1 [a0, some (.int x), a2] (.int x :: st) σ Q := Ev_step rfl
theorem s_X_swap_1 : Ev sh 132 1 [a0, a1, a2] st σ Q = Ev sh 132 2 [a0, a1, a2] (.int 0 :: st) σ Q := Ev_step rfl
theorem s_X_swap_2 : Ev sh 132 2 [a0, a1, a2] st σ Q = Ev sh 132 4 [a0, a1, a2] (.int 60 :: st) σ Q := Ev_step rfl
theorem s_X_swap_4 : Ev sh 132 4 [a0, a1, a2] [.int x2, .int x1, .int x0] σ Q = Ev sh 149 0 [some (.int x0), some (.int x1), some (.int x2)] [] σ (fun r s => Ev sh 132 7 [a0, a1, a2] (zpush r []) s Q) := Ev_call rfl
theorem s_X_swap_7 : Ev sh 132 7 [a0, a1, a2] (.int x :: st) σ Q = Ev sh 132 8 [a0, zdrop2 a1, some (.int x)] st σ Q := Ev_step rfl
theorem s_X_swap_8 : Ev sh 132 8 [a0, a1, some (.int x)] st σ Q = Ev sh 132 9 [a0, a1, some (.int x)] (.int x :: st) σ Q := Ev_step rfl
theorem s_X_swap_9 : Ev sh 132 9 [a0, a1, a2] (.int x :: st) σ Q = if x = 0 then Ev sh 132 18 [a0, a1, a2] st σ Q else Ev sh 132 12 [a0, a1, a2] st σ Q := Ev_if rfl
theorem s_X_swap_12 : Ev sh 132 12 [some (.ref i), a1, a2] st σ Q = Ev sh 132 13 [some (.ref i), a1, a2] (.ref i :: st) σ Q := Ev_step rfl
theorem s_X_swap_13 : Ev sh 132 13 [a0, a1, some (.int x)] st σ Q = Ev sh 132 14 [a0, a1, some (.int x)] (.int x :: st) σ Q := Ev_step rfl
theorem s_X_swap_14 (h : sh i0 = 8) : Ev sh 132 14 [a0, a1, a2] [.int x1, .ref i0] σ Q = Ev sh 145 0 [some (.ref i0), some (.int x1), none] [] σ (fun r s => Ev sh 132 17 [a0, a1, a2] (zpush r []) s Q) := Ev_callh (zrecv_of (by decide) h) rfl
theorem s_X_swap_17 : Ev sh 132 17 [a0, a1, a2] [.int x] σ Q = Q (some (.int x)) σ := Ev_ret rfl
theorem s_X_swap_18 : Ev sh 132 18 [some (.ref i), a1, a2] st σ Q = Ev sh 132 19 [some (.ref i), a1, a2] (.ref i :: st) σ Q := Ev_step rfl
theorem s_X_swap_19 (h : sh i = 8) : Ev sh 132 19 [a0, a1, a2] (.ref i :: st) σ Q = Ev sh 132 22 [a0, a1, a2] (.ref 26 :: st) σ Q := Ev_h h rfl
theorem s_X_swap_22 : Ev sh 132 22 [a0, some (.int x), a2] st σ Q = Ev sh 132 23 [a0, some (.int x), a2] (.int x :: st) σ Q := Ev_step rfl
theorem s_X_swap_23 (h : sh i0 = 2) : Ev sh 132 23 [a0, a1, a2] [.int x1, .ref i0] σ Q = Ev sh 16 0 [some (.ref i0), some (.int x1), none] [] σ (fun r s => Ev sh 132 26 [a0, a1, a2] (zpush r []) s Q) := Ev_callh (zrecv_of (by decide) h) rfl
theorem s_X_swap_26 : Ev sh 132 26 [a0, a1, a2] [.int x0] σ Q = Ev sh 155 0 [some (.int x0)] [] σ (fun r s => Ev sh 132 29 [a0, a1, a2] (zpush r []) s Q) := Ev_call rfl
theorem s_X_swap_29 : Ev sh 132 29 [a0, a1, a2] [.int x] σ Q = Q (some (.int x)) σ := Ev_ret rfl
theorem s_X_two_0 : Ev sh 133 0 [a0, some (.int x), a2] st σ Q = Ev sh 133 1 [a0, some (.int x), a2] (.int x :: st) σ Q := Ev_step rfl
theorem s_X_two_1 : Ev sh 133 1 [a0, a1, a2] st σ Q = Ev sh 133 2 [a0, a1, a2] (.int 0 :: st) σ Q := Ev_step rfl
theorem s_X_two_2 : Ev sh 133 2 [a0, a1, a2] st σ Q = Ev sh 133 4 [a0, a1, a2] (.int 30 :: st) σ Q := Ev_step rfl
theorem s_X_two_4 : Ev sh 133 4 [a0, a1, a2] [.int x2, .int x1, .int x0] σ Q = Ev sh 149 0 [some (.int x0), some (.int x1), some (.int x2)] [] σ (fun r s => Ev sh 133 7 [a0, a1, a2] (zpush r []) s Q) := Ev_call rfl
theorem s_X_two_7 : Ev sh 133 7 [a0, a1, a2] (.int x :: st) σ Q = Ev sh 133 8 [a0, zdrop2 a1, some (.int x)] st σ Q := Ev_step rfl
theorem s_X_two_8 : Ev sh 133 8 [a0, a1, some (.int x)] st σ Q = Ev sh 133 9 [a0, a1, some (.int x)] (.int x :: st) σ Q := Ev_step rfl
theorem s_X_two_9 : Ev sh 133 9 [a0, a1, a2] (.int x :: st) σ Q = if x = 0 then Ev sh 133 18 [a0, a1, a2] st σ Q else Ev sh 133 12 [a0, a1, a2] st σ Q := Ev_if rfl
theorem s_X_two_12 : Ev sh 133 12 [some (.ref i), a1, a2] st σ Q = Ev sh 133 13 [some (.ref i), a1, a2] (.ref i :: st) σ Q := Ev_step rfl
theorem s_X_two_13 : Ev sh 133 13 [a0, a1, some (.int x)] st σ Q = Ev sh 133 14 [a0, a1, some (.int x)] (.int x :: st) σ Q := Ev_step rfl
theorem s_X_two_14 (h : sh i0 = 8) : Ev sh 133 14 [a0, a1, a2] [.int x1, .ref i0] σ Q = Ev sh 145 0 [some (.ref i0), some (.int x1), none] [] σ (fun r s => Ev sh 133 17 [a0, a1, a2] (zpush r []) s Q) := Ev_callh (zrecv_of (by decide) h) rfl
theorem s_X_two_17 : Ev sh 133 17 [a0, a1, a2] [.int x] σ Q = Q (some (.int x)) σ := Ev_ret rfl
theorem s_X_two_18 : Ev sh 133 18 [some (.ref i), a1, a2] st σ Q = Ev sh 133 19 [some (.ref i), a1, a2] (.ref i :: st) σ Q := Ev_step rfl
theorem s_X_two_19 (h : sh i = 8) : Ev sh 133 19 [a0, a1, a2] (.ref i :: st) σ Q = Ev sh 133 22 [a0, a1, a2] (.ref 26 :: st) σ Q := Ev_h h rfl
theorem s_X_two_22 : Ev sh 133 22 [a0, some (.int x), a2] st σ Q = Ev sh 133 23 [a0, some (.int x), a2] (.int x :: st) σ Q := Ev_step rfl
theorem s_X_two_23 (h : sh i0 = 2) : Ev sh 133 23 [a0, a1, a2] [.int x1, .ref i0] σ Q = Ev sh 17 0 [some (.ref i0), some (.int x1), none, none, none] [] σ (fun r s => Ev sh 133 26 [a0, a1, a2] (zpush r []) s Q) := Ev_callh (zrecv_of (by decide) h) rfl
theorem s_X_two_26 : Ev sh 133 26 [a0, a1, a2] [.int x] σ Q = Q (some (.int x)) σ := Ev_ret rfl
theorem s_X_fever_0 : Ev sh 134 0 [a0, some (.int x), a2, a3] st σ Q = Ev sh 134 1 [a0, some (.int x), a2, a3] (.int x :: st) σ Q := Ev_step rfl
theorem s_X_fever_1 : Ev sh 134 1 [a0, a1, a2, a3] (.int x :: st) σ Q = if x < 0 then Ev sh 134 9 [a0, a1, a2, a3] st σ Q else Ev sh 134 4 [a0, a1, a2, a3] st σ Q := Ev_if rfl
theorem s_X_fever_4 : Ev sh 134 4 [a0, a1, some (.int x), a3] st σ Q = Ev sh 134 5 [a0, a1, some (.int x), a3] (.int x :: st) σ Q := Ev_step rfl
theorem s_X_fever_5 : Ev sh 134 5 [a0, a1, a2, a3] st σ Q = Ev sh 134 6 [a0, a1, a2, a3] (.int 2 :: st) σ Q := Ev_step rfl
theorem s_X_fever_6 : Ev sh 134 6 [a0, a1, a2, a3] (.int y :: .int x :: st) σ Q = if y ≤ x then Ev sh 134 16 [a0, a1, a2, a3] st σ Q else Ev sh 134 9 [a0, a1, a2, a3] st σ Q := Ev_if rfl
theorem s_X_fever_9 : Ev sh 134 9 [some (.ref i), a1, a2, a3] st σ Q = Ev sh 134 10 [some (.ref i), a1, a2, a3] (.ref i :: st) σ Q := Ev_step rfl
theorem s_X_fever_10 : Ev sh 134 10 [a0, a1, a2, a3] st σ Q = Ev sh 134 12 [a0, a1, a2, a3] (.int (-4) :: st) σ Q := Ev_step rfl
theorem s_X_fever_12 (h : sh i0 = 8) : Ev sh 134 12 [a0, a1, a2, a3] [.int x1, .ref i0] σ Q = Ev sh 147 0 [some (.ref i0), some (.int x1)] [] σ (fun r s => Ev sh 134 15 [a0, a1, a2, a3] (zpush r []) s Q) := Ev_callh (zrecv_of (by decide) h) rfl
theorem s_X_fever_15 : Ev sh 134 15 [a0, a1, a2, a3] [.long u] σ Q = Q (some (.long u)) σ := Ev_ret rfl
theorem s_X_fever_16 : Ev sh 134 16 [a0, some (.int x), a2, a3] st σ Q = Ev sh 134 17 [a0, some (.int x), a2, a3] (.int x :: st) σ Q := Ev_step rfl
theorem s_X_fever_17 : Ev sh 134 17 [a0, a1, a2, a3] st σ Q = Ev sh 134 19 [a0, a1, a2, a3] (.int 7 :: st) σ Q := Ev_step rfl
theorem s_X_fever_19 : Ev sh 134 19 [a0, a1, a2, a3] (.int y :: .int x :: st) σ Q = if y < x then Ev sh 134 28 [a0, a1, a2, a3] st σ Q else Ev sh 134 22 [a0, a1, a2, a3] st σ Q := Ev_if rfl
theorem s_X_fever_22 : Ev sh 134 22 [a0, a1, some (.int x), a3] st σ Q = Ev sh 134 23 [a0, a1, some (.int x), a3] (.int x :: st) σ Q := Ev_step rfl
theorem s_X_fever_23 : Ev sh 134 23 [a0, a1, a2, a3] st σ Q = Ev sh 134 25 [a0, a1, a2, a3] (.int 20 :: st) σ Q := Ev_step rfl
theorem s_X_fever_25 : Ev sh 134 25 [a0, a1, a2, a3] (.int y :: .int x :: st) σ Q = if x ≤ y then Ev sh 134 35 [a0, a1, a2, a3] st σ Q else Ev sh 134 28 [a0, a1, a2, a3] st σ Q := Ev_if rfl
theorem s_X_fever_28 : Ev sh 134 28 [some (.ref i), a1, a2, a3] st σ Q = Ev sh 134 29 [some (.ref i), a1, a2, a3] (.ref i :: st) σ Q := Ev_step rfl
theorem s_X_fever_29 : Ev sh 134 29 [a0, a1, a2, a3] st σ Q = Ev sh 134 31 [a0, a1, a2, a3] (.int (-6) :: st) σ Q := Ev_step rfl
theorem s_X_fever_31 (h : sh i0 = 8) : Ev sh 134 31 [a0, a1, a2, a3] [.int x1, .ref i0] σ Q = Ev sh 147 0 [some (.ref i0), some (.int x1)] [] σ (fun r s => Ev sh 134 34 [a0, a1, a2, a3] (zpush r []) s Q) := Ev_callh (zrecv_of (by decide) h) rfl
theorem s_X_fever_34 : Ev sh 134 34 [a0, a1, a2, a3] [.long u] σ Q = Q (some (.long u)) σ := Ev_ret rfl
theorem s_X_fever_35 : Ev sh 134 35 [a0, a1, a2, some (.int x)] st σ Q = Ev sh 134 36 [a0, a1, a2, some (.int x)] (.int x :: st) σ Q := Ev_step rfl
theorem s_X_fever_36 : Ev sh 134 36 [a0, a1, a2, a3] [.int x0] σ Q = Ev sh 153 0 [some (.int x0)] [] σ (fun r s => Ev sh 134 39 [a0, a1, a2, a3] (zpush r []) s Q) := Ev_call rfl
theorem s_X_fever_39 : Ev sh 134 39 [a0, a1, a2, a3] (.int x :: st) σ Q = if x ≠ 0 then Ev sh 134 49 [a0, a1, a2, a3] st σ Q else Ev sh 134 42 [a0, a1, a2, a3] st σ Q := Ev_if rfl
theorem s_X_fever_42 : Ev sh 134 42 [some (.ref i), a1, a2, a3] st σ Q = Ev sh 134 43 [some (.ref i), a1, a2, a3] (.ref i :: st) σ Q := Ev_step rfl
theorem s_X_fever_43 : Ev sh 134 43 [a0, a1, a2, a3] st σ Q = Ev sh 134 45 [a0, a1, a2, a3] (.int (-2) :: st) σ Q := Ev_step rfl
theorem s_X_fever_45 (h : sh i0 = 8) : Ev sh 134 45 [a0, a1, a2, a3] [.int x1, .ref i0] σ Q = Ev sh 147 0 [some (.ref i0), some (.int x1)] [] σ (fun r s => Ev sh 134 48 [a0, a1, a2, a3] (zpush r []) s Q) := Ev_callh (zrecv_of (by decide) h) rfl
theorem s_X_fever_48 : Ev sh 134 48 [a0, a1, a2, a3] [.long u] σ Q = Q (some (.long u)) σ := Ev_ret rfl
theorem s_X_fever_49 : Ev sh 134 49 [some (.ref i), a1, a2, a3] st σ Q = Ev sh 134 50 [some (.ref i), a1, a2, a3] (.ref i :: st) σ Q := Ev_step rfl
theorem s_X_fever_50 (h : sh i = 8) : Ev sh 134 50 [a0, a1, a2, a3] (.ref i :: st) σ Q = Ev sh 134 53 [a0, a1, a2, a3] (.ref 26 :: st) σ Q := Ev_h h rfl
theorem s_X_fever_53 : Ev sh 134 53 [a0, some (.int x), a2, a3] st σ Q = Ev sh 134 54 [a0, some (.int x), a2, a3] (.int x :: st) σ Q := Ev_step rfl
theorem s_X_fever_54 : Ev sh 134 54 [a0, a1, some (.int x), a3] st σ Q = Ev sh 134 55 [a0, a1, some (.int x), a3] (.int x :: st) σ Q := Ev_step rfl
theorem s_X_fever_55 (h : sh i0 = 2) : Ev sh 134 55 [a0, a1, a2, a3] [.int x2, .int x1, .ref i0] σ Q = Ev sh 19 0 [some (.ref i0), some (.int x1), some (.int x2), none, none, none, none] [] σ (fun r s => Ev sh 134 58 [a0, a1, a2, a3] (zpush r []) s Q) := Ev_callh (zrecv_of (by decide) h) rfl
theorem s_X_fever_58 : Ev sh 134 58 [a0, a1, some (.int x), a3] st σ Q = Ev sh 134 59 [a0, a1, some (.int x), a3] (.int x :: st) σ Q := Ev_step rfl
theorem s_X_fever_59 : Ev sh 134 59 [a0, some (.int x), a2, a3] st σ Q = Ev sh 134 60 [a0, some (.int x), a2, a3] (.int x :: st) σ Q := Ev_step rfl
theorem s_X_fever_60 : Ev sh 134 60 [a0, a1, a2, a3] [.int x2, .int x1, .long u0] σ Q = Ev sh 157 0 [some (.int x1), some (.int x2), none, none, none] [] σ (fun r s => Ev sh 134 63 [a0, a1, a2, a3] (zpush r [.long u0]) s Q) := Ev_call rfl
theorem s_X_fever_63 : Ev sh 134 63 [a0, a1, a2, some (.int x)] st σ Q = Ev sh 134 64 [a0, a1, a2, some (.int x)] (.int x :: st) σ Q := Ev_step rfl
theorem s_X_fever_64 : Ev sh 134 64 [a0, a1, a2, a3] [.int x2, .long u1, .long u0] σ Q = Ev sh 158 0 [some (.long u0), none, some (.long u1), none, some (.int x2), none, none] [] σ (fun r s => Ev sh 134 67 [a0, a1, a2, a3] (zpush r []) s Q) := Ev_call rfl
theorem s_X_fever_67 : Ev sh 134 67 [a0, a1, a2, a3] [.long u] σ Q = Q (some (.long u)) σ := Ev_ret rfl
theorem s_X_mean_0 : Ev sh 135 0 [a0, some (.int x)] st σ Q = Ev sh 135 1 [a0, some (.int x)] (.int x :: st) σ Q := Ev_step rfl
theorem s_X_mean_1 : Ev sh 135 1 [a0, a1] [.int x0] σ Q = Ev sh 153 0 [some (.int x0)] [] σ (fun r s => Ev sh 135 4 [a0, a1] (zpush r []) s Q) := Ev_call rfl
theorem s_X_mean_4 : Ev sh 135 4 [a0, a1] (.int x :: st) σ Q = if x ≠ 0 then Ev sh 135 14 [a0, a1] st σ Q else Ev sh 135 7 [a0, a1] st σ Q := Ev_if rfl
theorem s_X_mean_7 : Ev sh 135 7 [some (.ref i), a1] st σ Q = Ev sh 135 8 [some (.ref i), a1] (.ref i :: st) σ Q := Ev_step rfl
theorem s_X_mean_8 : Ev sh 135 8 [a0, a1] st σ Q = Ev sh 135 10 [a0, a1] (.int (-2) :: st) σ Q := Ev_step rfl
theorem s_X_mean_10 (h : sh i0 = 8) : Ev sh 135 10 [a0, a1] [.int x1, .ref i0] σ Q = Ev sh 147 0 [some (.ref i0), some (.int x1)] [] σ (fun r s => Ev sh 135 13 [a0, a1] (zpush r []) s Q) := Ev_callh (zrecv_of (by decide) h) rfl
theorem s_X_mean_13 : Ev sh 135 13 [a0, a1] [.long u] σ Q = Q (some (.long u)) σ := Ev_ret rfl
theorem s_X_mean_14 : Ev sh 135 14 [some (.ref i), a1] st σ Q = Ev sh 135 15 [some (.ref i), a1] (.ref i :: st) σ Q := Ev_step rfl
theorem s_X_mean_15 (h : sh i = 8) : Ev sh 135 15 [a0, a1] (.ref i :: st) σ Q = Ev sh 135 18 [a0, a1] (.ref 1 :: st) σ Q := Ev_h h rfl
theorem s_X_mean_18 (h : sh i = 0) : Ev sh 135 18 [a0, a1] (.ref i :: st) σ Q = Ev sh 135 21 [a0, a1] (.ref (i + 1) :: st) σ Q := Ev_h h rfl
theorem s_X_mean_21 (h : sh i0 = 7) : Ev sh 135 21 [a0, a1] [.ref i0] σ Q = Ev sh 96 0 [some (.ref i0), none, none] [] σ (fun r s => Ev sh 135 24 [a0, a1] (zpush r []) s Q) := Ev_callh (zrecv_of (by decide) h) rfl
theorem s_X_mean_24 : Ev sh 135 24 [a0, a1] (.int x :: st) σ Q = Ev sh 135 25 [a0, a1] (.long x.toInt64 :: st) σ Q := Ev_step rfl
theorem s_X_mean_25 : Ev sh 135 25 [some (.ref i), a1] st σ Q = Ev sh 135 26 [some (.ref i), a1] (.ref i :: st) σ Q := Ev_step rfl
theorem s_X_mean_26 (h : sh i = 8) : Ev sh 135 26 [a0, a1] (.ref i :: st) σ Q = Ev sh 135 29 [a0, a1] (.ref 1 :: st) σ Q := Ev_h h rfl
theorem s_X_mean_29 (h : sh i = 0) : Ev sh 135 29 [a0, a1] (.ref i :: st) σ Q = Ev sh 135 32 [a0, a1] (.ref (i + 1) :: st) σ Q := Ev_h h rfl
theorem s_X_mean_32 (h : sh i1 = 7) : Ev sh 135 32 [a0, a1] [.ref i1, .long u0] σ Q = Ev sh 70 0 [some (.ref i1)] [] σ (fun r s => Ev sh 135 35 [a0, a1] (zpush r [.long u0]) s Q) := Ev_callh (zrecv_of (by decide) h) rfl
theorem s_X_mean_35 : Ev sh 135 35 [a0, a1] (.int x :: st) σ Q = Ev sh 135 36 [a0, a1] (.long x.toInt64 :: st) σ Q := Ev_step rfl
theorem s_X_mean_36 : Ev sh 135 36 [a0, some (.int x)] st σ Q = Ev sh 135 37 [a0, some (.int x)] (.int x :: st) σ Q := Ev_step rfl
theorem s_X_mean_37 : Ev sh 135 37 [a0, a1] [.int x2, .long u1, .long u0] σ Q = Ev sh 158 0 [some (.long u0), none, some (.long u1), none, some (.int x2), none, none] [] σ (fun r s => Ev sh 135 40 [a0, a1] (zpush r []) s Q) := Ev_call rfl
theorem s_X_mean_40 : Ev sh 135 40 [a0, a1] [.long u] σ Q = Q (some (.long u)) σ := Ev_ret rfl
theorem s_X_whoLaid_0 : Ev sh 136 0 [some (.ref i), a1] st σ Q = Ev sh 136 1 [some (.ref i), a1] (.ref i :: st) σ Q := Ev_step rfl
theorem s_X_whoLaid_1 (h : sh i = 8) : Ev sh 136 1 [a0, a1] (.ref i :: st) σ Q = Ev sh 136 4 [a0, a1] (.ref 1 :: st) σ Q := Ev_h h rfl
theorem s_X_whoLaid_4 (h : sh i = 0) : Ev sh 136 4 [a0, a1] (.ref i :: st) σ Q = Ev sh 136 7 [a0, a1] (.ref (i + 1) :: st) σ Q := Ev_h h rfl
theorem s_X_whoLaid_7 : Ev sh 136 7 [a0, some (.int x)] st σ Q = Ev sh 136 8 [a0, some (.int x)] (.int x :: st) σ Q := Ev_step rfl
theorem s_X_whoLaid_8 (h : sh i0 = 7) : Ev sh 136 8 [a0, a1] [.int x1, .ref i0] σ Q = Ev sh 72 0 [some (.ref i0), some (.int x1)] [] σ (fun r s => Ev sh 136 11 [a0, a1] (zpush r []) s Q) := Ev_callh (zrecv_of (by decide) h) rfl
theorem s_X_whoLaid_11 : Ev sh 136 11 [a0, a1] (.int x :: st) σ Q = if x ≠ 0 then Ev sh 136 20 [a0, a1] st σ Q else Ev sh 136 14 [a0, a1] st σ Q := Ev_if rfl
theorem s_X_whoLaid_14 : Ev sh 136 14 [some (.ref i), a1] st σ Q = Ev sh 136 15 [some (.ref i), a1] (.ref i :: st) σ Q := Ev_step rfl
theorem s_X_whoLaid_15 : Ev sh 136 15 [a0, a1] st σ Q = Ev sh 136 16 [a0, a1] (.int (-1) :: st) σ Q := Ev_step rfl
theorem s_X_whoLaid_16 (h : sh i0 = 8) : Ev sh 136 16 [a0, a1] [.int x1, .ref i0] σ Q = Ev sh 145 0 [some (.ref i0), some (.int x1), none] [] σ (fun r s => Ev sh 136 19 [a0, a1] (zpush r []) s Q) := Ev_callh (zrecv_of (by decide) h) rfl
theorem s_X_whoLaid_19 : Ev sh 136 19 [a0, a1] [.int x] σ Q = Q (some (.int x)) σ := Ev_ret rfl
theorem s_X_whoLaid_20 : Ev sh 136 20 [some (.ref i), a1] st σ Q = Ev sh 136 21 [some (.ref i), a1] (.ref i :: st) σ Q := Ev_step rfl
theorem s_X_whoLaid_21 (h : sh i = 8) : Ev sh 136 21 [a0, a1] (.ref i :: st) σ Q = Ev sh 136 24 [a0, a1] (.ref 36 :: st) σ Q := Ev_h h rfl
theorem s_X_whoLaid_24 : Ev sh 136 24 [a0, some (.int x)] st σ Q = Ev sh 136 25 [a0, some (.int x)] (.int x :: st) σ Q := Ev_step rfl
theorem s_X_whoLaid_25 : Ev sh 136 25 [some (.ref i), a1] st σ Q = Ev sh 136 26 [some (.ref i), a1] (.ref i :: st) σ Q := Ev_step rfl
theorem s_X_whoLaid_26 (h : sh i = 8) : Ev sh 136 26 [a0, a1] (.ref i :: st) σ Q = Ev sh 136 29 [a0, a1] (.ref 24 :: st) σ Q := Ev_h h rfl
theorem s_X_whoLaid_29 (h : sh i0 = 5) : Ev sh 136 29 [a0, a1] [.ref i2, .int x1, .ref i0] σ Q = Ev sh 54 0 [some (.ref i0), some (.int x1), some (.ref i2), none, none] [] σ (fun r s => Ev sh 136 32 [a0, a1] (zpush r []) s Q) := Ev_callh (zrecv_of (by decide) h) rfl
theorem s_X_whoLaid_32 : Ev sh 136 32 [a0, a1] [.int x] σ Q = Q (some (.int x)) σ := Ev_ret rfl
theorem s_X_whatIs_0 : Ev sh 137 0 [some (.ref i), a1, a2] st σ Q = Ev sh 137 1 [some (.ref i), a1, a2] (.ref i :: st) σ Q := Ev_step rfl
theorem s_X_whatIs_1 (h : sh i = 8) : Ev sh 137 1 [a0, a1, a2] (.ref i :: st) σ Q = Ev sh 137 4 [a0, a1, a2] (.ref 1 :: st) σ Q := Ev_h h rfl
theorem s_X_whatIs_4 (h : sh i = 0) : Ev sh 137 4 [a0, a1, a2] (.ref i :: st) σ Q = Ev sh 137 7 [a0, a1, a2] (.ref (i + 1) :: st) σ Q := Ev_h h rfl
theorem s_X_whatIs_7 : Ev sh 137 7 [a0, some (.int x), a2] st σ Q = Ev sh 137 8 [a0, some (.int x), a2] (.int x :: st) σ Q := Ev_step rfl
theorem s_X_whatIs_8 (h : sh i0 = 7) : Ev sh 137 8 [a0, a1, a2] [.int x1, .ref i0] σ Q = Ev sh 72 0 [some (.ref i0), some (.int x1)] [] σ (fun r s => Ev sh 137 11 [a0, a1, a2] (zpush r []) s Q) := Ev_callh (zrecv_of (by decide) h) rfl
theorem s_X_whatIs_11 : Ev sh 137 11 [a0, a1, a2] (.int x :: st) σ Q = if x ≠ 0 then Ev sh 137 20 [a0, a1, a2] st σ Q else Ev sh 137 14 [a0, a1, a2] st σ Q := Ev_if rfl
theorem s_X_whatIs_14 : Ev sh 137 14 [some (.ref i), a1, a2] st σ Q = Ev sh 137 15 [some (.ref i), a1, a2] (.ref i :: st) σ Q := Ev_step rfl
theorem s_X_whatIs_15 : Ev sh 137 15 [a0, a1, a2] st σ Q = Ev sh 137 16 [a0, a1, a2] (.int (-1) :: st) σ Q := Ev_step rfl
theorem s_X_whatIs_16 (h : sh i0 = 8) : Ev sh 137 16 [a0, a1, a2] [.int x1, .ref i0] σ Q = Ev sh 145 0 [some (.ref i0), some (.int x1), none] [] σ (fun r s => Ev sh 137 19 [a0, a1, a2] (zpush r []) s Q) := Ev_callh (zrecv_of (by decide) h) rfl
theorem s_X_whatIs_19 : Ev sh 137 19 [a0, a1, a2] [.int x] σ Q = Q (some (.int x)) σ := Ev_ret rfl
theorem s_X_whatIs_20 : Ev sh 137 20 [a0, a1, some (.int x)] st σ Q = Ev sh 137 21 [a0, a1, some (.int x)] (.int x :: st) σ Q := Ev_step rfl
theorem s_X_whatIs_21 : Ev sh 137 21 [a0, a1, a2] (.int x :: st) σ Q = if x = 0 then Ev sh 137 48 [a0, a1, a2] st σ Q else if x = 1 then Ev sh 137 61 [a0, a1, a2] st σ Q else Ev sh 137 74 [a0, a1, a2] st σ Q := (Ev_step (pc' := zsw x 74 [(0, 48), (1, 61)]) rfl).trans (by rw [Ev_swc, Ev_swc]; rfl)
theorem s_X_whatIs_48 : Ev sh 137 48 [some (.ref i), a1, a2] st σ Q = Ev sh 137 49 [some (.ref i), a1, a2] (.ref i :: st) σ Q := Ev_step rfl
theorem s_X_whatIs_49 (h : sh i = 8) : Ev sh 137 49 [a0, a1, a2] (.ref i :: st) σ Q = Ev sh 137 52 [a0, a1, a2] (.ref 36 :: st) σ Q := Ev_h h rfl
theorem s_X_whatIs_52 : Ev sh 137 52 [a0, some (.int x), a2] st σ Q = Ev sh 137 53 [a0, some (.int x), a2] (.int x :: st) σ Q := Ev_step rfl
theorem s_X_whatIs_53 : Ev sh 137 53 [some (.ref i), a1, a2] st σ Q = Ev sh 137 54 [some (.ref i), a1, a2] (.ref i :: st) σ Q := Ev_step rfl
theorem s_X_whatIs_54 (h : sh i = 8) : Ev sh 137 54 [a0, a1, a2] (.ref i :: st) σ Q = Ev sh 137 57 [a0, a1, a2] (.ref 24 :: st) σ Q := Ev_h h rfl
theorem s_X_whatIs_57 (h : sh i0 = 5) : Ev sh 137 57 [a0, a1, a2] [.ref i2, .int x1, .ref i0] σ Q = Ev sh 55 0 [some (.ref i0), some (.int x1), some (.ref i2), none, none] [] σ (fun r s => Ev sh 137 60 [a0, a1, a2] (zpush r []) s Q) := Ev_callh (zrecv_of (by decide) h) rfl
theorem s_X_whatIs_60 : Ev sh 137 60 [a0, a1, a2] [.int x] σ Q = Q (some (.int x)) σ := Ev_ret rfl
theorem s_X_whatIs_61 : Ev sh 137 61 [some (.ref i), a1, a2] st σ Q = Ev sh 137 62 [some (.ref i), a1, a2] (.ref i :: st) σ Q := Ev_step rfl
theorem s_X_whatIs_62 (h : sh i = 8) : Ev sh 137 62 [a0, a1, a2] (.ref i :: st) σ Q = Ev sh 137 65 [a0, a1, a2] (.ref 36 :: st) σ Q := Ev_h h rfl
theorem s_X_whatIs_65 : Ev sh 137 65 [a0, some (.int x), a2] st σ Q = Ev sh 137 66 [a0, some (.int x), a2] (.int x :: st) σ Q := Ev_step rfl
theorem s_X_whatIs_66 : Ev sh 137 66 [some (.ref i), a1, a2] st σ Q = Ev sh 137 67 [some (.ref i), a1, a2] (.ref i :: st) σ Q := Ev_step rfl
theorem s_X_whatIs_67 (h : sh i = 8) : Ev sh 137 67 [a0, a1, a2] (.ref i :: st) σ Q = Ev sh 137 70 [a0, a1, a2] (.ref 24 :: st) σ Q := Ev_h h rfl
theorem s_X_whatIs_70 (h : sh i0 = 5) : Ev sh 137 70 [a0, a1, a2] [.ref i2, .int x1, .ref i0] σ Q = Ev sh 56 0 [some (.ref i0), some (.int x1), some (.ref i2), none, none] [] σ (fun r s => Ev sh 137 73 [a0, a1, a2] (zpush r []) s Q) := Ev_callh (zrecv_of (by decide) h) rfl
theorem s_X_whatIs_73 : Ev sh 137 73 [a0, a1, a2] [.int x] σ Q = Q (some (.int x)) σ := Ev_ret rfl
theorem s_X_whatIs_74 : Ev sh 137 74 [some (.ref i), a1, a2] st σ Q = Ev sh 137 75 [some (.ref i), a1, a2] (.ref i :: st) σ Q := Ev_step rfl
theorem s_X_whatIs_75 : Ev sh 137 75 [a0, a1, a2] st σ Q = Ev sh 137 77 [a0, a1, a2] (.int (-2) :: st) σ Q := Ev_step rfl
theorem s_X_whatIs_77 (h : sh i0 = 8) : Ev sh 137 77 [a0, a1, a2] [.int x1, .ref i0] σ Q = Ev sh 145 0 [some (.ref i0), some (.int x1), none] [] σ (fun r s => Ev sh 137 80 [a0, a1, a2] (zpush r []) s Q) := Ev_callh (zrecv_of (by decide) h) rfl
theorem s_X_whatIs_80 : Ev sh 137 80 [a0, a1, a2] [.int x] σ Q = Q (some (.int x)) σ := Ev_ret rfl
theorem s_X_row_0 : Ev sh 138 0 [a0, some (.int x), a2] st σ Q = Ev sh 138 1 [a0, some (.int x), a2] (.int x :: st) σ Q := Ev_step rfl
theorem s_X_row_1 : Ev sh 138 1 [a0, a1, a2] st σ Q = Ev sh 138 2 [a0, a1, a2] (.int 0 :: st) σ Q := Ev_step rfl
theorem s_X_row_2 : Ev sh 138 2 [a0, a1, a2] st σ Q = Ev sh 138 4 [a0, a1, a2] (.int 99 :: st) σ Q := Ev_step rfl
theorem s_X_row_4 : Ev sh 138 4 [a0, a1, a2] [.int x2, .int x1, .int x0] σ Q = Ev sh 149 0 [some (.int x0), some (.int x1), some (.int x2)] [] σ (fun r s => Ev sh 138 7 [a0, a1, a2] (zpush r []) s Q) := Ev_call rfl
theorem s_X_row_7 : Ev sh 138 7 [a0, a1, a2] (.int x :: st) σ Q = Ev sh 138 8 [a0, zdrop2 a1, some (.int x)] st σ Q := Ev_step rfl
theorem s_X_row_8 : Ev sh 138 8 [a0, a1, some (.int x)] st σ Q = Ev sh 138 9 [a0, a1, some (.int x)] (.int x :: st) σ Q := Ev_step rfl
theorem s_X_row_9 : Ev sh 138 9 [a0, a1, a2] (.int x :: st) σ Q = if x = 0 then Ev sh 138 18 [a0, a1, a2] st σ Q else Ev sh 138 12 [a0, a1, a2] st σ Q := Ev_if rfl
theorem s_X_row_12 : Ev sh 138 12 [some (.ref i), a1, a2] st σ Q = Ev sh 138 13 [some (.ref i), a1, a2] (.ref i :: st) σ Q := Ev_step rfl
theorem s_X_row_13 : Ev sh 138 13 [a0, a1, some (.int x)] st σ Q = Ev sh 138 14 [a0, a1, some (.int x)] (.int x :: st) σ Q := Ev_step rfl
theorem s_X_row_14 (h : sh i0 = 8) : Ev sh 138 14 [a0, a1, a2] [.int x1, .ref i0] σ Q = Ev sh 145 0 [some (.ref i0), some (.int x1), none] [] σ (fun r s => Ev sh 138 17 [a0, a1, a2] (zpush r []) s Q) := Ev_callh (zrecv_of (by decide) h) rfl
theorem s_X_row_17 : Ev sh 138 17 [a0, a1, a2] [.int x] σ Q = Q (some (.int x)) σ := Ev_ret rfl
theorem s_X_row_18 : Ev sh 138 18 [some (.ref i), a1, a2] st σ Q = Ev sh 138 19 [some (.ref i), a1, a2] (.ref i :: st) σ Q := Ev_step rfl
theorem s_X_row_19 (h : sh i = 8) : Ev sh 138 19 [a0, a1, a2] (.ref i :: st) σ Q = Ev sh 138 22 [a0, a1, a2] (.ref 24 :: st) σ Q := Ev_h h rfl
theorem s_X_row_22 (h : sh i0 = 6) : Ev sh 138 22 [a0, a1, a2] [.ref i0] σ Q = Ev sh 58 0 [some (.ref i0)] [] σ (fun r s => Ev sh 138 25 [a0, a1, a2] (zpush r []) s Q) := Ev_callh (zrecv_of (by decide) h) rfl
theorem s_X_row_25 : Ev sh 138 25 [a0, a1, a2] (.int x :: st) σ Q = if x = 0 then Ev sh 138 35 [a0, a1, a2] st σ Q else Ev sh 138 28 [a0, a1, a2] st σ Q := Ev_if rfl
theorem s_X_row_28 : Ev sh 138 28 [some (.ref i), a1, a2] st σ Q = Ev sh 138 29 [some (.ref i), a1, a2] (.ref i :: st) σ Q := Ev_step rfl
theorem s_X_row_29 : Ev sh 138 29 [a0, a1, a2] st σ Q = Ev sh 138 31 [a0, a1, a2] (.int (-6) :: st) σ Q := Ev_step rfl
theorem s_X_row_31 (h : sh i0 = 8) : Ev sh 138 31 [a0, a1, a2] [.int x1, .ref i0] σ Q = Ev sh 145 0 [some (.ref i0), some (.int x1), none] [] σ (fun r s => Ev sh 138 34 [a0, a1, a2] (zpush r []) s Q) := Ev_callh (zrecv_of (by decide) h) rfl
theorem s_X_row_34 : Ev sh 138 34 [a0, a1, a2] [.int x] σ Q = Q (some (.int x)) σ := Ev_ret rfl
theorem s_X_row_35 : Ev sh 138 35 [some (.ref i), a1, a2] st σ Q = Ev sh 138 36 [some (.ref i), a1, a2] (.ref i :: st) σ Q := Ev_step rfl
theorem s_X_row_36 (h : sh i = 8) : Ev sh 138 36 [a0, a1, a2] (.ref i :: st) σ Q = Ev sh 138 39 [a0, a1, a2] (.ref 24 :: st) σ Q := Ev_h h rfl
theorem s_X_row_39 : Ev sh 138 39 [a0, some (.int x), a2] st σ Q = Ev sh 138 40 [a0, some (.int x), a2] (.int x :: st) σ Q := Ev_step rfl
theorem s_X_row_40 (h : sh i0 = 6) : Ev sh 138 40 [a0, a1, a2] [.int x1, .ref i0] σ Q = Ev sh 59 0 [some (.ref i0), some (.int x1)] [] σ (fun r s => Ev sh 138 43 [a0, a1, a2] (zpush r []) s Q) := Ev_callh (zrecv_of (by decide) h) rfl
theorem s_X_row_43 : Ev sh 138 43 [some (.ref i), a1, a2] st σ Q = Ev sh 138 44 [some (.ref i), a1, a2] (.ref i :: st) σ Q := Ev_step rfl
theorem s_X_row_44 (h : sh i = 8) : Ev sh 138 44 [a0, a1, a2] (.ref i :: st) σ Q = Ev sh 138 47 [a0, a1, a2] (.ref 24 :: st) σ Q := Ev_h h rfl
theorem s_X_row_47 (h : sh i0 = 6) : Ev sh 138 47 [a0, a1, a2] [.ref i0] σ Q = Ev sh 57 0 [some (.ref i0)] [] σ (fun r s => Ev sh 138 50 [a0, a1, a2] (zpush r []) s Q) := Ev_callh (zrecv_of (by decide) h) rfl
theorem s_X_row_50 : Ev sh 138 50 [a0, a1, a2] [.int x] σ Q = Q (some (.int x)) σ := Ev_ret rfl
theorem s_X_judge_0 : Ev sh 139 0 [some (.ref i), a1] st σ Q = Ev sh 139 1 [some (.ref i), a1] (.ref i :: st) σ Q := Ev_step rfl
theorem s_X_judge_1 (h : sh i = 8) : Ev sh 139 1 [a0, a1] (.ref i :: st) σ Q = Ev sh 139 4 [a0, a1] (.ref 24 :: st) σ Q := Ev_h h rfl
theorem s_X_judge_4 : Ev sh 139 4 [some (.ref i), a1] st σ Q = Ev sh 139 5 [some (.ref i), a1] (.ref i :: st) σ Q := Ev_step rfl
theorem s_X_judge_5 (h : sh i = 8) : Ev sh 139 5 [a0, a1] (.ref i :: st) σ Q = Ev sh 139 8 [a0, a1] (.ref 1 :: st) σ Q := Ev_h h rfl
theorem s_X_judge_8 (h : sh i = 0) : Ev sh 139 8 [a0, a1] (.ref i :: st) σ Q = Ev sh 139 11 [a0, a1] (.ref (i + 1) :: st) σ Q := Ev_h h rfl
theorem s_X_judge_11 (h : sh i0 = 6) : Ev sh 139 11 [a0, a1] [.ref i1, .ref i0] σ Q = Ev sh 62 0 [some (.ref i0), some (.ref i1), none, none] [] σ (fun r s => Ev sh 139 14 [a0, a1] (zpush r []) s Q) := Ev_callh (zrecv_of (by decide) h) rfl
theorem s_X_judge_14 : Ev sh 139 14 [a0, a1] (.int x :: st) σ Q = Ev sh 139 15 [zdrop2 a0, some (.int x)] st σ Q := Ev_step rfl
theorem s_X_judge_15 : Ev sh 139 15 [some (.ref i), a1] st σ Q = Ev sh 139 16 [some (.ref i), a1] (.ref i :: st) σ Q := Ev_step rfl
theorem s_X_judge_16 (h : sh i = 8) : Ev sh 139 16 [a0, a1] (.ref i :: st) σ Q = Ev sh 139 19 [a0, a1] (.ref 24 :: st) σ Q := Ev_h h rfl
theorem s_X_judge_19 (h : sh i0 = 6) : Ev sh 139 19 [a0, a1] [.ref i0] σ Q = Ev sh 60 0 [some (.ref i0)] [] σ (fun r s => Ev sh 139 22 [a0, a1] (zpush r []) s Q) := Ev_callh (zrecv_of (by decide) h) rfl
theorem s_X_judge_22 : Ev sh 139 22 [a0, some (.int x)] st σ Q = Ev sh 139 23 [a0, some (.int x)] (.int x :: st) σ Q := Ev_step rfl
theorem s_X_judge_23 : Ev sh 139 23 [a0, a1] [.int x] σ Q = Q (some (.int x)) σ := Ev_ret rfl
theorem s_X_clear_0 : Ev sh 140 0 [some (.ref i), a1] st σ Q = Ev sh 140 1 [some (.ref i), a1] (.ref i :: st) σ Q := Ev_step rfl
theorem s_X_clear_1 (h : sh i = 8) : Ev sh 140 1 [a0, a1] (.ref i :: st) σ Q = Ev sh 140 4 [a0, a1] (.ref 24 :: st) σ Q := Ev_h h rfl
theorem s_X_clear_4 (h : sh i0 = 6) : Ev sh 140 4 [a0, a1] [.ref i0] σ Q = Ev sh 57 0 [some (.ref i0)] [] σ (fun r s => Ev sh 140 7 [a0, a1] (zpush r []) s Q) := Ev_callh (zrecv_of (by decide) h) rfl
theorem s_X_clear_7 : Ev sh 140 7 [a0, a1] (.int x :: st) σ Q = Ev sh 140 8 [zdrop2 a0, some (.int x)] st σ Q := Ev_step rfl
theorem s_X_clear_8 : Ev sh 140 8 [some (.ref i), a1] st σ Q = Ev sh 140 9 [some (.ref i), a1] (.ref i :: st) σ Q := Ev_step rfl
theorem s_X_clear_9 (h : sh i = 8) : Ev sh 140 9 [a0, a1] (.ref i :: st) σ Q = Ev sh 140 12 [a0, a1] (.ref 24 :: st) σ Q := Ev_h h rfl
theorem s_X_clear_12 (h : sh i0 = 6) : Ev sh 140 12 [a0, a1] [.ref i0] σ Q = Ev sh 60 0 [some (.ref i0)] [] σ (fun r s => Ev sh 140 15 [a0, a1] (zpush r []) s Q) := Ev_callh (zrecv_of (by decide) h) rfl
theorem s_X_clear_15 : Ev sh 140 15 [a0, some (.int x)] st σ Q = Ev sh 140 16 [a0, some (.int x)] (.int x :: st) σ Q := Ev_step rfl
theorem s_X_clear_16 : Ev sh 140 16 [a0, a1] [.int x] σ Q = Q (some (.int x)) σ := Ev_ret rfl
theorem s_X_lots_0 : Ev sh 141 0 [a0, some (.int x), a2, a3, a4] st σ Q = Ev sh 141 1 [a0, some (.int x), a2, a3, a4] (.int x :: st) σ Q := Ev_step rfl
theorem s_X_lots_1 : Ev sh 141 1 [a0, a1, a2, a3, a4] st σ Q = Ev sh 141 2 [a0, a1, a2, a3, a4] (.int 1 :: st) σ Q := Ev_step rfl
theorem s_X_lots_2 : Ev sh 141 2 [a0, a1, a2, a3, a4] st σ Q = Ev sh 141 4 [a0, a1, a2, a3, a4] (.int 20 :: st) σ Q := Ev_step rfl
theorem s_X_lots_4 : Ev sh 141 4 [a0, a1, a2, a3, a4] [.int x2, .int x1, .int x0] σ Q = Ev sh 149 0 [some (.int x0), some (.int x1), some (.int x2)] [] σ (fun r s => Ev sh 141 7 [a0, a1, a2, a3, a4] (zpush r []) s Q) := Ev_call rfl
theorem s_X_lots_7 : Ev sh 141 7 [a0, a1, a2, a3, a4] (.int x :: st) σ Q = Ev sh 141 9 [a0, a1, a2, zdrop2 a3, some (.int x)] st σ Q := Ev_step rfl
theorem s_X_lots_9 : Ev sh 141 9 [a0, a1, a2, a3, some (.int x)] st σ Q = Ev sh 141 11 [a0, a1, a2, a3, some (.int x)] (.int x :: st) σ Q := Ev_step rfl
theorem s_X_lots_11 : Ev sh 141 11 [a0, a1, a2, a3, a4] (.int x :: st) σ Q = if x = 0 then Ev sh 141 21 [a0, a1, a2, a3, a4] st σ Q else Ev sh 141 14 [a0, a1, a2, a3, a4] st σ Q := Ev_if rfl
theorem s_X_lots_14 : Ev sh 141 14 [some (.ref i), a1, a2, a3, a4] st σ Q = Ev sh 141 15 [some (.ref i), a1, a2, a3, a4] (.ref i :: st) σ Q := Ev_step rfl
theorem s_X_lots_15 : Ev sh 141 15 [a0, a1, a2, a3, some (.int x)] st σ Q = Ev sh 141 17 [a0, a1, a2, a3, some (.int x)] (.int x :: st) σ Q := Ev_step rfl
theorem s_X_lots_17 (h : sh i0 = 8) : Ev sh 141 17 [a0, a1, a2, a3, a4] [.int x1, .ref i0] σ Q = Ev sh 145 0 [some (.ref i0), some (.int x1), none] [] σ (fun r s => Ev sh 141 20 [a0, a1, a2, a3, a4] (zpush r []) s Q) := Ev_callh (zrecv_of (by decide) h) rfl
theorem s_X_lots_20 : Ev sh 141 20 [a0, a1, a2, a3, a4] [.int x] σ Q = Q (some (.int x)) σ := Ev_ret rfl
theorem s_X_lots_21 : Ev sh 141 21 [a0, a1, a2, some (.int x), a4] st σ Q = Ev sh 141 22 [a0, a1, a2, some (.int x), a4] (.int x :: st) σ Q := Ev_step rfl
theorem s_X_lots_22 : Ev sh 141 22 [a0, a1, a2, a3, a4] (.int x :: st) σ Q = if x = 0 then Ev sh 141 48 [a0, a1, a2, a3, a4] st σ Q else if x = 1 then Ev sh 141 58 [a0, a1, a2, a3, a4] st σ Q else Ev sh 141 68 [a0, a1, a2, a3, a4] st σ Q := (Ev_step (pc' := zsw x 68 [(0, 48), (1, 58)]) rfl).trans (by rw [Ev_swc, Ev_swc]; rfl)
theorem s_X_lots_48 : Ev sh 141 48 [some (.ref i), a1, a2, a3, a4] st σ Q = Ev sh 141 49 [some (.ref i), a1, a2, a3, a4] (.ref i :: st) σ Q := Ev_step rfl
theorem s_X_lots_49 (h : sh i = 8) : Ev sh 141 49 [a0, a1, a2, a3, a4] (.ref i :: st) σ Q = Ev sh 141 52 [a0, a1, a2, a3, a4] (.ref 26 :: st) σ Q := Ev_h h rfl
theorem s_X_lots_52 : Ev sh 141 52 [a0, some (.int x), a2, a3, a4] st σ Q = Ev sh 141 53 [a0, some (.int x), a2, a3, a4] (.int x :: st) σ Q := Ev_step rfl
theorem s_X_lots_53 : Ev sh 141 53 [a0, a1, some (.int x), a3, a4] st σ Q = Ev sh 141 54 [a0, a1, some (.int x), a3, a4] (.int x :: st) σ Q := Ev_step rfl
theorem s_X_lots_54 (h : sh i0 = 2) : Ev sh 141 54 [a0, a1, a2, a3, a4] [.int x2, .int x1, .ref i0] σ Q = Ev sh 20 0 [some (.ref i0), some (.int x1), some (.int x2), none, none] [] σ (fun r s => Ev sh 141 57 [a0, a1, a2, a3, a4] (zpush r []) s Q) := Ev_callh (zrecv_of (by decide) h) rfl
theorem s_X_lots_57 : Ev sh 141 57 [a0, a1, a2, a3, a4] [.int x] σ Q = Q (some (.int x)) σ := Ev_ret rfl
theorem s_X_lots_58 : Ev sh 141 58 [some (.ref i), a1, a2, a3, a4] st σ Q = Ev sh 141 59 [some (.ref i), a1, a2, a3, a4] (.ref i :: st) σ Q := Ev_step rfl
theorem s_X_lots_59 (h : sh i = 8) : Ev sh 141 59 [a0, a1, a2, a3, a4] (.ref i :: st) σ Q = Ev sh 141 62 [a0, a1, a2, a3, a4] (.ref 26 :: st) σ Q := Ev_h h rfl
theorem s_X_lots_62 : Ev sh 141 62 [a0, some (.int x), a2, a3, a4] st σ Q = Ev sh 141 63 [a0, some (.int x), a2, a3, a4] (.int x :: st) σ Q := Ev_step rfl
theorem s_X_lots_63 : Ev sh 141 63 [a0, a1, some (.int x), a3, a4] st σ Q = Ev sh 141 64 [a0, a1, some (.int x), a3, a4] (.int x :: st) σ Q := Ev_step rfl
theorem s_X_lots_64 (h : sh i0 = 2) : Ev sh 141 64 [a0, a1, a2, a3, a4] [.int x2, .int x1, .ref i0] σ Q = Ev sh 21 0 [some (.ref i0), some (.int x1), some (.int x2), none, none] [] σ (fun r s => Ev sh 141 67 [a0, a1, a2, a3, a4] (zpush r []) s Q) := Ev_callh (zrecv_of (by decide) h) rfl
theorem s_X_lots_67 : Ev sh 141 67 [a0, a1, a2, a3, a4] [.int x] σ Q = Q (some (.int x)) σ := Ev_ret rfl
theorem s_X_lots_68 : Ev sh 141 68 [some (.ref i), a1, a2, a3, a4] st σ Q = Ev sh 141 69 [some (.ref i), a1, a2, a3, a4] (.ref i :: st) σ Q := Ev_step rfl
theorem s_X_lots_69 : Ev sh 141 69 [a0, a1, a2, a3, a4] st σ Q = Ev sh 141 71 [a0, a1, a2, a3, a4] (.int (-2) :: st) σ Q := Ev_step rfl
theorem s_X_lots_71 (h : sh i0 = 8) : Ev sh 141 71 [a0, a1, a2, a3, a4] [.int x1, .ref i0] σ Q = Ev sh 145 0 [some (.ref i0), some (.int x1), none] [] σ (fun r s => Ev sh 141 74 [a0, a1, a2, a3, a4] (zpush r []) s Q) := Ev_callh (zrecv_of (by decide) h) rfl
theorem s_X_lots_74 : Ev sh 141 74 [a0, a1, a2, a3, a4] [.int x] σ Q = Q (some (.int x)) σ := Ev_ret rfl
theorem s_X_image_0 : Ev sh 142 0 [some (.ref i)] st σ Q = Ev sh 142 1 [some (.ref i)] (.ref i :: st) σ Q := Ev_step rfl
theorem s_X_image_1 (h : sh i = 8) : Ev sh 142 1 [a0] (.ref i :: st) σ Q = Ev sh 142 4 [a0] (.ref 8 :: st) σ Q := Ev_h h rfl
theorem s_X_image_4 : Ev sh 142 4 [some (.ref i)] st σ Q = Ev sh 142 5 [some (.ref i)] (.ref i :: st) σ Q := Ev_step rfl
theorem s_X_image_5 (h : sh i = 8) : Ev sh 142 5 [a0] (.ref i :: st) σ Q = Ev sh 142 8 [a0] (.ref 1 :: st) σ Q := Ev_h h rfl
theorem s_X_image_8 (h : sh i0 = 0) : Ev sh 142 8 [a0] [.ref i1, .ref i0] σ Q = Ev sh 0 0 [some (.ref i0), some (.ref i1)] [] σ (fun r s => Ev sh 142 11 [a0] (zpush r []) s Q) := Ev_callh (zrecv_of (by decide) h) rfl
theorem s_X_image_11 : Ev sh 142 11 [some (.ref i)] st σ Q = Ev sh 142 12 [some (.ref i)] (.ref i :: st) σ Q := Ev_step rfl
theorem s_X_image_12 : Ev sh 142 12 [a0] st σ Q = Ev sh 142 13 [a0] (.int 1 :: st) σ Q := Ev_step rfl
theorem s_X_image_13 (h : sh i = 8) (hx : x = 0 ∨ x = 1) : Ev sh 142 13 [a0] (.int x :: .ref i :: st) σ Q = Ev sh 142 16 [a0] st (zup σ i 2 x) Q := Ev_h ⟨h, hx⟩ rfl
theorem s_X_image_16 : Ev sh 142 16 [some (.ref i)] st σ Q = Ev sh 142 17 [some (.ref i)] (.ref i :: st) σ Q := Ev_step rfl
theorem s_X_image_17 (h : sh i = 8) : Ev sh 142 17 [a0] (.ref i :: st) σ Q = Ev sh 142 20 [a0] (.ref 1 :: st) σ Q := Ev_h h rfl
theorem s_X_image_20 (h : sh i = 0) : Ev sh 142 20 [a0] (.ref i :: st) σ Q = Ev sh 142 23 [a0] (.int (σ i 4) :: st) σ Q := Ev_h h rfl
theorem s_X_image_23 : Ev sh 142 23 [a0] [.int x] σ Q = Q (some (.int x)) σ := Ev_ret rfl
theorem s_X_on_0 : Ev sh 143 0 [some (.ref i)] st σ Q = Ev sh 143 1 [some (.ref i)] (.ref i :: st) σ Q := Ev_step rfl
theorem s_X_on_1 (h : sh i = 8) : Ev sh 143 1 [a0] (.ref i :: st) σ Q = Ev sh 143 4 [a0] (.int (σ i 2) :: st) σ Q := Ev_h h rfl
theorem s_X_on_4 : Ev sh 143 4 [a0] (.int x :: st) σ Q = if x ≠ 0 then Ev sh 143 14 [a0] st σ Q else Ev sh 143 7 [a0] st σ Q := Ev_if rfl
theorem s_X_on_7 : Ev sh 143 7 [some (.ref i)] st σ Q = Ev sh 143 8 [some (.ref i)] (.ref i :: st) σ Q := Ev_step rfl
theorem s_X_on_8 : Ev sh 143 8 [a0] st σ Q = Ev sh 143 10 [a0] (.int (-3) :: st) σ Q := Ev_step rfl
theorem s_X_on_10 (h : sh i0 = 8) : Ev sh 143 10 [a0] [.int x1, .ref i0] σ Q = Ev sh 145 0 [some (.ref i0), some (.int x1), none] [] σ (fun r s => Ev sh 143 13 [a0] (zpush r []) s Q) := Ev_callh (zrecv_of (by decide) h) rfl
theorem s_X_on_13 : Ev sh 143 13 [a0] [.int x] σ Q = Q (some (.int x)) σ := Ev_ret rfl
theorem s_X_on_14 : Ev sh 143 14 [some (.ref i)] st σ Q = Ev sh 143 15 [some (.ref i)] (.ref i :: st) σ Q := Ev_step rfl
theorem s_X_on_15 (h : sh i = 8) : Ev sh 143 15 [a0] (.ref i :: st) σ Q = Ev sh 143 18 [a0] (.ref 1 :: st) σ Q := Ev_h h rfl
theorem s_X_on_18 : Ev sh 143 18 [some (.ref i)] st σ Q = Ev sh 143 19 [some (.ref i)] (.ref i :: st) σ Q := Ev_step rfl
theorem s_X_on_19 (h : sh i = 8) : Ev sh 143 19 [a0] (.ref i :: st) σ Q = Ev sh 143 22 [a0] (.ref 8 :: st) σ Q := Ev_h h rfl
theorem s_X_on_22 (h : sh i0 = 0) : Ev sh 143 22 [a0] [.ref i1, .ref i0] σ Q = Ev sh 0 0 [some (.ref i0), some (.ref i1)] [] σ (fun r s => Ev sh 143 25 [a0] (zpush r []) s Q) := Ev_callh (zrecv_of (by decide) h) rfl
theorem s_X_on_25 : Ev sh 143 25 [some (.ref i)] st σ Q = Ev sh 143 26 [some (.ref i)] (.ref i :: st) σ Q := Ev_step rfl
theorem s_X_on_26 (h : sh i = 8) : Ev sh 143 26 [a0] (.ref i :: st) σ Q = Ev sh 143 29 [a0] (.ref 1 :: st) σ Q := Ev_h h rfl
theorem s_X_on_29 (h : sh i = 0) : Ev sh 143 29 [a0] (.ref i :: st) σ Q = Ev sh 143 32 [a0] (.int (σ i 4) :: st) σ Q := Ev_h h rfl
theorem s_X_on_32 : Ev sh 143 32 [a0] [.int x] σ Q = Q (some (.int x)) σ := Ev_ret rfl
theorem s_X_count_0 : Ev sh 144 0 [a0, some (.int x)] st σ Q = Ev sh 144 1 [a0, some (.int x)] (.int x :: st) σ Q := Ev_step rfl
theorem s_X_count_1 : Ev sh 144 1 [a0, a1] (.int x :: st) σ Q = if x = 0 then Ev sh 144 48 [a0, a1] st σ Q else if x = 1 then Ev sh 144 59 [a0, a1] st σ Q else if x = 2 then Ev sh 144 67 [a0, a1] st σ Q else if x = 3 then Ev sh 144 75 [a0, a1] st σ Q else if x = 4 then Ev sh 144 86 [a0, a1] st σ Q else if x = 5 then Ev sh 144 98 [a0, a1] st σ Q else if x = 6 then Ev sh 144 109 [a0, a1] st σ Q else if x = 7 then Ev sh 144 117 [a0, a1] st σ Q else Ev sh 144 125 [a0, a1] st σ Q := (Ev_step (pc' := zsw x 125 [(0, 48), (1, 59), (2, 67), (3, 75), (4, 86), (5, 98), (6, 109), (7, 117)]) rfl).trans (by rw [Ev_swc, Ev_swc, Ev_swc, Ev_swc, Ev_swc, Ev_swc, Ev_swc, Ev_swc]; rfl)
theorem s_X_count_48 : Ev sh 144 48 [some (.ref i), a1] st σ Q = Ev sh 144 49 [some (.ref i), a1] (.ref i :: st) σ Q := Ev_step rfl
theorem s_X_count_49 (h : sh i = 8) : Ev sh 144 49 [a0, a1] (.ref i :: st) σ Q = Ev sh 144 52 [a0, a1] (.ref 1 :: st) σ Q := Ev_h h rfl
theorem s_X_count_52 (h : sh i = 0) : Ev sh 144 52 [a0, a1] (.ref i :: st) σ Q = Ev sh 144 55 [a0, a1] (.ref (i + 1) :: st) σ Q := Ev_h h rfl
theorem s_X_count_55 (h : sh i0 = 7) : Ev sh 144 55 [a0, a1] [.ref i0] σ Q = Ev sh 70 0 [some (.ref i0)] [] σ (fun r s => Ev sh 144 58 [a0, a1] (zpush r []) s Q) := Ev_callh (zrecv_of (by decide) h) rfl
theorem s_X_count_58 : Ev sh 144 58 [a0, a1] [.int x] σ Q = Q (some (.int x)) σ := Ev_ret rfl
theorem s_X_count_59 : Ev sh 144 59 [some (.ref i), a1] st σ Q = Ev sh 144 60 [some (.ref i), a1] (.ref i :: st) σ Q := Ev_step rfl
theorem s_X_count_60 (h : sh i = 8) : Ev sh 144 60 [a0, a1] (.ref i :: st) σ Q = Ev sh 144 63 [a0, a1] (.ref 1 :: st) σ Q := Ev_h h rfl
theorem s_X_count_63 (h : sh i = 0) : Ev sh 144 63 [a0, a1] (.ref i :: st) σ Q = Ev sh 144 66 [a0, a1] (.int (σ i 3) :: st) σ Q := Ev_h h rfl
theorem s_X_count_66 : Ev sh 144 66 [a0, a1] [.int x] σ Q = Q (some (.int x)) σ := Ev_ret rfl
theorem s_X_count_67 : Ev sh 144 67 [some (.ref i), a1] st σ Q = Ev sh 144 68 [some (.ref i), a1] (.ref i :: st) σ Q := Ev_step rfl
theorem s_X_count_68 (h : sh i = 8) : Ev sh 144 68 [a0, a1] (.ref i :: st) σ Q = Ev sh 144 71 [a0, a1] (.ref 1 :: st) σ Q := Ev_h h rfl
theorem s_X_count_71 (h : sh i = 0) : Ev sh 144 71 [a0, a1] (.ref i :: st) σ Q = Ev sh 144 74 [a0, a1] (.int (σ i 4) :: st) σ Q := Ev_h h rfl
theorem s_X_count_74 : Ev sh 144 74 [a0, a1] [.int x] σ Q = Q (some (.int x)) σ := Ev_ret rfl
theorem s_X_count_75 : Ev sh 144 75 [some (.ref i), a1] st σ Q = Ev sh 144 76 [some (.ref i), a1] (.ref i :: st) σ Q := Ev_step rfl
theorem s_X_count_76 (h : sh i = 8) : Ev sh 144 76 [a0, a1] (.ref i :: st) σ Q = Ev sh 144 79 [a0, a1] (.ref 1 :: st) σ Q := Ev_h h rfl
theorem s_X_count_79 (h : sh i = 0) : Ev sh 144 79 [a0, a1] (.ref i :: st) σ Q = Ev sh 144 82 [a0, a1] (.ref (i + 1) :: st) σ Q := Ev_h h rfl
theorem s_X_count_82 (h : sh i0 = 7) : Ev sh 144 82 [a0, a1] [.ref i0] σ Q = Ev sh 96 0 [some (.ref i0), none, none] [] σ (fun r s => Ev sh 144 85 [a0, a1] (zpush r []) s Q) := Ev_callh (zrecv_of (by decide) h) rfl
theorem s_X_count_85 : Ev sh 144 85 [a0, a1] [.int x] σ Q = Q (some (.int x)) σ := Ev_ret rfl
theorem s_X_count_86 : Ev sh 144 86 [some (.ref i), a1] st σ Q = Ev sh 144 87 [some (.ref i), a1] (.ref i :: st) σ Q := Ev_step rfl
theorem s_X_count_87 (h : sh i = 8) : Ev sh 144 87 [a0, a1] (.ref i :: st) σ Q = Ev sh 144 90 [a0, a1] (.ref 1 :: st) σ Q := Ev_h h rfl
theorem s_X_count_90 (h : sh i = 0) : Ev sh 144 90 [a0, a1] (.ref i :: st) σ Q = Ev sh 144 93 [a0, a1] (.ref (i + 1) :: st) σ Q := Ev_h h rfl
theorem s_X_count_93 : Ev sh 144 93 [a0, a1] st σ Q = Ev sh 144 94 [a0, a1] (.int 1 :: st) σ Q := Ev_step rfl
theorem s_X_count_94 (h : sh i0 = 7) : Ev sh 144 94 [a0, a1] [.int x1, .ref i0] σ Q = Ev sh 97 0 [some (.ref i0), some (.int x1), none, none] [] σ (fun r s => Ev sh 144 97 [a0, a1] (zpush r []) s Q) := Ev_callh (zrecv_of (by decide) h) rfl
theorem s_X_count_97 : Ev sh 144 97 [a0, a1] [.int x] σ Q = Q (some (.int x)) σ := Ev_ret rfl
theorem s_X_count_98 : Ev sh 144 98 [some (.ref i), a1] st σ Q = Ev sh 144 99 [some (.ref i), a1] (.ref i :: st) σ Q := Ev_step rfl
theorem s_X_count_99 (h : sh i = 8) : Ev sh 144 99 [a0, a1] (.ref i :: st) σ Q = Ev sh 144 102 [a0, a1] (.ref 1 :: st) σ Q := Ev_h h rfl
theorem s_X_count_102 (h : sh i = 0) : Ev sh 144 102 [a0, a1] (.ref i :: st) σ Q = Ev sh 144 105 [a0, a1] (.ref (i + 1) :: st) σ Q := Ev_h h rfl
theorem s_X_count_105 (h : sh i0 = 7) : Ev sh 144 105 [a0, a1] [.ref i0] σ Q = Ev sh 94 0 [some (.ref i0), none, none] [] σ (fun r s => Ev sh 144 108 [a0, a1] (zpush r []) s Q) := Ev_callh (zrecv_of (by decide) h) rfl
theorem s_X_count_108 : Ev sh 144 108 [a0, a1] [.int x] σ Q = Q (some (.int x)) σ := Ev_ret rfl
theorem s_X_count_109 : Ev sh 144 109 [some (.ref i), a1] st σ Q = Ev sh 144 110 [some (.ref i), a1] (.ref i :: st) σ Q := Ev_step rfl
theorem s_X_count_110 (h : sh i = 8) : Ev sh 144 110 [a0, a1] (.ref i :: st) σ Q = Ev sh 144 113 [a0, a1] (.ref 24 :: st) σ Q := Ev_h h rfl
theorem s_X_count_113 (h : sh i0 = 6) : Ev sh 144 113 [a0, a1] [.ref i0] σ Q = Ev sh 57 0 [some (.ref i0)] [] σ (fun r s => Ev sh 144 116 [a0, a1] (zpush r []) s Q) := Ev_callh (zrecv_of (by decide) h) rfl
theorem s_X_count_116 : Ev sh 144 116 [a0, a1] [.int x] σ Q = Q (some (.int x)) σ := Ev_ret rfl
theorem s_X_count_117 : Ev sh 144 117 [some (.ref i), a1] st σ Q = Ev sh 144 118 [some (.ref i), a1] (.ref i :: st) σ Q := Ev_step rfl
theorem s_X_count_118 (h : sh i = 8) : Ev sh 144 118 [a0, a1] (.ref i :: st) σ Q = Ev sh 144 121 [a0, a1] (.ref 22 :: st) σ Q := Ev_h h rfl
theorem s_X_count_121 (h : sh i0 = 3) : Ev sh 144 121 [a0, a1] [.ref i0] σ Q = Ev sh 24 0 [some (.ref i0)] [] σ (fun r s => Ev sh 144 124 [a0, a1] (zpush r []) s Q) := Ev_callh (zrecv_of (by decide) h) rfl
theorem s_X_count_124 : Ev sh 144 124 [a0, a1] [.int x] σ Q = Q (some (.int x)) σ := Ev_ret rfl
theorem s_X_count_125 : Ev sh 144 125 [a0, some (.int x)] st σ Q = Ev sh 144 126 [a0, some (.int x)] (.int x :: st) σ Q := Ev_step rfl
theorem s_X_count_126 : Ev sh 144 126 [a0, a1] st σ Q = Ev sh 144 128 [a0, a1] (.int 11 :: st) σ Q := Ev_step rfl
theorem s_X_count_128 : Ev sh 144 128 [a0, a1] st σ Q = Ev sh 144 130 [a0, a1] (.int 16 :: st) σ Q := Ev_step rfl
theorem s_X_count_130 : Ev sh 144 130 [a0, a1] [.int x2, .int x1, .int x0] σ Q = Ev sh 150 0 [some (.int x0), some (.int x1), some (.int x2)] [] σ (fun r s => Ev sh 144 133 [a0, a1] (zpush r []) s Q) := Ev_call rfl
theorem s_X_count_133 : Ev sh 144 133 [a0, a1] (.int x :: st) σ Q = if x = 0 then Ev sh 144 148 [a0, a1] st σ Q else Ev sh 144 136 [a0, a1] st σ Q := Ev_if rfl
theorem s_X_count_136 : Ev sh 144 136 [some (.ref i), a1] st σ Q = Ev sh 144 137 [some (.ref i), a1] (.ref i :: st) σ Q := Ev_step rfl
theorem s_X_count_137 (h : sh i = 8) : Ev sh 144 137 [a0, a1] (.ref i :: st) σ Q = Ev sh 144 140 [a0, a1] (.ref 41 :: st) σ Q := Ev_h h rfl
theorem s_X_count_140 : Ev sh 144 140 [a0, some (.int x)] st σ Q = Ev sh 144 141 [a0, some (.int x)] (.int x :: st) σ Q := Ev_step rfl
theorem s_X_count_141 : Ev sh 144 141 [a0, a1] st σ Q = Ev sh 144 143 [a0, a1] (.int 10 :: st) σ Q := Ev_step rfl
theorem s_X_count_143 : Ev sh 144 143 [a0, a1] (.int y :: .int x :: st) σ Q = Ev sh 144 144 [a0, a1] (.int (x - y) :: st) σ Q := Ev_step rfl
theorem s_X_count_144 (h : zin x (sh i) = true) : Ev sh 144 144 [a0, a1] (.int x :: .ref i :: st) σ Q = Ev sh 144 145 [a0, a1] (.int (σ i x.toNatClampNeg) :: st) σ Q := Ev_h h rfl
theorem s_X_count_145 : Ev sh 144 145 [a0, a1] st σ Q = Ev sh 144 150 [a0, a1] st σ Q := Ev_step rfl
theorem s_X_count_148 : Ev sh 144 148 [a0, a1] st σ Q = Ev sh 144 150 [a0, a1] (.int (-9) :: st) σ Q := Ev_step rfl
theorem s_X_count_150 : Ev sh 144 150 [a0, a1] [.int x] σ Q = Q (some (.int x)) σ := Ev_ret rfl
theorem s_X_refuse_0 : Ev sh 145 0 [a0, some (.int x), a2] st σ Q = Ev sh 145 1 [a0, some (.int x), a2] (.int x :: st) σ Q := Ev_step rfl
theorem s_X_refuse_1 : Ev sh 145 1 [a0, a1, a2] (.int x :: st) σ Q = Ev sh 145 2 [a0, a1, a2] (.int (-x) :: st) σ Q := Ev_step rfl
theorem s_X_refuse_2 : Ev sh 145 2 [a0, a1, a2] (.int x :: st) σ Q = Ev sh 145 3 [a0, zdrop2 a1, some (.int x)] st σ Q := Ev_step rfl
theorem s_X_refuse_3 : Ev sh 145 3 [a0, a1, some (.int x)] st σ Q = Ev sh 145 4 [a0, a1, some (.int x)] (.int x :: st) σ Q := Ev_step rfl
theorem s_X_refuse_4 : Ev sh 145 4 [a0, a1, a2] st σ Q = Ev sh 145 5 [a0, a1, a2] (.int 1 :: st) σ Q := Ev_step rfl
theorem s_X_refuse_5 : Ev sh 145 5 [a0, a1, a2] st σ Q = Ev sh 145 7 [a0, a1, a2] (.int 6 :: st) σ Q := Ev_step rfl
theorem s_X_refuse_7 : Ev sh 145 7 [a0, a1, a2] [.int x2, .int x1, .int x0] σ Q = Ev sh 150 0 [some (.int x0), some (.int x1), some (.int x2)] [] σ (fun r s => Ev sh 145 10 [a0, a1, a2] (zpush r []) s Q) := Ev_call rfl
theorem s_X_refuse_10 : Ev sh 145 10 [a0, a1, a2] (.int x :: st) σ Q = if x = 0 then Ev sh 145 23 [a0, a1, a2] st σ Q else Ev sh 145 13 [a0, a1, a2] st σ Q := Ev_if rfl
theorem s_X_refuse_13 : Ev sh 145 13 [some (.ref i), a1, a2] st σ Q = Ev sh 145 14 [some (.ref i), a1, a2] (.ref i :: st) σ Q := Ev_step rfl
theorem s_X_refuse_14 (h : sh i = 8) : Ev sh 145 14 [a0, a1, a2] (.ref i :: st) σ Q = Ev sh 145 17 [a0, a1, a2] (.ref 41 :: st) σ Q := Ev_h h rfl
theorem s_X_refuse_17 : Ev sh 145 17 [a0, a1, some (.int x)] st σ Q = Ev sh 145 18 [a0, a1, some (.int x)] (.int x :: st) σ Q := Ev_step rfl
theorem s_X_refuse_18 : Ev sh 145 18 [a0, a1, a2] (.int x :: .ref i :: st) σ Q = Ev sh 145 19 [a0, a1, a2] (.int x :: .ref i :: .int x :: .ref i :: st) σ Q := Ev_step rfl
theorem s_X_refuse_19 (h : zin x (sh i) = true) : Ev sh 145 19 [a0, a1, a2] (.int x :: .ref i :: st) σ Q = Ev sh 145 20 [a0, a1, a2] (.int (σ i x.toNatClampNeg) :: st) σ Q := Ev_h h rfl
theorem s_X_refuse_20 : Ev sh 145 20 [a0, a1, a2] st σ Q = Ev sh 145 21 [a0, a1, a2] (.int 1 :: st) σ Q := Ev_step rfl
theorem s_X_refuse_21 : Ev sh 145 21 [a0, a1, a2] (.int y :: .int x :: st) σ Q = Ev sh 145 22 [a0, a1, a2] (.int (x + y) :: st) σ Q := Ev_step rfl
theorem s_X_refuse_22 (h : zin x (sh i) = true) : Ev sh 145 22 [a0, a1, a2] (.int y :: .int x :: .ref i :: st) σ Q = Ev sh 145 23 [a0, a1, a2] st (zup σ i x.toNatClampNeg y) Q := Ev_h h rfl
theorem s_X_refuse_23 : Ev sh 145 23 [a0, some (.int x), a2] st σ Q = Ev sh 145 24 [a0, some (.int x), a2] (.int x :: st) σ Q := Ev_step rfl
theorem s_X_refuse_24 : Ev sh 145 24 [a0, a1, a2] [.int x] σ Q = Q (some (.int x)) σ := Ev_ret rfl
theorem s_X_refuseFar_0 : Ev sh 146 0 [a0, a1] st σ Q = Ev sh 146 3 [a0, a1] (.int 1000000000 :: st) σ Q := Ev_step rfl
theorem s_X_refuseFar_3 : Ev sh 146 3 [some (.ref i), a1] st σ Q = Ev sh 146 4 [some (.ref i), a1] (.ref i :: st) σ Q := Ev_step rfl
theorem s_X_refuseFar_4 : Ev sh 146 4 [a0, some (.int x)] st σ Q = Ev sh 146 5 [a0, some (.int x)] (.int x :: st) σ Q := Ev_step rfl
theorem s_X_refuseFar_5 (h : sh i1 = 8) : Ev sh 146 5 [a0, a1] [.int x2, .ref i1, .int x0] σ Q = Ev sh 145 0 [some (.ref i1), some (.int x2), none] [] σ (fun r s => Ev sh 146 8 [a0, a1] (zpush r [.int x0]) s Q) := Ev_callh (zrecv_of (by decide) h) rfl
theorem s_X_refuseFar_8 : Ev sh 146 8 [a0, a1] (.int y :: .int x :: st) σ Q = Ev sh 146 9 [a0, a1] (.int (x - y) :: st) σ Q := Ev_step rfl
theorem s_X_refuseFar_9 : Ev sh 146 9 [a0, a1] [.int x] σ Q = Q (some (.int x)) σ := Ev_ret rfl
theorem s_X_refuseLong_0 : Ev sh 147 0 [a0, a1] st σ Q = Ev sh 147 3 [a0, a1] (.long 4000000000000000000 :: st) σ Q := Ev_step rfl
theorem s_X_refuseLong_3 : Ev sh 147 3 [some (.ref i), a1] st σ Q = Ev sh 147 4 [some (.ref i), a1] (.ref i :: st) σ Q := Ev_step rfl
theorem s_X_refuseLong_4 : Ev sh 147 4 [a0, some (.int x)] st σ Q = Ev sh 147 5 [a0, some (.int x)] (.int x :: st) σ Q := Ev_step rfl
theorem s_X_refuseLong_5 (h : sh i1 = 8) : Ev sh 147 5 [a0, a1] [.int x2, .ref i1, .long u0] σ Q = Ev sh 145 0 [some (.ref i1), some (.int x2), none] [] σ (fun r s => Ev sh 147 8 [a0, a1] (zpush r [.long u0]) s Q) := Ev_callh (zrecv_of (by decide) h) rfl
theorem s_X_refuseLong_8 : Ev sh 147 8 [a0, a1] (.int x :: st) σ Q = Ev sh 147 9 [a0, a1] (.long x.toInt64 :: st) σ Q := Ev_step rfl
theorem s_X_refuseLong_9 : Ev sh 147 9 [a0, a1] (.long v :: .long u :: st) σ Q = Ev sh 147 10 [a0, a1] (.long (u - v) :: st) σ Q := Ev_step rfl
theorem s_X_refuseLong_10 : Ev sh 147 10 [a0, a1] [.long u] σ Q = Q (some (.long u)) σ := Ev_ret rfl
theorem s_X_refusalOfTrait_0 : Ev sh 148 0 [some (.int x), a1] st σ Q = Ev sh 148 1 [some (.int x), a1] (.int x :: st) σ Q := Ev_step rfl
theorem s_X_refusalOfTrait_1 : Ev sh 148 1 [a0, a1] [.int x0] σ Q = Ev sh 151 0 [some (.int x0)] [] σ (fun r s => Ev sh 148 4 [a0, a1] (zpush r []) s Q) := Ev_call rfl
theorem s_X_refusalOfTrait_4 : Ev sh 148 4 [a0, a1] (.int x :: st) σ Q = if x = 0 then Ev sh 148 17 [a0, a1] st σ Q else Ev sh 148 7 [a0, a1] st σ Q := Ev_if rfl
theorem s_X_refusalOfTrait_7 : Ev sh 148 7 [a0, some (.int x)] st σ Q = Ev sh 148 8 [a0, some (.int x)] (.int x :: st) σ Q := Ev_step rfl
theorem s_X_refusalOfTrait_8 : Ev sh 148 8 [a0, a1] st σ Q = Ev sh 148 9 [a0, a1] (.int 0 :: st) σ Q := Ev_step rfl
theorem s_X_refusalOfTrait_9 : Ev sh 148 9 [a0, a1] st σ Q = Ev sh 148 11 [a0, a1] (.int 9 :: st) σ Q := Ev_step rfl
theorem s_X_refusalOfTrait_11 : Ev sh 148 11 [a0, a1] [.int x2, .int x1, .int x0] σ Q = Ev sh 149 0 [some (.int x0), some (.int x1), some (.int x2)] [] σ (fun r s => Ev sh 148 14 [a0, a1] (zpush r []) s Q) := Ev_call rfl
theorem s_X_refusalOfTrait_14 : Ev sh 148 14 [a0, a1] st σ Q = Ev sh 148 18 [a0, a1] st σ Q := Ev_step rfl
theorem s_X_refusalOfTrait_17 : Ev sh 148 17 [a0, a1] st σ Q = Ev sh 148 18 [a0, a1] (.int (-1) :: st) σ Q := Ev_step rfl
theorem s_X_refusalOfTrait_18 : Ev sh 148 18 [a0, a1] [.int x] σ Q = Q (some (.int x)) σ := Ev_ret rfl
theorem s_X_outside_0 : Ev sh 149 0 [some (.int x), a1, a2] st σ Q = Ev sh 149 1 [some (.int x), a1, a2] (.int x :: st) σ Q := Ev_step rfl
theorem s_X_outside_1 : Ev sh 149 1 [a0, some (.int x), a2] st σ Q = Ev sh 149 2 [a0, some (.int x), a2] (.int x :: st) σ Q := Ev_step rfl
theorem s_X_outside_2 : Ev sh 149 2 [a0, a1, a2] (.int y :: .int x :: st) σ Q = if y ≤ x then Ev sh 149 8 [a0, a1, a2] st σ Q else Ev sh 149 5 [a0, a1, a2] st σ Q := Ev_if rfl
theorem s_X_outside_5 : Ev sh 149 5 [a0, a1, a2] st σ Q = Ev sh 149 7 [a0, a1, a2] (.int (-4) :: st) σ Q := Ev_step rfl
theorem s_X_outside_7 : Ev sh 149 7 [a0, a1, a2] [.int x] σ Q = Q (some (.int x)) σ := Ev_ret rfl
theorem s_X_outside_8 : Ev sh 149 8 [some (.int x), a1, a2] st σ Q = Ev sh 149 9 [some (.int x), a1, a2] (.int x :: st) σ Q := Ev_step rfl
theorem s_X_outside_9 : Ev sh 149 9 [a0, a1, some (.int x)] st σ Q = Ev sh 149 10 [a0, a1, some (.int x)] (.int x :: st) σ Q := Ev_step rfl
theorem s_X_outside_10 : Ev sh 149 10 [a0, a1, a2] (.int y :: .int x :: st) σ Q = if x ≤ y then Ev sh 149 18 [a0, a1, a2] st σ Q else Ev sh 149 13 [a0, a1, a2] st σ Q := Ev_if rfl
theorem s_X_outside_13 : Ev sh 149 13 [a0, a1, a2] st σ Q = Ev sh 149 15 [a0, a1, a2] (.int (-6) :: st) σ Q := Ev_step rfl
theorem s_X_outside_15 : Ev sh 149 15 [a0, a1, a2] st σ Q = Ev sh 149 19 [a0, a1, a2] st σ Q := Ev_step rfl
theorem s_X_outside_18 : Ev sh 149 18 [a0, a1, a2] st σ Q = Ev sh 149 19 [a0, a1, a2] (.int 0 :: st) σ Q := Ev_step rfl
theorem s_X_outside_19 : Ev sh 149 19 [a0, a1, a2] [.int x] σ Q = Q (some (.int x)) σ := Ev_ret rfl
theorem s_X_between_0 : Ev sh 150 0 [some (.int x), a1, a2] st σ Q = Ev sh 150 1 [some (.int x), a1, a2] (.int x :: st) σ Q := Ev_step rfl
theorem s_X_between_1 : Ev sh 150 1 [a0, some (.int x), a2] st σ Q = Ev sh 150 2 [a0, some (.int x), a2] (.int x :: st) σ Q := Ev_step rfl
theorem s_X_between_2 : Ev sh 150 2 [a0, a1, a2] (.int y :: .int x :: st) σ Q = if x < y then Ev sh 150 14 [a0, a1, a2] st σ Q else Ev sh 150 5 [a0, a1, a2] st σ Q := Ev_if rfl
theorem s_X_between_5 : Ev sh 150 5 [some (.int x), a1, a2] st σ Q = Ev sh 150 6 [some (.int x), a1, a2] (.int x :: st) σ Q := Ev_step rfl
theorem s_X_between_6 : Ev sh 150 6 [a0, a1, some (.int x)] st σ Q = Ev sh 150 7 [a0, a1, some (.int x)] (.int x :: st) σ Q := Ev_step rfl
theorem s_X_between_7 : Ev sh 150 7 [a0, a1, a2] (.int y :: .int x :: st) σ Q = if y < x then Ev sh 150 14 [a0, a1, a2] st σ Q else Ev sh 150 10 [a0, a1, a2] st σ Q := Ev_if rfl
theorem s_X_between_10 : Ev sh 150 10 [a0, a1, a2] st σ Q = Ev sh 150 11 [a0, a1, a2] (.int 1 :: st) σ Q := Ev_step rfl
theorem s_X_between_11 : Ev sh 150 11 [a0, a1, a2] st σ Q = Ev sh 150 15 [a0, a1, a2] st σ Q := Ev_step rfl
theorem s_X_between_14 : Ev sh 150 14 [a0, a1, a2] st σ Q = Ev sh 150 15 [a0, a1, a2] (.int 0 :: st) σ Q := Ev_step rfl
theorem s_X_between_15 (h : x = 0 ∨ x = 1) : Ev sh 150 15 [a0, a1, a2] [.int x] σ Q = Q (some (.int x)) σ := Ev_rh h rfl
theorem s_X_isMason_0 : Ev sh 151 0 [some (.int x)] st σ Q = Ev sh 151 1 [some (.int x)] (.int x :: st) σ Q := Ev_step rfl
theorem s_X_isMason_1 : Ev sh 151 1 [a0] (.int x :: st) σ Q = if x = 0 then Ev sh 151 9 [a0] st σ Q else Ev sh 151 4 [a0] st σ Q := Ev_if rfl
theorem s_X_isMason_4 : Ev sh 151 4 [some (.int x)] st σ Q = Ev sh 151 5 [some (.int x)] (.int x :: st) σ Q := Ev_step rfl
theorem s_X_isMason_5 : Ev sh 151 5 [a0] st σ Q = Ev sh 151 6 [a0] (.int 1 :: st) σ Q := Ev_step rfl
theorem s_X_isMason_6 : Ev sh 151 6 [a0] (.int y :: .int x :: st) σ Q = if x ≠ y then Ev sh 151 13 [a0] st σ Q else Ev sh 151 9 [a0] st σ Q := Ev_if rfl
theorem s_X_isMason_9 : Ev sh 151 9 [a0] st σ Q = Ev sh 151 10 [a0] (.int 1 :: st) σ Q := Ev_step rfl
theorem s_X_isMason_10 : Ev sh 151 10 [a0] st σ Q = Ev sh 151 14 [a0] st σ Q := Ev_step rfl
theorem s_X_isMason_13 : Ev sh 151 13 [a0] st σ Q = Ev sh 151 14 [a0] (.int 0 :: st) σ Q := Ev_step rfl
theorem s_X_isMason_14 (h : x = 0 ∨ x = 1) : Ev sh 151 14 [a0] [.int x] σ Q = Q (some (.int x)) σ := Ev_rh h rfl
theorem s_X_isKind_0 : Ev sh 152 0 [some (.int x)] st σ Q = Ev sh 152 1 [some (.int x)] (.int x :: st) σ Q := Ev_step rfl
theorem s_X_isKind_1 : Ev sh 152 1 [a0] st σ Q = Ev sh 152 2 [a0] (.int 0 :: st) σ Q := Ev_step rfl
theorem s_X_isKind_2 : Ev sh 152 2 [a0] st σ Q = Ev sh 152 3 [a0] (.int 5 :: st) σ Q := Ev_step rfl
theorem s_X_isKind_3 : Ev sh 152 3 [a0] [.int x2, .int x1, .int x0] σ Q = Ev sh 150 0 [some (.int x0), some (.int x1), some (.int x2)] [] σ (fun r s => Ev sh 152 6 [a0] (zpush r []) s Q) := Ev_call rfl
theorem s_X_isKind_6 (h : x = 0 ∨ x = 1) : Ev sh 152 6 [a0] [.int x] σ Q = Q (some (.int x)) σ := Ev_rh h rfl
theorem s_X_isPart_0 : Ev sh 153 0 [some (.int x)] st σ Q = Ev sh 153 1 [some (.int x)] (.int x :: st) σ Q := Ev_step rfl
theorem s_X_isPart_1 : Ev sh 153 1 [a0] (.int x :: st) σ Q = if x = 0 then Ev sh 153 9 [a0] st σ Q else Ev sh 153 4 [a0] st σ Q := Ev_if rfl
theorem s_X_isPart_4 : Ev sh 153 4 [some (.int x)] st σ Q = Ev sh 153 5 [some (.int x)] (.int x :: st) σ Q := Ev_step rfl
theorem s_X_isPart_5 : Ev sh 153 5 [a0] st σ Q = Ev sh 153 6 [a0] (.int 1 :: st) σ Q := Ev_step rfl
theorem s_X_isPart_6 : Ev sh 153 6 [a0] (.int y :: .int x :: st) σ Q = if x ≠ y then Ev sh 153 13 [a0] st σ Q else Ev sh 153 9 [a0] st σ Q := Ev_if rfl
theorem s_X_isPart_9 : Ev sh 153 9 [a0] st σ Q = Ev sh 153 10 [a0] (.int 1 :: st) σ Q := Ev_step rfl
theorem s_X_isPart_10 : Ev sh 153 10 [a0] st σ Q = Ev sh 153 14 [a0] st σ Q := Ev_step rfl
theorem s_X_isPart_13 : Ev sh 153 13 [a0] st σ Q = Ev sh 153 14 [a0] (.int 0 :: st) σ Q := Ev_step rfl
theorem s_X_isPart_14 (h : x = 0 ∨ x = 1) : Ev sh 153 14 [a0] [.int x] σ Q = Q (some (.int x)) σ := Ev_rh h rfl
theorem s_X_otherMason_0 : Ev sh 154 0 [some (.int x)] st σ Q = Ev sh 154 1 [some (.int x)] (.int x :: st) σ Q := Ev_step rfl
theorem s_X_otherMason_1 : Ev sh 154 1 [a0] (.int x :: st) σ Q = if x ≠ 0 then Ev sh 154 8 [a0] st σ Q else Ev sh 154 4 [a0] st σ Q := Ev_if rfl
theorem s_X_otherMason_4 : Ev sh 154 4 [a0] st σ Q = Ev sh 154 5 [a0] (.int 1 :: st) σ Q := Ev_step rfl
theorem s_X_otherMason_5 : Ev sh 154 5 [a0] st σ Q = Ev sh 154 9 [a0] st σ Q := Ev_step rfl
theorem s_X_otherMason_8 : Ev sh 154 8 [a0] st σ Q = Ev sh 154 9 [a0] (.int 0 :: st) σ Q := Ev_step rfl
theorem s_X_otherMason_9 : Ev sh 154 9 [a0] [.int x] σ Q = Q (some (.int x)) σ := Ev_ret rfl
theorem s_X_oneIf_0 : Ev sh 155 0 [some (.int x)] st σ Q = Ev sh 155 1 [some (.int x)] (.int x :: st) σ Q := Ev_step rfl
theorem s_X_oneIf_1 : Ev sh 155 1 [a0] (.int x :: st) σ Q = if x = 0 then Ev sh 155 8 [a0] st σ Q else Ev sh 155 4 [a0] st σ Q := Ev_if rfl
theorem s_X_oneIf_4 : Ev sh 155 4 [a0] st σ Q = Ev sh 155 5 [a0] (.int 1 :: st) σ Q := Ev_step rfl
theorem s_X_oneIf_5 : Ev sh 155 5 [a0] st σ Q = Ev sh 155 9 [a0] st σ Q := Ev_step rfl
theorem s_X_oneIf_8 : Ev sh 155 8 [a0] st σ Q = Ev sh 155 9 [a0] (.int 0 :: st) σ Q := Ev_step rfl
theorem s_X_oneIf_9 : Ev sh 155 9 [a0] [.int x] σ Q = Q (some (.int x)) σ := Ev_ret rfl
theorem s_X_hasBit_0 : Ev sh 156 0 [some (.int x), a1] st σ Q = Ev sh 156 1 [some (.int x), a1] (.int x :: st) σ Q := Ev_step rfl
theorem s_X_hasBit_1 : Ev sh 156 1 [a0, some (.int x)] st σ Q = Ev sh 156 2 [a0, some (.int x)] (.int x :: st) σ Q := Ev_step rfl
theorem s_X_hasBit_2 : Ev sh 156 2 [a0, a1] (.int y :: .int x :: st) σ Q = Ev sh 156 3 [a0, a1] (.int (x >>> (y &&& 31)) :: st) σ Q := Ev_step rfl
theorem s_X_hasBit_3 : Ev sh 156 3 [a0, a1] st σ Q = Ev sh 156 4 [a0, a1] (.int 1 :: st) σ Q := Ev_step rfl
theorem s_X_hasBit_4 : Ev sh 156 4 [a0, a1] (.int y :: .int x :: st) σ Q = Ev sh 156 5 [a0, a1] (.int (x &&& y) :: st) σ Q := Ev_step rfl
theorem s_X_hasBit_5 : Ev sh 156 5 [a0, a1] st σ Q = Ev sh 156 6 [a0, a1] (.int 1 :: st) σ Q := Ev_step rfl
theorem s_X_hasBit_6 : Ev sh 156 6 [a0, a1] (.int y :: .int x :: st) σ Q = if x ≠ y then Ev sh 156 13 [a0, a1] st σ Q else Ev sh 156 9 [a0, a1] st σ Q := Ev_if rfl
theorem s_X_hasBit_9 : Ev sh 156 9 [a0, a1] st σ Q = Ev sh 156 10 [a0, a1] (.int 1 :: st) σ Q := Ev_step rfl
theorem s_X_hasBit_10 : Ev sh 156 10 [a0, a1] st σ Q = Ev sh 156 14 [a0, a1] st σ Q := Ev_step rfl
theorem s_X_hasBit_13 : Ev sh 156 13 [a0, a1] st σ Q = Ev sh 156 14 [a0, a1] (.int 0 :: st) σ Q := Ev_step rfl
theorem s_X_hasBit_14 (h : x = 0 ∨ x = 1) : Ev sh 156 14 [a0, a1] [.int x] σ Q = Q (some (.int x)) σ := Ev_rh h rfl
theorem s_X_power_0 : Ev sh 157 0 [a0, a1, a2, a3, a4] st σ Q = Ev sh 157 1 [a0, a1, a2, a3, a4] (.long 1 :: st) σ Q := Ev_step rfl
theorem s_X_power_1 : Ev sh 157 1 [a0, a1, a2, a3, a4] (.long u :: st) σ Q = Ev sh 157 2 [a0, zdrop2 a1, some (.long u), none, a4] st σ Q := Ev_step rfl
theorem s_X_power_2 : Ev sh 157 2 [a0, a1, a2, a3, a4] st σ Q = Ev sh 157 3 [a0, a1, a2, a3, a4] (.int 0 :: st) σ Q := Ev_step rfl
theorem s_X_power_3 : Ev sh 157 3 [a0, a1, a2, a3, a4] (.int x :: st) σ Q = Ev sh 157 5 [a0, a1, a2, zdrop2 a3, some (.int x)] st σ Q := Ev_step rfl
theorem s_X_power_5 : Ev sh 157 5 [a0, a1, a2, a3, some (.int x)] st σ Q = Ev sh 157 7 [a0, a1, a2, a3, some (.int x)] (.int x :: st) σ Q := Ev_step rfl
theorem s_X_power_7 : Ev sh 157 7 [a0, some (.int x), a2, a3, a4] st σ Q = Ev sh 157 8 [a0, some (.int x), a2, a3, a4] (.int x :: st) σ Q := Ev_step rfl
theorem s_X_power_8 : Ev sh 157 8 [a0, a1, a2, a3, a4] (.int y :: .int x :: st) σ Q = if y ≤ x then Ev sh 157 22 [a0, a1, a2, a3, a4] st σ Q else Ev sh 157 11 [a0, a1, a2, a3, a4] st σ Q := Ev_if rfl
theorem s_X_power_11 : Ev sh 157 11 [a0, a1, some (.long u), a3, a4] st σ Q = Ev sh 157 12 [a0, a1, some (.long u), a3, a4] (.long u :: st) σ Q := Ev_step rfl
theorem s_X_power_12 : Ev sh 157 12 [some (.int x), a1, a2, a3, a4] st σ Q = Ev sh 157 13 [some (.int x), a1, a2, a3, a4] (.int x :: st) σ Q := Ev_step rfl
theorem s_X_power_13 : Ev sh 157 13 [a0, a1, a2, a3, a4] (.int x :: st) σ Q = Ev sh 157 14 [a0, a1, a2, a3, a4] (.long x.toInt64 :: st) σ Q := Ev_step rfl
theorem s_X_power_14 : Ev sh 157 14 [a0, a1, a2, a3, a4] (.long v :: .long u :: st) σ Q = Ev sh 157 15 [a0, a1, a2, a3, a4] (.long (u * v) :: st) σ Q := Ev_step rfl
theorem s_X_power_15 : Ev sh 157 15 [a0, a1, a2, a3, a4] (.long u :: st) σ Q = Ev sh 157 16 [a0, zdrop2 a1, some (.long u), none, a4] st σ Q := Ev_step rfl
theorem s_X_power_16 : Ev sh 157 16 [a0, a1, a2, a3, some (.int x)] st σ Q = Ev sh 157 19 [a0, a1, a2, a3, some (.int (x + 1))] st σ Q := Ev_step rfl
theorem s_X_power_19 : Ev sh 157 19 [a0, a1, a2, a3, a4] st σ Q = Ev sh 157 5 [a0, a1, a2, a3, a4] st σ Q := Ev_step rfl
theorem s_X_power_22 : Ev sh 157 22 [a0, a1, some (.long u), a3, a4] st σ Q = Ev sh 157 23 [a0, a1, some (.long u), a3, a4] (.long u :: st) σ Q := Ev_step rfl
theorem s_X_power_23 : Ev sh 157 23 [a0, a1, a2, a3, a4] [.long u] σ Q = Q (some (.long u)) σ := Ev_ret rfl
theorem s_X_inLeastTerms_0 : Ev sh 158 0 [some (.long u), a1, a2, a3, a4, a5, a6] st σ Q = Ev sh 158 1 [some (.long u), a1, a2, a3, a4, a5, a6] (.long u :: st) σ Q := Ev_step rfl
theorem s_X_inLeastTerms_1 : Ev sh 158 1 [a0, a1, a2, a3, a4, a5, a6] st σ Q = Ev sh 158 2 [a0, a1, a2, a3, a4, a5, a6] (.long 0 :: st) σ Q := Ev_step rfl
theorem s_X_inLeastTerms_2 : Ev sh 158 2 [a0, a1, a2, a3, a4, a5, a6] (.long v :: .long u :: st) σ Q = Ev sh 158 3 [a0, a1, a2, a3, a4, a5, a6] (.int (lg_cmp u v) :: st) σ Q := Ev_step rfl
theorem s_X_inLeastTerms_3 : Ev sh 158 3 [a0, a1, a2, a3, a4, a5, a6] (.int x :: st) σ Q = if x = 0 then Ev sh 158 12 [a0, a1, a2, a3, a4, a5, a6] st σ Q else Ev sh 158 6 [a0, a1, a2, a3, a4, a5, a6] st σ Q := Ev_if rfl
theorem s_X_inLeastTerms_6 : Ev sh 158 6 [a0, a1, some (.long u), a3, a4, a5, a6] st σ Q = Ev sh 158 7 [a0, a1, some (.long u), a3, a4, a5, a6] (.long u :: st) σ Q := Ev_step rfl
theorem s_X_inLeastTerms_7 : Ev sh 158 7 [a0, a1, a2, a3, a4, a5, a6] st σ Q = Ev sh 158 8 [a0, a1, a2, a3, a4, a5, a6] (.long 0 :: st) σ Q := Ev_step rfl
theorem s_X_inLeastTerms_8 : Ev sh 158 8 [a0, a1, a2, a3, a4, a5, a6] (.long v :: .long u :: st) σ Q = Ev sh 158 9 [a0, a1, a2, a3, a4, a5, a6] (.int (lg_cmp u v) :: st) σ Q := Ev_step rfl
theorem s_X_inLeastTerms_9 : Ev sh 158 9 [a0, a1, a2, a3, a4, a5, a6] (.int x :: st) σ Q = if x ≠ 0 then Ev sh 158 23 [a0, a1, a2, a3, a4, a5, a6] st σ Q else Ev sh 158 12 [a0, a1, a2, a3, a4, a5, a6] st σ Q := Ev_if rfl
theorem s_X_inLeastTerms_12 : Ev sh 158 12 [a0, a1, a2, a3, some (.int x), a5, a6] st σ Q = Ev sh 158 14 [a0, a1, a2, a3, some (.int x), a5, a6] (.int x :: st) σ Q := Ev_step rfl
theorem s_X_inLeastTerms_14 : Ev sh 158 14 [a0, a1, a2, a3, a4, a5, a6] (.int x :: st) σ Q = if x ≠ 0 then Ev sh 158 21 [a0, a1, a2, a3, a4, a5, a6] st σ Q else Ev sh 158 17 [a0, a1, a2, a3, a4, a5, a6] st σ Q := Ev_if rfl
theorem s_X_inLeastTerms_17 : Ev sh 158 17 [a0, a1, a2, a3, a4, a5, a6] st σ Q = Ev sh 158 18 [a0, a1, a2, a3, a4, a5, a6] (.long 0 :: st) σ Q := Ev_step rfl
theorem s_X_inLeastTerms_18 : Ev sh 158 18 [a0, a1, a2, a3, a4, a5, a6] st σ Q = Ev sh 158 22 [a0, a1, a2, a3, a4, a5, a6] st σ Q := Ev_step rfl
theorem s_X_inLeastTerms_21 : Ev sh 158 21 [a0, a1, a2, a3, a4, a5, a6] st σ Q = Ev sh 158 22 [a0, a1, a2, a3, a4, a5, a6] (.long 1 :: st) σ Q := Ev_step rfl
theorem s_X_inLeastTerms_22 : Ev sh 158 22 [a0, a1, a2, a3, a4, a5, a6] [.long u] σ Q = Q (some (.long u)) σ := Ev_ret rfl
theorem s_X_inLeastTerms_23 : Ev sh 158 23 [some (.long u), a1, a2, a3, a4, a5, a6] st σ Q = Ev sh 158 24 [some (.long u), a1, a2, a3, a4, a5, a6] (.long u :: st) σ Q := Ev_step rfl
theorem s_X_inLeastTerms_24 : Ev sh 158 24 [a0, a1, some (.long u), a3, a4, a5, a6] st σ Q = Ev sh 158 25 [a0, a1, some (.long u), a3, a4, a5, a6] (.long u :: st) σ Q := Ev_step rfl
theorem s_X_inLeastTerms_25 : Ev sh 158 25 [a0, a1, a2, a3, a4, a5, a6] [.long u1, .long u0] σ Q = Ev sh 159 0 [some (.long u0), none, some (.long u1), none, none, none, none] [] σ (fun r s => Ev sh 158 28 [a0, a1, a2, a3, a4, a5, a6] (zpush r []) s Q) := Ev_call rfl
theorem s_X_inLeastTerms_28 : Ev sh 158 28 [a0, a1, a2, a3, a4, a5, a6] (.long u :: st) σ Q = Ev sh 158 30 [a0, a1, a2, a3, zdrop2 a4, some (.long u), none] st σ Q := Ev_step rfl
theorem s_X_inLeastTerms_30 : Ev sh 158 30 [a0, a1, a2, a3, a4, some (.long u), a6] st σ Q = Ev sh 158 32 [a0, a1, a2, a3, a4, some (.long u), a6] (.long u :: st) σ Q := Ev_step rfl
theorem s_X_inLeastTerms_32 : Ev sh 158 32 [a0, a1, a2, a3, a4, a5, a6] st σ Q = Ev sh 158 33 [a0, a1, a2, a3, a4, a5, a6] (.long 0 :: st) σ Q := Ev_step rfl
theorem s_X_inLeastTerms_33 : Ev sh 158 33 [a0, a1, a2, a3, a4, a5, a6] (.long v :: .long u :: st) σ Q = Ev sh 158 34 [a0, a1, a2, a3, a4, a5, a6] (.int (lg_cmp u v) :: st) σ Q := Ev_step rfl
theorem s_X_inLeastTerms_34 : Ev sh 158 34 [a0, a1, a2, a3, a4, a5, a6] (.int x :: st) σ Q = if x ≠ 0 then Ev sh 158 41 [a0, a1, a2, a3, a4, a5, a6] st σ Q else Ev sh 158 37 [a0, a1, a2, a3, a4, a5, a6] st σ Q := Ev_if rfl
theorem s_X_inLeastTerms_37 : Ev sh 158 37 [a0, a1, a2, a3, a4, a5, a6] st σ Q = Ev sh 158 40 [a0, a1, a2, a3, a4, a5, a6] (.long (-9) :: st) σ Q := Ev_step rfl
theorem s_X_inLeastTerms_40 : Ev sh 158 40 [a0, a1, a2, a3, a4, a5, a6] [.long u] σ Q = Q (some (.long u)) σ := Ev_ret rfl
theorem s_X_inLeastTerms_41 : Ev sh 158 41 [a0, a1, a2, a3, some (.int x), a5, a6] st σ Q = Ev sh 158 43 [a0, a1, a2, a3, some (.int x), a5, a6] (.int x :: st) σ Q := Ev_step rfl
theorem s_X_inLeastTerms_43 : Ev sh 158 43 [a0, a1, a2, a3, a4, a5, a6] (.int x :: st) σ Q = if x ≠ 0 then Ev sh 158 53 [a0, a1, a2, a3, a4, a5, a6] st σ Q else Ev sh 158 46 [a0, a1, a2, a3, a4, a5, a6] st σ Q := Ev_if rfl
theorem s_X_inLeastTerms_46 : Ev sh 158 46 [some (.long u), a1, a2, a3, a4, a5, a6] st σ Q = Ev sh 158 47 [some (.long u), a1, a2, a3, a4, a5, a6] (.long u :: st) σ Q := Ev_step rfl
theorem s_X_inLeastTerms_47 : Ev sh 158 47 [a0, a1, a2, a3, a4, some (.long u), a6] st σ Q = Ev sh 158 49 [a0, a1, a2, a3, a4, some (.long u), a6] (.long u :: st) σ Q := Ev_step rfl
theorem s_X_inLeastTerms_49 (h : ¬ v = 0) : Ev sh 158 49 [a0, a1, a2, a3, a4, a5, a6] (.long v :: .long u :: st) σ Q = Ev sh 158 50 [a0, a1, a2, a3, a4, a5, a6] (.long (u / v) :: st) σ Q := Ev_h h rfl
theorem s_X_inLeastTerms_50 : Ev sh 158 50 [a0, a1, a2, a3, a4, a5, a6] st σ Q = Ev sh 158 57 [a0, a1, a2, a3, a4, a5, a6] st σ Q := Ev_step rfl
theorem s_X_inLeastTerms_53 : Ev sh 158 53 [a0, a1, some (.long u), a3, a4, a5, a6] st σ Q = Ev sh 158 54 [a0, a1, some (.long u), a3, a4, a5, a6] (.long u :: st) σ Q := Ev_step rfl
theorem s_X_inLeastTerms_54 : Ev sh 158 54 [a0, a1, a2, a3, a4, some (.long u), a6] st σ Q = Ev sh 158 56 [a0, a1, a2, a3, a4, some (.long u), a6] (.long u :: st) σ Q := Ev_step rfl
theorem s_X_inLeastTerms_56 (h : ¬ v = 0) : Ev sh 158 56 [a0, a1, a2, a3, a4, a5, a6] (.long v :: .long u :: st) σ Q = Ev sh 158 57 [a0, a1, a2, a3, a4, a5, a6] (.long (u / v) :: st) σ Q := Ev_h h rfl
theorem s_X_inLeastTerms_57 : Ev sh 158 57 [a0, a1, a2, a3, a4, a5, a6] [.long u] σ Q = Q (some (.long u)) σ := Ev_ret rfl
theorem s_X_greatestDivisor_0 : Ev sh 159 0 [a0, a1, a2, a3, a4, a5, a6] st σ Q = Ev sh 159 1 [a0, a1, a2, a3, a4, a5, a6] (.int 0 :: st) σ Q := Ev_step rfl
theorem s_X_greatestDivisor_1 : Ev sh 159 1 [a0, a1, a2, a3, a4, a5, a6] (.int x :: st) σ Q = Ev sh 159 3 [a0, a1, a2, zdrop2 a3, some (.int x), a5, a6] st σ Q := Ev_step rfl
theorem s_X_greatestDivisor_3 : Ev sh 159 3 [a0, a1, a2, a3, some (.int x), a5, a6] st σ Q = Ev sh 159 5 [a0, a1, a2, a3, some (.int x), a5, a6] (.int x :: st) σ Q := Ev_step rfl
theorem s_X_greatestDivisor_5 : Ev sh 159 5 [a0, a1, a2, a3, a4, a5, a6] st σ Q = Ev sh 159 7 [a0, a1, a2, a3, a4, a5, a6] (.int 100 :: st) σ Q := Ev_step rfl
theorem s_X_greatestDivisor_7 : Ev sh 159 7 [a0, a1, a2, a3, a4, a5, a6] (.int y :: .int x :: st) σ Q = if y ≤ x then Ev sh 159 32 [a0, a1, a2, a3, a4, a5, a6] st σ Q else Ev sh 159 10 [a0, a1, a2, a3, a4, a5, a6] st σ Q := Ev_if rfl
theorem s_X_greatestDivisor_10 : Ev sh 159 10 [a0, a1, some (.long u), a3, a4, a5, a6] st σ Q = Ev sh 159 11 [a0, a1, some (.long u), a3, a4, a5, a6] (.long u :: st) σ Q := Ev_step rfl
theorem s_X_greatestDivisor_11 : Ev sh 159 11 [a0, a1, a2, a3, a4, a5, a6] st σ Q = Ev sh 159 12 [a0, a1, a2, a3, a4, a5, a6] (.long 0 :: st) σ Q := Ev_step rfl
theorem s_X_greatestDivisor_12 : Ev sh 159 12 [a0, a1, a2, a3, a4, a5, a6] (.long v :: .long u :: st) σ Q = Ev sh 159 13 [a0, a1, a2, a3, a4, a5, a6] (.int (lg_cmp u v) :: st) σ Q := Ev_step rfl
theorem s_X_greatestDivisor_13 : Ev sh 159 13 [a0, a1, a2, a3, a4, a5, a6] (.int x :: st) σ Q = if x = 0 then Ev sh 159 32 [a0, a1, a2, a3, a4, a5, a6] st σ Q else Ev sh 159 16 [a0, a1, a2, a3, a4, a5, a6] st σ Q := Ev_if rfl
theorem s_X_greatestDivisor_16 : Ev sh 159 16 [some (.long u), a1, a2, a3, a4, a5, a6] st σ Q = Ev sh 159 17 [some (.long u), a1, a2, a3, a4, a5, a6] (.long u :: st) σ Q := Ev_step rfl
theorem s_X_greatestDivisor_17 : Ev sh 159 17 [a0, a1, some (.long u), a3, a4, a5, a6] st σ Q = Ev sh 159 18 [a0, a1, some (.long u), a3, a4, a5, a6] (.long u :: st) σ Q := Ev_step rfl
theorem s_X_greatestDivisor_18 (h : ¬ v = 0) : Ev sh 159 18 [a0, a1, a2, a3, a4, a5, a6] (.long v :: .long u :: st) σ Q = Ev sh 159 19 [a0, a1, a2, a3, a4, a5, a6] (.long (u - u / v * v) :: st) σ Q := Ev_h h rfl
theorem s_X_greatestDivisor_19 : Ev sh 159 19 [a0, a1, a2, a3, a4, a5, a6] (.long u :: st) σ Q = Ev sh 159 21 [a0, a1, a2, a3, zdrop2 a4, some (.long u), none] st σ Q := Ev_step rfl
theorem s_X_greatestDivisor_21 : Ev sh 159 21 [a0, a1, some (.long u), a3, a4, a5, a6] st σ Q = Ev sh 159 22 [a0, a1, some (.long u), a3, a4, a5, a6] (.long u :: st) σ Q := Ev_step rfl
theorem s_X_greatestDivisor_22 : Ev sh 159 22 [a0, a1, a2, a3, a4, a5, a6] (.long u :: st) σ Q = Ev sh 159 23 [some (.long u), none, a2, a3, a4, a5, a6] st σ Q := Ev_step rfl
theorem s_X_greatestDivisor_23 : Ev sh 159 23 [a0, a1, a2, a3, a4, some (.long u), a6] st σ Q = Ev sh 159 25 [a0, a1, a2, a3, a4, some (.long u), a6] (.long u :: st) σ Q := Ev_step rfl
theorem s_X_greatestDivisor_25 : Ev sh 159 25 [a0, a1, a2, a3, a4, a5, a6] (.long u :: st) σ Q = Ev sh 159 26 [a0, zdrop2 a1, some (.long u), none, a4, a5, a6] st σ Q := Ev_step rfl
theorem s_X_greatestDivisor_26 : Ev sh 159 26 [a0, a1, a2, a3, some (.int x), a5, a6] st σ Q = Ev sh 159 29 [a0, a1, a2, a3, some (.int (x + 1)), a5, a6] st σ Q := Ev_step rfl
theorem s_X_greatestDivisor_29 : Ev sh 159 29 [a0, a1, a2, a3, a4, a5, a6] st σ Q = Ev sh 159 3 [a0, a1, a2, a3, a4, a5, a6] st σ Q := Ev_step rfl
theorem s_X_greatestDivisor_32 : Ev sh 159 32 [some (.long u), a1, a2, a3, a4, a5, a6] st σ Q = Ev sh 159 33 [some (.long u), a1, a2, a3, a4, a5, a6] (.long u :: st) σ Q := Ev_step rfl
theorem s_X_greatestDivisor_33 : Ev sh 159 33 [a0, a1, a2, a3, a4, a5, a6] [.long u] σ Q = Q (some (.long u)) σ := Ev_ret rfl
end
