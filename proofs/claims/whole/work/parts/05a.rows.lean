section
variable {sh : Nat → Nat} {st : List Value} {σ : zG} {Q : Option Value → zG → Prop} {a0 a1 a2 a3 a4 a5 a6 a7 a8 a9 a10 a11 a12 : Option Value} {x y : Int32} {u v : Int64} {i : Nat} {x0 x1 x2 x3 x4 x5 x6 x7 x8 : Int32} {i0 i1 i2 i3 i4 i5 i6 i7 i8 : Nat} {u0 u1 u2 u3 u4 u5 u6 u7 u8 : Int64}

theorem s_Bridge_become_0 : Ev sh 0 0 [some (.ref i), a1] st σ Q = Ev sh 0 1 [some (.ref i), a1] (.ref i :: st) σ Q := Ev_step rfl
theorem s_Bridge_become_1 (h : sh i = 0) : Ev sh 0 1 [a0, a1] (.ref i :: st) σ Q = Ev sh 0 4 [a0, a1] (.ref (i + 1) :: st) σ Q := Ev_h h rfl
theorem s_Bridge_become_4 : Ev sh 0 4 [a0, some (.ref i)] st σ Q = Ev sh 0 5 [a0, some (.ref i)] (.ref i :: st) σ Q := Ev_step rfl
theorem s_Bridge_become_5 (h : sh i = 0) : Ev sh 0 5 [a0, a1] (.ref i :: st) σ Q = Ev sh 0 8 [a0, a1] (.ref (i + 1) :: st) σ Q := Ev_h h rfl
theorem s_Bridge_become_8 (h : sh i0 = 7) : Ev sh 0 8 [a0, a1] [.ref i1, .ref i0] σ Q = Ev sh 63 0 [some (.ref i0), some (.ref i1), none] [] σ (fun r s => Ev sh 0 11 [a0, a1] (zpush r []) s Q) := Ev_callh (zrecv_of (by decide) h) rfl
theorem s_Bridge_become_11 : Ev sh 0 11 [some (.ref i), a1] st σ Q = Ev sh 0 12 [some (.ref i), a1] (.ref i :: st) σ Q := Ev_step rfl
theorem s_Bridge_become_12 (h : sh i = 0) : Ev sh 0 12 [a0, a1] (.ref i :: st) σ Q = Ev sh 0 15 [a0, a1] (.ref (i + 5) :: st) σ Q := Ev_h h rfl
theorem s_Bridge_become_15 : Ev sh 0 15 [a0, some (.ref i)] st σ Q = Ev sh 0 16 [a0, some (.ref i)] (.ref i :: st) σ Q := Ev_step rfl
theorem s_Bridge_become_16 (h : sh i = 0) : Ev sh 0 16 [a0, a1] (.ref i :: st) σ Q = Ev sh 0 19 [a0, a1] (.ref (i + 5) :: st) σ Q := Ev_h h rfl
theorem s_Bridge_become_19 (h : sh i0 = 4) : Ev sh 0 19 [a0, a1] [.ref i1, .ref i0] σ Q = Ev sh 44 0 [some (.ref i0), some (.ref i1)] [] σ (fun r s => Ev sh 0 22 [a0, a1] (zpush r []) s Q) := Ev_callh (zrecv_of (by decide) h) rfl
theorem s_Bridge_become_22 : Ev sh 0 22 [some (.ref i), a1] st σ Q = Ev sh 0 23 [some (.ref i), a1] (.ref i :: st) σ Q := Ev_step rfl
theorem s_Bridge_become_23 (h : sh i = 0) : Ev sh 0 23 [a0, a1] (.ref i :: st) σ Q = Ev sh 0 26 [a0, a1] (.ref (i + 6) :: st) σ Q := Ev_h h rfl
theorem s_Bridge_become_26 : Ev sh 0 26 [a0, some (.ref i)] st σ Q = Ev sh 0 27 [a0, some (.ref i)] (.ref i :: st) σ Q := Ev_step rfl
theorem s_Bridge_become_27 (h : sh i = 0) : Ev sh 0 27 [a0, a1] (.ref i :: st) σ Q = Ev sh 0 30 [a0, a1] (.ref (i + 6) :: st) σ Q := Ev_h h rfl
theorem s_Bridge_become_30 (h : sh i0 = 4) : Ev sh 0 30 [a0, a1] [.ref i1, .ref i0] σ Q = Ev sh 44 0 [some (.ref i0), some (.ref i1)] [] σ (fun r s => Ev sh 0 33 [a0, a1] (zpush r []) s Q) := Ev_callh (zrecv_of (by decide) h) rfl
theorem s_Bridge_become_33 : Ev sh 0 33 [some (.ref i), a1] st σ Q = Ev sh 0 34 [some (.ref i), a1] (.ref i :: st) σ Q := Ev_step rfl
theorem s_Bridge_become_34 : Ev sh 0 34 [a0, some (.ref i)] st σ Q = Ev sh 0 35 [a0, some (.ref i)] (.ref i :: st) σ Q := Ev_step rfl
theorem s_Bridge_become_35 (h : sh i = 0) : Ev sh 0 35 [a0, a1] (.ref i :: st) σ Q = Ev sh 0 38 [a0, a1] (.int (σ i 3) :: st) σ Q := Ev_h h rfl
theorem s_Bridge_become_38 (h : sh i = 0) : Ev sh 0 38 [a0, a1] (.int x :: .ref i :: st) σ Q = Ev sh 0 41 [a0, a1] st (zup σ i 3 x) Q := Ev_h h rfl
theorem s_Bridge_become_41 : Ev sh 0 41 [some (.ref i), a1] st σ Q = Ev sh 0 42 [some (.ref i), a1] (.ref i :: st) σ Q := Ev_step rfl
theorem s_Bridge_become_42 : Ev sh 0 42 [a0, some (.ref i)] st σ Q = Ev sh 0 43 [a0, some (.ref i)] (.ref i :: st) σ Q := Ev_step rfl
theorem s_Bridge_become_43 (h : sh i = 0) : Ev sh 0 43 [a0, a1] (.ref i :: st) σ Q = Ev sh 0 46 [a0, a1] (.int (σ i 4) :: st) σ Q := Ev_h h rfl
theorem s_Bridge_become_46 (h : sh i = 0) : Ev sh 0 46 [a0, a1] (.int x :: .ref i :: st) σ Q = Ev sh 0 49 [a0, a1] st (zup σ i 4 x) Q := Ev_h h rfl
theorem s_Bridge_become_49 : Ev sh 0 49 [a0, a1] [] σ Q = Q none σ := Ev_ret rfl
theorem s_Bridge_masonOf_0 : Ev sh 1 0 [a0, some (.int x)] st σ Q = Ev sh 1 1 [a0, some (.int x)] (.int x :: st) σ Q := Ev_step rfl
theorem s_Bridge_masonOf_1 : Ev sh 1 1 [a0, a1] st σ Q = Ev sh 1 2 [a0, a1] (.int 1 :: st) σ Q := Ev_step rfl
theorem s_Bridge_masonOf_2 : Ev sh 1 2 [a0, a1] (.int y :: .int x :: st) σ Q = if x ≠ y then Ev sh 1 12 [a0, a1] st σ Q else Ev sh 1 5 [a0, a1] st σ Q := Ev_if rfl
theorem s_Bridge_masonOf_5 : Ev sh 1 5 [some (.ref i), a1] st σ Q = Ev sh 1 6 [some (.ref i), a1] (.ref i :: st) σ Q := Ev_step rfl
theorem s_Bridge_masonOf_6 (h : sh i = 0) : Ev sh 1 6 [a0, a1] (.ref i :: st) σ Q = Ev sh 1 9 [a0, a1] (.ref (i + 6) :: st) σ Q := Ev_h h rfl
theorem s_Bridge_masonOf_9 : Ev sh 1 9 [a0, a1] st σ Q = Ev sh 1 16 [a0, a1] st σ Q := Ev_step rfl
theorem s_Bridge_masonOf_12 : Ev sh 1 12 [some (.ref i), a1] st σ Q = Ev sh 1 13 [some (.ref i), a1] (.ref i :: st) σ Q := Ev_step rfl
theorem s_Bridge_masonOf_13 (h : sh i = 0) : Ev sh 1 13 [a0, a1] (.ref i :: st) σ Q = Ev sh 1 16 [a0, a1] (.ref (i + 5) :: st) σ Q := Ev_h h rfl
theorem s_Bridge_masonOf_16 : Ev sh 1 16 [a0, a1] [.ref i] σ Q = Q (some (.ref i)) σ := Ev_ret rfl
theorem s_Bridge_hasTimeFor_0 : Ev sh 2 0 [a0, some (.int x)] st σ Q = Ev sh 2 1 [a0, some (.int x)] (.int x :: st) σ Q := Ev_step rfl
theorem s_Bridge_hasTimeFor_1 : Ev sh 2 1 [a0, a1] st σ Q = Ev sh 2 4 [a0, a1] (.int 999 :: st) σ Q := Ev_step rfl
theorem s_Bridge_hasTimeFor_4 : Ev sh 2 4 [some (.ref i), a1] st σ Q = Ev sh 2 5 [some (.ref i), a1] (.ref i :: st) σ Q := Ev_step rfl
theorem s_Bridge_hasTimeFor_5 (h : sh i = 0) : Ev sh 2 5 [a0, a1] (.ref i :: st) σ Q = Ev sh 2 8 [a0, a1] (.int (σ i 4) :: st) σ Q := Ev_h h rfl
theorem s_Bridge_hasTimeFor_8 : Ev sh 2 8 [a0, a1] (.int y :: .int x :: st) σ Q = Ev sh 2 9 [a0, a1] (.int (x - y) :: st) σ Q := Ev_step rfl
theorem s_Bridge_hasTimeFor_9 : Ev sh 2 9 [a0, a1] (.int y :: .int x :: st) σ Q = if y < x then Ev sh 2 16 [a0, a1] st σ Q else Ev sh 2 12 [a0, a1] st σ Q := Ev_if rfl
theorem s_Bridge_hasTimeFor_12 : Ev sh 2 12 [a0, a1] st σ Q = Ev sh 2 13 [a0, a1] (.int 1 :: st) σ Q := Ev_step rfl
theorem s_Bridge_hasTimeFor_13 : Ev sh 2 13 [a0, a1] st σ Q = Ev sh 2 17 [a0, a1] st σ Q := Ev_step rfl
theorem s_Bridge_hasTimeFor_16 : Ev sh 2 16 [a0, a1] st σ Q = Ev sh 2 17 [a0, a1] (.int 0 :: st) σ Q := Ev_step rfl
theorem s_Bridge_hasTimeFor_17 (h : x = 0 ∨ x = 1) : Ev sh 2 17 [a0, a1] [.int x] σ Q = Q (some (.int x)) σ := Ev_rh h rfl
theorem s_Bridge_passDays_0 : Ev sh 3 0 [a0, a1, a2] st σ Q = Ev sh 3 1 [a0, a1, a2] (.int 0 :: st) σ Q := Ev_step rfl
theorem s_Bridge_passDays_1 : Ev sh 3 1 [a0, a1, a2] (.int x :: st) σ Q = Ev sh 3 2 [a0, zdrop2 a1, some (.int x)] st σ Q := Ev_step rfl
theorem s_Bridge_passDays_2 : Ev sh 3 2 [a0, a1, some (.int x)] st σ Q = Ev sh 3 3 [a0, a1, some (.int x)] (.int x :: st) σ Q := Ev_step rfl
theorem s_Bridge_passDays_3 : Ev sh 3 3 [a0, some (.int x), a2] st σ Q = Ev sh 3 4 [a0, some (.int x), a2] (.int x :: st) σ Q := Ev_step rfl
theorem s_Bridge_passDays_4 : Ev sh 3 4 [a0, a1, a2] (.int y :: .int x :: st) σ Q = if y ≤ x then Ev sh 3 18 [a0, a1, a2] st σ Q else Ev sh 3 7 [a0, a1, a2] st σ Q := Ev_if rfl
theorem s_Bridge_passDays_7 : Ev sh 3 7 [some (.ref i), a1, a2] st σ Q = Ev sh 3 8 [some (.ref i), a1, a2] (.ref i :: st) σ Q := Ev_step rfl
theorem s_Bridge_passDays_8 : Ev sh 3 8 [a0, a1, a2] st σ Q = Ev sh 3 9 [a0, a1, a2] (.int 1 :: st) σ Q := Ev_step rfl
theorem s_Bridge_passDays_9 (h : sh i0 = 0) : Ev sh 3 9 [a0, a1, a2] [.int x1, .ref i0] σ Q = Ev sh 4 0 [some (.ref i0), some (.int x1)] [] σ (fun r s => Ev sh 3 12 [a0, a1, a2] (zpush r []) s Q) := Ev_callh (zrecv_of (by decide) h) rfl
theorem s_Bridge_passDays_12 : Ev sh 3 12 [a0, a1, some (.int x)] st σ Q = Ev sh 3 15 [a0, a1, some (.int (x + 1))] st σ Q := Ev_step rfl
theorem s_Bridge_passDays_15 : Ev sh 3 15 [a0, a1, a2] st σ Q = Ev sh 3 2 [a0, a1, a2] st σ Q := Ev_step rfl
theorem s_Bridge_passDays_18 : Ev sh 3 18 [a0, a1, a2] [] σ Q = Q none σ := Ev_ret rfl
theorem s_Bridge_passDay_0 : Ev sh 4 0 [some (.ref i), a1] st σ Q = Ev sh 4 1 [some (.ref i), a1] (.ref i :: st) σ Q := Ev_step rfl
theorem s_Bridge_passDay_1 : Ev sh 4 1 [a0, a1] (.ref i :: st) σ Q = Ev sh 4 2 [a0, a1] (.ref i :: .ref i :: st) σ Q := Ev_step rfl
theorem s_Bridge_passDay_2 (h : sh i = 0) : Ev sh 4 2 [a0, a1] (.ref i :: st) σ Q = Ev sh 4 5 [a0, a1] (.int (σ i 4) :: st) σ Q := Ev_h h rfl
theorem s_Bridge_passDay_5 : Ev sh 4 5 [a0, a1] st σ Q = Ev sh 4 6 [a0, a1] (.int 1 :: st) σ Q := Ev_step rfl
theorem s_Bridge_passDay_6 : Ev sh 4 6 [a0, a1] (.int y :: .int x :: st) σ Q = Ev sh 4 7 [a0, a1] (.int (x + y) :: st) σ Q := Ev_step rfl
theorem s_Bridge_passDay_7 (h : sh i = 0) : Ev sh 4 7 [a0, a1] (.int x :: .ref i :: st) σ Q = Ev sh 4 10 [a0, a1] st (zup σ i 4 x) Q := Ev_h h rfl
theorem s_Bridge_passDay_10 : Ev sh 4 10 [some (.ref i), a1] st σ Q = Ev sh 4 11 [some (.ref i), a1] (.ref i :: st) σ Q := Ev_step rfl
theorem s_Bridge_passDay_11 : Ev sh 4 11 [a0, a1] st σ Q = Ev sh 4 12 [a0, a1] (.int 0 :: st) σ Q := Ev_step rfl
theorem s_Bridge_passDay_12 (h : sh i0 = 0) : Ev sh 4 12 [a0, a1] [.int x1, .ref i0] σ Q = Ev sh 5 0 [some (.ref i0), some (.int x1), none, none] [] σ (fun r s => Ev sh 4 15 [a0, a1] (zpush r []) s Q) := Ev_callh (zrecv_of (by decide) h) rfl
theorem s_Bridge_passDay_15 : Ev sh 4 15 [a0, some (.int x)] st σ Q = Ev sh 4 16 [a0, some (.int x)] (.int x :: st) σ Q := Ev_step rfl
theorem s_Bridge_passDay_16 : Ev sh 4 16 [a0, a1] (.int x :: st) σ Q = if x = 0 then Ev sh 4 24 [a0, a1] st σ Q else Ev sh 4 19 [a0, a1] st σ Q := Ev_if rfl
theorem s_Bridge_passDay_19 : Ev sh 4 19 [some (.ref i), a1] st σ Q = Ev sh 4 20 [some (.ref i), a1] (.ref i :: st) σ Q := Ev_step rfl
theorem s_Bridge_passDay_20 : Ev sh 4 20 [a0, a1] st σ Q = Ev sh 4 21 [a0, a1] (.int 1 :: st) σ Q := Ev_step rfl
theorem s_Bridge_passDay_21 (h : sh i0 = 0) : Ev sh 4 21 [a0, a1] [.int x1, .ref i0] σ Q = Ev sh 5 0 [some (.ref i0), some (.int x1), none, none] [] σ (fun r s => Ev sh 4 24 [a0, a1] (zpush r []) s Q) := Ev_callh (zrecv_of (by decide) h) rfl
theorem s_Bridge_passDay_24 : Ev sh 4 24 [a0, a1] [] σ Q = Q none σ := Ev_ret rfl
theorem s_Bridge_work_0 : Ev sh 5 0 [some (.ref i), a1, a2, a3] st σ Q = Ev sh 5 1 [some (.ref i), a1, a2, a3] (.ref i :: st) σ Q := Ev_step rfl
theorem s_Bridge_work_1 : Ev sh 5 1 [a0, some (.int x), a2, a3] st σ Q = Ev sh 5 2 [a0, some (.int x), a2, a3] (.int x :: st) σ Q := Ev_step rfl
theorem s_Bridge_work_2 (h : sh i0 = 0) : Ev sh 5 2 [a0, a1, a2, a3] [.int x1, .ref i0] σ Q = Ev sh 1 0 [some (.ref i0), some (.int x1)] [] σ (fun r s => Ev sh 5 5 [a0, a1, a2, a3] (zpush r []) s Q) := Ev_callh (zrecv_of (by decide) h) rfl
theorem s_Bridge_work_5 : Ev sh 5 5 [a0, a1, a2, a3] (.ref i :: st) σ Q = Ev sh 5 6 [a0, zdrop2 a1, some (.ref i), a3] st σ Q := Ev_step rfl
theorem s_Bridge_work_6 : Ev sh 5 6 [a0, a1, some (.ref i), a3] st σ Q = Ev sh 5 7 [a0, a1, some (.ref i), a3] (.ref i :: st) σ Q := Ev_step rfl
theorem s_Bridge_work_7 (h : sh i = 4) : Ev sh 5 7 [a0, a1, a2, a3] (.ref i :: st) σ Q = Ev sh 5 10 [a0, a1, a2, a3] (.int (σ i 2) :: st) σ Q := Ev_h h rfl
theorem s_Bridge_work_10 : Ev sh 5 10 [some (.ref i), a1, a2, a3] st σ Q = Ev sh 5 11 [some (.ref i), a1, a2, a3] (.ref i :: st) σ Q := Ev_step rfl
theorem s_Bridge_work_11 (h : sh i = 0) : Ev sh 5 11 [a0, a1, a2, a3] (.ref i :: st) σ Q = Ev sh 5 14 [a0, a1, a2, a3] (.int (σ i 3) :: st) σ Q := Ev_h h rfl
theorem s_Bridge_work_14 : Ev sh 5 14 [a0, a1, a2, a3] (.int y :: .int x :: st) σ Q = Ev sh 5 15 [a0, a1, a2, a3] (.int (x + y) :: st) σ Q := Ev_step rfl
theorem s_Bridge_work_15 : Ev sh 5 15 [a0, a1, a2, a3] st σ Q = Ev sh 5 17 [a0, a1, a2, a3] (.int 10 :: st) σ Q := Ev_step rfl
theorem s_Bridge_work_17 (h : ¬ y = 0) : Ev sh 5 17 [a0, a1, a2, a3] (.int y :: .int x :: st) σ Q = Ev sh 5 18 [a0, a1, a2, a3] (.int (x - x / y * y) :: st) σ Q := Ev_h h rfl
theorem s_Bridge_work_18 : Ev sh 5 18 [a0, a1, a2, a3] st σ Q = Ev sh 5 19 [a0, a1, a2, a3] (.int 5 :: st) σ Q := Ev_step rfl
theorem s_Bridge_work_19 : Ev sh 5 19 [a0, a1, a2, a3] (.int y :: .int x :: st) σ Q = if x < y then Ev sh 5 26 [a0, a1, a2, a3] st σ Q else Ev sh 5 22 [a0, a1, a2, a3] st σ Q := Ev_if rfl
theorem s_Bridge_work_22 : Ev sh 5 22 [a0, a1, a2, a3] st σ Q = Ev sh 5 23 [a0, a1, a2, a3] (.int 1 :: st) σ Q := Ev_step rfl
theorem s_Bridge_work_23 : Ev sh 5 23 [a0, a1, a2, a3] st σ Q = Ev sh 5 27 [a0, a1, a2, a3] st σ Q := Ev_step rfl
theorem s_Bridge_work_26 : Ev sh 5 26 [a0, a1, a2, a3] st σ Q = Ev sh 5 27 [a0, a1, a2, a3] (.int 0 :: st) σ Q := Ev_step rfl
theorem s_Bridge_work_27 : Ev sh 5 27 [a0, a1, a2, a3] (.int x :: st) σ Q = Ev sh 5 28 [a0, a1, zdrop2 a2, some (.int x)] st σ Q := Ev_step rfl
theorem s_Bridge_work_28 : Ev sh 5 28 [a0, a1, a2, some (.int x)] st σ Q = Ev sh 5 29 [a0, a1, a2, some (.int x)] (.int x :: st) σ Q := Ev_step rfl
theorem s_Bridge_work_29 : Ev sh 5 29 [a0, a1, a2, a3] (.int x :: st) σ Q = if x = 0 then Ev sh 5 82 [a0, a1, a2, a3] st σ Q else Ev sh 5 32 [a0, a1, a2, a3] st σ Q := Ev_if rfl
theorem s_Bridge_work_32 : Ev sh 5 32 [some (.ref i), a1, a2, a3] st σ Q = Ev sh 5 33 [some (.ref i), a1, a2, a3] (.ref i :: st) σ Q := Ev_step rfl
theorem s_Bridge_work_33 (h : sh i = 0) : Ev sh 5 33 [a0, a1, a2, a3] (.ref i :: st) σ Q = Ev sh 5 36 [a0, a1, a2, a3] (.ref (i + 1) :: st) σ Q := Ev_h h rfl
theorem s_Bridge_work_36 : Ev sh 5 36 [a0, some (.int x), a2, a3] st σ Q = Ev sh 5 37 [a0, some (.int x), a2, a3] (.int x :: st) σ Q := Ev_step rfl
theorem s_Bridge_work_37 : Ev sh 5 37 [a0, a1, some (.ref i), a3] st σ Q = Ev sh 5 38 [a0, a1, some (.ref i), a3] (.ref i :: st) σ Q := Ev_step rfl
theorem s_Bridge_work_38 (h : sh i = 4) : Ev sh 5 38 [a0, a1, a2, a3] (.ref i :: st) σ Q = Ev sh 5 41 [a0, a1, a2, a3] (.int (σ i 0) :: st) σ Q := Ev_h h rfl
theorem s_Bridge_work_41 (h : sh i0 = 7) : Ev sh 5 41 [a0, a1, a2, a3] [.int x2, .int x1, .ref i0] σ Q = Ev sh 68 0 [some (.ref i0), some (.int x1), some (.int x2), none] [] σ (fun r s => Ev sh 5 44 [a0, a1, a2, a3] (zpush r []) s Q) := Ev_callh (zrecv_of (by decide) h) rfl
theorem s_Bridge_work_44 : Ev sh 5 44 [a0, a1, a2, a3] (.int x :: st) σ Q = if x = 0 then Ev sh 5 82 [a0, a1, a2, a3] st σ Q else Ev sh 5 47 [a0, a1, a2, a3] st σ Q := Ev_if rfl
theorem s_Bridge_work_47 : Ev sh 5 47 [some (.ref i), a1, a2, a3] st σ Q = Ev sh 5 48 [some (.ref i), a1, a2, a3] (.ref i :: st) σ Q := Ev_step rfl
theorem s_Bridge_work_48 (h : sh i = 0) : Ev sh 5 48 [a0, a1, a2, a3] (.ref i :: st) σ Q = Ev sh 5 51 [a0, a1, a2, a3] (.ref (i + 1) :: st) σ Q := Ev_h h rfl
theorem s_Bridge_work_51 : Ev sh 5 51 [a0, a1, some (.ref i), a3] st σ Q = Ev sh 5 52 [a0, a1, some (.ref i), a3] (.ref i :: st) σ Q := Ev_step rfl
theorem s_Bridge_work_52 (h : sh i = 4) : Ev sh 5 52 [a0, a1, a2, a3] (.ref i :: st) σ Q = Ev sh 5 55 [a0, a1, a2, a3] (.int (σ i 0) :: st) σ Q := Ev_h h rfl
theorem s_Bridge_work_55 : Ev sh 5 55 [a0, a1, some (.ref i), a3] st σ Q = Ev sh 5 56 [a0, a1, some (.ref i), a3] (.ref i :: st) σ Q := Ev_step rfl
theorem s_Bridge_work_56 (h : sh i = 4) : Ev sh 5 56 [a0, a1, a2, a3] (.ref i :: st) σ Q = Ev sh 5 59 [a0, a1, a2, a3] (.int (σ i 1) :: st) σ Q := Ev_h h rfl
theorem s_Bridge_work_59 : Ev sh 5 59 [a0, some (.int x), a2, a3] st σ Q = Ev sh 5 60 [a0, some (.int x), a2, a3] (.int x :: st) σ Q := Ev_step rfl
theorem s_Bridge_work_60 (h : sh i0 = 7) : Ev sh 5 60 [a0, a1, a2, a3] [.int x3, .int x2, .int x1, .ref i0] σ Q = Ev sh 69 0 [some (.ref i0), some (.int x1), some (.int x2), some (.int x3), none] [] σ (fun r s => Ev sh 5 63 [a0, a1, a2, a3] (zpush r []) s Q) := Ev_callh (zrecv_of (by decide) h) rfl
theorem s_Bridge_work_63 : Ev sh 5 63 [some (.ref i), a1, a2, a3] st σ Q = Ev sh 5 64 [some (.ref i), a1, a2, a3] (.ref i :: st) σ Q := Ev_step rfl
theorem s_Bridge_work_64 : Ev sh 5 64 [some (.ref i), a1, a2, a3] st σ Q = Ev sh 5 65 [some (.ref i), a1, a2, a3] (.ref i :: st) σ Q := Ev_step rfl
theorem s_Bridge_work_65 (h : sh i = 0) : Ev sh 5 65 [a0, a1, a2, a3] (.ref i :: st) σ Q = Ev sh 5 68 [a0, a1, a2, a3] (.int (σ i 3) :: st) σ Q := Ev_h h rfl
theorem s_Bridge_work_68 : Ev sh 5 68 [a0, a1, a2, a3] st σ Q = Ev sh 5 69 [a0, a1, a2, a3] (.int 1 :: st) σ Q := Ev_step rfl
theorem s_Bridge_work_69 : Ev sh 5 69 [a0, a1, a2, a3] (.int y :: .int x :: st) σ Q = Ev sh 5 70 [a0, a1, a2, a3] (.int (x + y) :: st) σ Q := Ev_step rfl
theorem s_Bridge_work_70 : Ev sh 5 70 [a0, a1, a2, a3] st σ Q = Ev sh 5 73 [a0, a1, a2, a3] (.int 999 :: st) σ Q := Ev_step rfl
theorem s_Bridge_work_73 : Ev sh 5 73 [a0, a1, a2, a3] [.int y, .int x, .ref i0] σ Q = Ev sh 5 76 [a0, a1, a2, a3] [.int (if y < x then y else x), .ref i0] σ Q := Ev_step rfl
theorem s_Bridge_work_76 (h : sh i = 0) : Ev sh 5 76 [a0, a1, a2, a3] (.int x :: .ref i :: st) σ Q = Ev sh 5 79 [a0, a1, a2, a3] st (zup σ i 3 x) Q := Ev_h h rfl
theorem s_Bridge_work_79 : Ev sh 5 79 [a0, a1, a2, a3] st σ Q = Ev sh 5 108 [a0, a1, a2, a3] st σ Q := Ev_step rfl
theorem s_Bridge_work_82 : Ev sh 5 82 [some (.ref i), a1, a2, a3] st σ Q = Ev sh 5 83 [some (.ref i), a1, a2, a3] (.ref i :: st) σ Q := Ev_step rfl
theorem s_Bridge_work_83 (h : sh i = 0) : Ev sh 5 83 [a0, a1, a2, a3] (.ref i :: st) σ Q = Ev sh 5 86 [a0, a1, a2, a3] (.ref (i + 1) :: st) σ Q := Ev_h h rfl
theorem s_Bridge_work_86 (h : sh i0 = 7) : Ev sh 5 86 [a0, a1, a2, a3] [.ref i0] σ Q = Ev sh 71 0 [some (.ref i0)] [] σ (fun r s => Ev sh 5 89 [a0, a1, a2, a3] (zpush r []) s Q) := Ev_callh (zrecv_of (by decide) h) rfl
theorem s_Bridge_work_89 : Ev sh 5 89 [a0, a1, a2, a3] (.int x :: st) σ Q = if x = 0 then Ev sh 5 108 [a0, a1, a2, a3] st σ Q else Ev sh 5 92 [a0, a1, a2, a3] st σ Q := Ev_if rfl
theorem s_Bridge_work_92 : Ev sh 5 92 [some (.ref i), a1, a2, a3] st σ Q = Ev sh 5 93 [some (.ref i), a1, a2, a3] (.ref i :: st) σ Q := Ev_step rfl
theorem s_Bridge_work_93 (h : sh i = 0) : Ev sh 5 93 [a0, a1, a2, a3] (.ref i :: st) σ Q = Ev sh 5 96 [a0, a1, a2, a3] (.ref (i + 1) :: st) σ Q := Ev_h h rfl
theorem s_Bridge_work_96 : Ev sh 5 96 [a0, a1, some (.ref i), a3] st σ Q = Ev sh 5 97 [a0, a1, some (.ref i), a3] (.ref i :: st) σ Q := Ev_step rfl
theorem s_Bridge_work_97 (h : sh i = 4) : Ev sh 5 97 [a0, a1, a2, a3] (.ref i :: st) σ Q = Ev sh 5 100 [a0, a1, a2, a3] (.int (σ i 0) :: st) σ Q := Ev_h h rfl
theorem s_Bridge_work_100 : Ev sh 5 100 [a0, a1, some (.ref i), a3] st σ Q = Ev sh 5 101 [a0, a1, some (.ref i), a3] (.ref i :: st) σ Q := Ev_step rfl
theorem s_Bridge_work_101 (h : sh i = 4) : Ev sh 5 101 [a0, a1, a2, a3] (.ref i :: st) σ Q = Ev sh 5 104 [a0, a1, a2, a3] (.int (σ i 1) :: st) σ Q := Ev_h h rfl
theorem s_Bridge_work_104 : Ev sh 5 104 [a0, some (.int x), a2, a3] st σ Q = Ev sh 5 105 [a0, some (.int x), a2, a3] (.int x :: st) σ Q := Ev_step rfl
theorem s_Bridge_work_105 (h : sh i0 = 7) : Ev sh 5 105 [a0, a1, a2, a3] [.int x3, .int x2, .int x1, .ref i0] σ Q = Ev sh 64 0 [some (.ref i0), some (.int x1), some (.int x2), some (.int x3)] [] σ (fun r s => Ev sh 5 108 [a0, a1, a2, a3] (zpush r []) s Q) := Ev_callh (zrecv_of (by decide) h) rfl
theorem s_Bridge_work_108 : Ev sh 5 108 [a0, a1, a2, a3] [] σ Q = Q none σ := Ev_ret rfl
theorem s_Draws_beginWith_0 : Ev sh 6 0 [some (.ref i), a1] st σ Q = Ev sh 6 1 [some (.ref i), a1] (.ref i :: st) σ Q := Ev_step rfl
theorem s_Draws_beginWith_1 : Ev sh 6 1 [a0, some (.int x)] st σ Q = Ev sh 6 2 [a0, some (.int x)] (.int x :: st) σ Q := Ev_step rfl
theorem s_Draws_beginWith_2 (h : sh i = 1) : Ev sh 6 2 [a0, a1] (.int x :: .ref i :: st) σ Q = Ev sh 6 5 [a0, a1] st (zup σ i 0 x) Q := Ev_h h rfl
theorem s_Draws_beginWith_5 : Ev sh 6 5 [a0, a1] [] σ Q = Q none σ := Ev_ret rfl
theorem s_Draws_below_0 : Ev sh 7 0 [some (.ref i), a1] st σ Q = Ev sh 7 1 [some (.ref i), a1] (.ref i :: st) σ Q := Ev_step rfl
theorem s_Draws_below_1 : Ev sh 7 1 [some (.ref i), a1] st σ Q = Ev sh 7 2 [some (.ref i), a1] (.ref i :: st) σ Q := Ev_step rfl
theorem s_Draws_below_2 (h : sh i = 1) : Ev sh 7 2 [a0, a1] (.ref i :: st) σ Q = Ev sh 7 5 [a0, a1] (.int (σ i 0) :: st) σ Q := Ev_h h rfl
theorem s_Draws_below_5 : Ev sh 7 5 [a0, a1] st σ Q = Ev sh 7 7 [a0, a1] (.int 1664525 :: st) σ Q := Ev_step rfl
theorem s_Draws_below_7 : Ev sh 7 7 [a0, a1] (.int y :: .int x :: st) σ Q = Ev sh 7 8 [a0, a1] (.int (x * y) :: st) σ Q := Ev_step rfl
theorem s_Draws_below_8 : Ev sh 7 8 [a0, a1] st σ Q = Ev sh 7 10 [a0, a1] (.int 1013904223 :: st) σ Q := Ev_step rfl
theorem s_Draws_below_10 : Ev sh 7 10 [a0, a1] (.int y :: .int x :: st) σ Q = Ev sh 7 11 [a0, a1] (.int (x + y) :: st) σ Q := Ev_step rfl
theorem s_Draws_below_11 (h : sh i = 1) : Ev sh 7 11 [a0, a1] (.int x :: .ref i :: st) σ Q = Ev sh 7 14 [a0, a1] st (zup σ i 0 x) Q := Ev_h h rfl
theorem s_Draws_below_14 : Ev sh 7 14 [a0, some (.int x)] st σ Q = Ev sh 7 15 [a0, some (.int x)] (.int x :: st) σ Q := Ev_step rfl
theorem s_Draws_below_15 : Ev sh 7 15 [a0, a1] (.int x :: st) σ Q = if x ≤ 0 then Ev sh 7 34 [a0, a1] st σ Q else Ev sh 7 18 [a0, a1] st σ Q := Ev_if rfl
theorem s_Draws_below_18 : Ev sh 7 18 [some (.ref i), a1] st σ Q = Ev sh 7 19 [some (.ref i), a1] (.ref i :: st) σ Q := Ev_step rfl
theorem s_Draws_below_19 (h : sh i = 1) : Ev sh 7 19 [a0, a1] (.ref i :: st) σ Q = Ev sh 7 22 [a0, a1] (.int (σ i 0) :: st) σ Q := Ev_h h rfl
theorem s_Draws_below_22 : Ev sh 7 22 [a0, a1] st σ Q = Ev sh 7 24 [a0, a1] (.int 2147483647 :: st) σ Q := Ev_step rfl
theorem s_Draws_below_24 : Ev sh 7 24 [a0, a1] (.int y :: .int x :: st) σ Q = Ev sh 7 25 [a0, a1] (.int (x &&& y) :: st) σ Q := Ev_step rfl
theorem s_Draws_below_25 : Ev sh 7 25 [a0, a1] st σ Q = Ev sh 7 28 [a0, a1] (.int 256 :: st) σ Q := Ev_step rfl
theorem s_Draws_below_28 (h : ¬ y = 0) : Ev sh 7 28 [a0, a1] (.int y :: .int x :: st) σ Q = Ev sh 7 29 [a0, a1] (.int (x / y) :: st) σ Q := Ev_h h rfl
theorem s_Draws_below_29 : Ev sh 7 29 [a0, some (.int x)] st σ Q = Ev sh 7 30 [a0, some (.int x)] (.int x :: st) σ Q := Ev_step rfl
theorem s_Draws_below_30 (h : ¬ y = 0) : Ev sh 7 30 [a0, a1] (.int y :: .int x :: st) σ Q = Ev sh 7 31 [a0, a1] (.int (x - x / y * y) :: st) σ Q := Ev_h h rfl
theorem s_Draws_below_31 : Ev sh 7 31 [a0, a1] st σ Q = Ev sh 7 35 [a0, a1] st σ Q := Ev_step rfl
theorem s_Draws_below_34 : Ev sh 7 34 [a0, a1] st σ Q = Ev sh 7 35 [a0, a1] (.int 0 :: st) σ Q := Ev_step rfl
theorem s_Draws_below_35 : Ev sh 7 35 [a0, a1] [.int x] σ Q = Q (some (.int x)) σ := Ev_ret rfl
theorem s_Foresight_behind_0 : Ev sh 8 0 [some (.ref i), a1] st σ Q = Ev sh 8 1 [some (.ref i), a1] (.ref i :: st) σ Q := Ev_step rfl
theorem s_Foresight_behind_1 (h : sh i = 2) : Ev sh 8 1 [a0, a1] (.ref i :: st) σ Q = Ev sh 8 4 [a0, a1] (.ref 27 :: st) σ Q := Ev_h h rfl
theorem s_Foresight_behind_4 : Ev sh 8 4 [some (.ref i), a1] st σ Q = Ev sh 8 5 [some (.ref i), a1] (.ref i :: st) σ Q := Ev_step rfl
theorem s_Foresight_behind_5 (h : sh i = 2) : Ev sh 8 5 [a0, a1] (.ref i :: st) σ Q = Ev sh 8 8 [a0, a1] (.ref 1 :: st) σ Q := Ev_h h rfl
theorem s_Foresight_behind_8 (h : sh i0 = 0) : Ev sh 8 8 [a0, a1] [.ref i1, .ref i0] σ Q = Ev sh 0 0 [some (.ref i0), some (.ref i1)] [] σ (fun r s => Ev sh 8 11 [a0, a1] (zpush r []) s Q) := Ev_callh (zrecv_of (by decide) h) rfl
theorem s_Foresight_behind_11 : Ev sh 8 11 [some (.ref i), a1] st σ Q = Ev sh 8 12 [some (.ref i), a1] (.ref i :: st) σ Q := Ev_step rfl
theorem s_Foresight_behind_12 (h : sh i = 2) : Ev sh 8 12 [a0, a1] (.ref i :: st) σ Q = Ev sh 8 15 [a0, a1] (.ref 27 :: st) σ Q := Ev_h h rfl
theorem s_Foresight_behind_15 : Ev sh 8 15 [a0, some (.int x)] st σ Q = Ev sh 8 16 [a0, some (.int x)] (.int x :: st) σ Q := Ev_step rfl
theorem s_Foresight_behind_16 (h : sh i0 = 0) : Ev sh 8 16 [a0, a1] [.int x1, .ref i0] σ Q = Ev sh 3 0 [some (.ref i0), some (.int x1), none] [] σ (fun r s => Ev sh 8 19 [a0, a1] (zpush r []) s Q) := Ev_callh (zrecv_of (by decide) h) rfl
theorem s_Foresight_behind_19 : Ev sh 8 19 [some (.ref i), a1] st σ Q = Ev sh 8 20 [some (.ref i), a1] (.ref i :: st) σ Q := Ev_step rfl
theorem s_Foresight_behind_20 (h : sh i = 2) : Ev sh 8 20 [a0, a1] (.ref i :: st) σ Q = Ev sh 8 23 [a0, a1] (.ref 27 :: st) σ Q := Ev_h h rfl
theorem s_Foresight_behind_23 : Ev sh 8 23 [a0, a1] [.ref i] σ Q = Q (some (.ref i)) σ := Ev_ret rfl
theorem s_Foresight_dayWhenUp_0 : Ev sh 9 0 [some (.ref i), a1] st σ Q = Ev sh 9 1 [some (.ref i), a1] (.ref i :: st) σ Q := Ev_step rfl
theorem s_Foresight_dayWhenUp_1 (h : sh i = 2) : Ev sh 9 1 [a0, a1] (.ref i :: st) σ Q = Ev sh 9 4 [a0, a1] (.ref 27 :: st) σ Q := Ev_h h rfl
theorem s_Foresight_dayWhenUp_4 : Ev sh 9 4 [some (.ref i), a1] st σ Q = Ev sh 9 5 [some (.ref i), a1] (.ref i :: st) σ Q := Ev_step rfl
theorem s_Foresight_dayWhenUp_5 (h : sh i = 2) : Ev sh 9 5 [a0, a1] (.ref i :: st) σ Q = Ev sh 9 8 [a0, a1] (.ref 1 :: st) σ Q := Ev_h h rfl
theorem s_Foresight_dayWhenUp_8 (h : sh i0 = 0) : Ev sh 9 8 [a0, a1] [.ref i1, .ref i0] σ Q = Ev sh 0 0 [some (.ref i0), some (.ref i1)] [] σ (fun r s => Ev sh 9 11 [a0, a1] (zpush r []) s Q) := Ev_callh (zrecv_of (by decide) h) rfl
theorem s_Foresight_dayWhenUp_11 : Ev sh 9 11 [a0, a1] st σ Q = Ev sh 9 12 [a0, a1] (.int 0 :: st) σ Q := Ev_step rfl
theorem s_Foresight_dayWhenUp_12 : Ev sh 9 12 [a0, a1] (.int x :: st) σ Q = Ev sh 9 13 [zdrop2 a0, some (.int x)] st σ Q := Ev_step rfl
theorem s_Foresight_dayWhenUp_13 : Ev sh 9 13 [a0, some (.int x)] st σ Q = Ev sh 9 14 [a0, some (.int x)] (.int x :: st) σ Q := Ev_step rfl
theorem s_Foresight_dayWhenUp_14 : Ev sh 9 14 [a0, a1] st σ Q = Ev sh 9 16 [a0, a1] (.int 60 :: st) σ Q := Ev_step rfl
theorem s_Foresight_dayWhenUp_16 : Ev sh 9 16 [a0, a1] (.int y :: .int x :: st) σ Q = if y < x then Ev sh 9 61 [a0, a1] st σ Q else Ev sh 9 19 [a0, a1] st σ Q := Ev_if rfl
theorem s_Foresight_dayWhenUp_19 : Ev sh 9 19 [some (.ref i), a1] st σ Q = Ev sh 9 20 [some (.ref i), a1] (.ref i :: st) σ Q := Ev_step rfl
theorem s_Foresight_dayWhenUp_20 (h : sh i = 2) : Ev sh 9 20 [a0, a1] (.ref i :: st) σ Q = Ev sh 9 23 [a0, a1] (.ref 27 :: st) σ Q := Ev_h h rfl
theorem s_Foresight_dayWhenUp_23 (h : sh i = 0) : Ev sh 9 23 [a0, a1] (.ref i :: st) σ Q = Ev sh 9 26 [a0, a1] (.ref (i + 1) :: st) σ Q := Ev_h h rfl
theorem s_Foresight_dayWhenUp_26 (h : sh i0 = 7) : Ev sh 9 26 [a0, a1] [.ref i0] σ Q = Ev sh 71 0 [some (.ref i0)] [] σ (fun r s => Ev sh 9 29 [a0, a1] (zpush r []) s Q) := Ev_callh (zrecv_of (by decide) h) rfl
theorem s_Foresight_dayWhenUp_29 : Ev sh 9 29 [a0, a1] (.int x :: st) σ Q = if x ≠ 0 then Ev sh 9 47 [a0, a1] st σ Q else Ev sh 9 32 [a0, a1] st σ Q := Ev_if rfl
theorem s_Foresight_dayWhenUp_32 : Ev sh 9 32 [some (.ref i), a1] st σ Q = Ev sh 9 33 [some (.ref i), a1] (.ref i :: st) σ Q := Ev_step rfl
theorem s_Foresight_dayWhenUp_33 (h : sh i = 2) : Ev sh 9 33 [a0, a1] (.ref i :: st) σ Q = Ev sh 9 36 [a0, a1] (.ref 27 :: st) σ Q := Ev_h h rfl
theorem s_Foresight_dayWhenUp_36 (h : sh i = 0) : Ev sh 9 36 [a0, a1] (.ref i :: st) σ Q = Ev sh 9 39 [a0, a1] (.ref (i + 1) :: st) σ Q := Ev_h h rfl
theorem s_Foresight_dayWhenUp_39 (h : sh i0 = 7) : Ev sh 9 39 [a0, a1] [.ref i0] σ Q = Ev sh 90 0 [some (.ref i0)] [] σ (fun r s => Ev sh 9 42 [a0, a1] (zpush r []) s Q) := Ev_callh (zrecv_of (by decide) h) rfl
theorem s_Foresight_dayWhenUp_42 : Ev sh 9 42 [a0, a1] (.int x :: st) σ Q = if x = 0 then Ev sh 9 47 [a0, a1] st σ Q else Ev sh 9 45 [a0, a1] st σ Q := Ev_if rfl
theorem s_Foresight_dayWhenUp_45 : Ev sh 9 45 [a0, some (.int x)] st σ Q = Ev sh 9 46 [a0, some (.int x)] (.int x :: st) σ Q := Ev_step rfl
theorem s_Foresight_dayWhenUp_46 : Ev sh 9 46 [a0, a1] [.int x] σ Q = Q (some (.int x)) σ := Ev_ret rfl
theorem s_Foresight_dayWhenUp_47 : Ev sh 9 47 [some (.ref i), a1] st σ Q = Ev sh 9 48 [some (.ref i), a1] (.ref i :: st) σ Q := Ev_step rfl
theorem s_Foresight_dayWhenUp_48 (h : sh i = 2) : Ev sh 9 48 [a0, a1] (.ref i :: st) σ Q = Ev sh 9 51 [a0, a1] (.ref 27 :: st) σ Q := Ev_h h rfl
theorem s_Foresight_dayWhenUp_51 : Ev sh 9 51 [a0, a1] st σ Q = Ev sh 9 52 [a0, a1] (.int 1 :: st) σ Q := Ev_step rfl
theorem s_Foresight_dayWhenUp_52 (h : sh i0 = 0) : Ev sh 9 52 [a0, a1] [.int x1, .ref i0] σ Q = Ev sh 4 0 [some (.ref i0), some (.int x1)] [] σ (fun r s => Ev sh 9 55 [a0, a1] (zpush r []) s Q) := Ev_callh (zrecv_of (by decide) h) rfl
theorem s_Foresight_dayWhenUp_55 : Ev sh 9 55 [a0, some (.int x)] st σ Q = Ev sh 9 58 [a0, some (.int (x + 1))] st σ Q := Ev_step rfl
theorem s_Foresight_dayWhenUp_58 : Ev sh 9 58 [a0, a1] st σ Q = Ev sh 9 13 [a0, a1] st σ Q := Ev_step rfl
theorem s_Foresight_dayWhenUp_61 : Ev sh 9 61 [a0, a1] st σ Q = Ev sh 9 63 [a0, a1] (.int (-9) :: st) σ Q := Ev_step rfl
theorem s_Foresight_dayWhenUp_63 : Ev sh 9 63 [a0, a1] [.int x] σ Q = Q (some (.int x)) σ := Ev_ret rfl
theorem s_Foresight_dayOfFall_0 : Ev sh 10 0 [some (.ref i), a1] st σ Q = Ev sh 10 1 [some (.ref i), a1] (.ref i :: st) σ Q := Ev_step rfl
theorem s_Foresight_dayOfFall_1 (h : sh i = 2) : Ev sh 10 1 [a0, a1] (.ref i :: st) σ Q = Ev sh 10 4 [a0, a1] (.ref 27 :: st) σ Q := Ev_h h rfl
theorem s_Foresight_dayOfFall_4 : Ev sh 10 4 [some (.ref i), a1] st σ Q = Ev sh 10 5 [some (.ref i), a1] (.ref i :: st) σ Q := Ev_step rfl
theorem s_Foresight_dayOfFall_5 (h : sh i = 2) : Ev sh 10 5 [a0, a1] (.ref i :: st) σ Q = Ev sh 10 8 [a0, a1] (.ref 1 :: st) σ Q := Ev_h h rfl
theorem s_Foresight_dayOfFall_8 (h : sh i0 = 0) : Ev sh 10 8 [a0, a1] [.ref i1, .ref i0] σ Q = Ev sh 0 0 [some (.ref i0), some (.ref i1)] [] σ (fun r s => Ev sh 10 11 [a0, a1] (zpush r []) s Q) := Ev_callh (zrecv_of (by decide) h) rfl
theorem s_Foresight_dayOfFall_11 : Ev sh 10 11 [a0, a1] st σ Q = Ev sh 10 12 [a0, a1] (.int 0 :: st) σ Q := Ev_step rfl
theorem s_Foresight_dayOfFall_12 : Ev sh 10 12 [a0, a1] (.int x :: st) σ Q = Ev sh 10 13 [zdrop2 a0, some (.int x)] st σ Q := Ev_step rfl
theorem s_Foresight_dayOfFall_13 : Ev sh 10 13 [a0, some (.int x)] st σ Q = Ev sh 10 14 [a0, some (.int x)] (.int x :: st) σ Q := Ev_step rfl
theorem s_Foresight_dayOfFall_14 : Ev sh 10 14 [a0, a1] st σ Q = Ev sh 10 16 [a0, a1] (.int 60 :: st) σ Q := Ev_step rfl
theorem s_Foresight_dayOfFall_16 : Ev sh 10 16 [a0, a1] (.int y :: .int x :: st) σ Q = if y < x then Ev sh 10 48 [a0, a1] st σ Q else Ev sh 10 19 [a0, a1] st σ Q := Ev_if rfl
theorem s_Foresight_dayOfFall_19 : Ev sh 10 19 [some (.ref i), a1] st σ Q = Ev sh 10 20 [some (.ref i), a1] (.ref i :: st) σ Q := Ev_step rfl
theorem s_Foresight_dayOfFall_20 (h : sh i = 2) : Ev sh 10 20 [a0, a1] (.ref i :: st) σ Q = Ev sh 10 23 [a0, a1] (.ref 27 :: st) σ Q := Ev_h h rfl
theorem s_Foresight_dayOfFall_23 (h : sh i = 0) : Ev sh 10 23 [a0, a1] (.ref i :: st) σ Q = Ev sh 10 26 [a0, a1] (.ref (i + 1) :: st) σ Q := Ev_h h rfl
theorem s_Foresight_dayOfFall_26 (h : sh i0 = 7) : Ev sh 10 26 [a0, a1] [.ref i0] σ Q = Ev sh 90 0 [some (.ref i0)] [] σ (fun r s => Ev sh 10 29 [a0, a1] (zpush r []) s Q) := Ev_callh (zrecv_of (by decide) h) rfl
theorem s_Foresight_dayOfFall_29 : Ev sh 10 29 [a0, a1] (.int x :: st) σ Q = if x ≠ 0 then Ev sh 10 34 [a0, a1] st σ Q else Ev sh 10 32 [a0, a1] st σ Q := Ev_if rfl
theorem s_Foresight_dayOfFall_32 : Ev sh 10 32 [a0, some (.int x)] st σ Q = Ev sh 10 33 [a0, some (.int x)] (.int x :: st) σ Q := Ev_step rfl
theorem s_Foresight_dayOfFall_33 : Ev sh 10 33 [a0, a1] [.int x] σ Q = Q (some (.int x)) σ := Ev_ret rfl
theorem s_Foresight_dayOfFall_34 : Ev sh 10 34 [some (.ref i), a1] st σ Q = Ev sh 10 35 [some (.ref i), a1] (.ref i :: st) σ Q := Ev_step rfl
theorem s_Foresight_dayOfFall_35 (h : sh i = 2) : Ev sh 10 35 [a0, a1] (.ref i :: st) σ Q = Ev sh 10 38 [a0, a1] (.ref 27 :: st) σ Q := Ev_h h rfl
theorem s_Foresight_dayOfFall_38 : Ev sh 10 38 [a0, a1] st σ Q = Ev sh 10 39 [a0, a1] (.int 1 :: st) σ Q := Ev_step rfl
theorem s_Foresight_dayOfFall_39 (h : sh i0 = 0) : Ev sh 10 39 [a0, a1] [.int x1, .ref i0] σ Q = Ev sh 4 0 [some (.ref i0), some (.int x1)] [] σ (fun r s => Ev sh 10 42 [a0, a1] (zpush r []) s Q) := Ev_callh (zrecv_of (by decide) h) rfl
theorem s_Foresight_dayOfFall_42 : Ev sh 10 42 [a0, some (.int x)] st σ Q = Ev sh 10 45 [a0, some (.int (x + 1))] st σ Q := Ev_step rfl
theorem s_Foresight_dayOfFall_45 : Ev sh 10 45 [a0, a1] st σ Q = Ev sh 10 13 [a0, a1] st σ Q := Ev_step rfl
theorem s_Foresight_dayOfFall_48 : Ev sh 10 48 [a0, a1] st σ Q = Ev sh 10 50 [a0, a1] (.int (-9) :: st) σ Q := Ev_step rfl
theorem s_Foresight_dayOfFall_50 : Ev sh 10 50 [a0, a1] [.int x] σ Q = Q (some (.int x)) σ := Ev_ret rfl
theorem s_Foresight_whoHadBetterYield_0 : Ev sh 11 0 [some (.ref i), a1, a2, a3, a4, a5] st σ Q = Ev sh 11 1 [some (.ref i), a1, a2, a3, a4, a5] (.ref i :: st) σ Q := Ev_step rfl
theorem s_Foresight_whoHadBetterYield_1 : Ev sh 11 1 [a0, some (.int x), a2, a3, a4, a5] st σ Q = Ev sh 11 2 [a0, some (.int x), a2, a3, a4, a5] (.int x :: st) σ Q := Ev_step rfl
theorem s_Foresight_whoHadBetterYield_2 (h : sh i0 = 2) : Ev sh 11 2 [a0, a1, a2, a3, a4, a5] [.int x1, .ref i0] σ Q = Ev sh 8 0 [some (.ref i0), some (.int x1)] [] σ (fun r s => Ev sh 11 5 [a0, a1, a2, a3, a4, a5] (zpush r []) s Q) := Ev_callh (zrecv_of (by decide) h) rfl
theorem s_Foresight_whoHadBetterYield_5 (h : sh i = 0) : Ev sh 11 5 [a0, a1, a2, a3, a4, a5] (.ref i :: st) σ Q = Ev sh 11 8 [a0, a1, a2, a3, a4, a5] (.int (σ i 3) :: st) σ Q := Ev_h h rfl
theorem s_Foresight_whoHadBetterYield_8 : Ev sh 11 8 [a0, a1, a2, a3, a4, a5] (.int x :: st) σ Q = Ev sh 11 9 [a0, zdrop2 a1, some (.int x), a3, a4, a5] st σ Q := Ev_step rfl
theorem s_Foresight_whoHadBetterYield_9 : Ev sh 11 9 [a0, a1, a2, a3, a4, a5] st σ Q = Ev sh 11 11 [a0, a1, a2, a3, a4, a5] (.int (-9) :: st) σ Q := Ev_step rfl
theorem s_Foresight_whoHadBetterYield_11 : Ev sh 11 11 [a0, a1, a2, a3, a4, a5] (.int x :: st) σ Q = Ev sh 11 12 [a0, a1, zdrop2 a2, some (.int x), a4, a5] st σ Q := Ev_step rfl
theorem s_Foresight_whoHadBetterYield_12 : Ev sh 11 12 [a0, a1, a2, a3, a4, a5] st σ Q = Ev sh 11 13 [a0, a1, a2, a3, a4, a5] (.int 0 :: st) σ Q := Ev_step rfl
theorem s_Foresight_whoHadBetterYield_13 : Ev sh 11 13 [a0, a1, a2, a3, a4, a5] (.int x :: st) σ Q = Ev sh 11 15 [a0, a1, a2, zdrop2 a3, some (.int x), a5] st σ Q := Ev_step rfl
theorem s_Foresight_whoHadBetterYield_15 : Ev sh 11 15 [a0, a1, a2, a3, some (.int x), a5] st σ Q = Ev sh 11 17 [a0, a1, a2, a3, some (.int x), a5] (.int x :: st) σ Q := Ev_step rfl
theorem s_Foresight_whoHadBetterYield_17 : Ev sh 11 17 [a0, a1, a2, a3, a4, a5] st σ Q = Ev sh 11 18 [a0, a1, a2, a3, a4, a5] (.int 1 :: st) σ Q := Ev_step rfl
theorem s_Foresight_whoHadBetterYield_18 : Ev sh 11 18 [a0, a1, a2, a3, a4, a5] (.int y :: .int x :: st) σ Q = if y < x then Ev sh 11 48 [a0, a1, a2, a3, a4, a5] st σ Q else Ev sh 11 21 [a0, a1, a2, a3, a4, a5] st σ Q := Ev_if rfl
theorem s_Foresight_whoHadBetterYield_21 : Ev sh 11 21 [some (.ref i), a1, a2, a3, a4, a5] st σ Q = Ev sh 11 22 [some (.ref i), a1, a2, a3, a4, a5] (.ref i :: st) σ Q := Ev_step rfl
theorem s_Foresight_whoHadBetterYield_22 : Ev sh 11 22 [a0, a1, a2, a3, some (.int x), a5] st σ Q = Ev sh 11 24 [a0, a1, a2, a3, some (.int x), a5] (.int x :: st) σ Q := Ev_step rfl
theorem s_Foresight_whoHadBetterYield_24 : Ev sh 11 24 [a0, some (.int x), a2, a3, a4, a5] st σ Q = Ev sh 11 25 [a0, some (.int x), a2, a3, a4, a5] (.int x :: st) σ Q := Ev_step rfl
theorem s_Foresight_whoHadBetterYield_25 (h : sh i0 = 2) : Ev sh 11 25 [a0, a1, a2, a3, a4, a5] [.int x2, .int x1, .ref i0] σ Q = Ev sh 12 0 [some (.ref i0), some (.int x1), some (.int x2)] [] σ (fun r s => Ev sh 11 28 [a0, a1, a2, a3, a4, a5] (zpush r []) s Q) := Ev_callh (zrecv_of (by decide) h) rfl
theorem s_Foresight_whoHadBetterYield_28 : Ev sh 11 28 [a0, a1, a2, a3, a4, a5] (.int x :: st) σ Q = Ev sh 11 30 [a0, a1, a2, a3, zdrop2 a4, some (.int x)] st σ Q := Ev_step rfl
theorem s_Foresight_whoHadBetterYield_30 : Ev sh 11 30 [a0, a1, a2, a3, a4, some (.int x)] st σ Q = Ev sh 11 32 [a0, a1, a2, a3, a4, some (.int x)] (.int x :: st) σ Q := Ev_step rfl
theorem s_Foresight_whoHadBetterYield_32 : Ev sh 11 32 [a0, a1, some (.int x), a3, a4, a5] st σ Q = Ev sh 11 33 [a0, a1, some (.int x), a3, a4, a5] (.int x :: st) σ Q := Ev_step rfl
theorem s_Foresight_whoHadBetterYield_33 : Ev sh 11 33 [a0, a1, a2, a3, a4, a5] (.int y :: .int x :: st) σ Q = if y ≤ x then Ev sh 11 42 [a0, a1, a2, a3, a4, a5] st σ Q else Ev sh 11 36 [a0, a1, a2, a3, a4, a5] st σ Q := Ev_if rfl
theorem s_Foresight_whoHadBetterYield_36 : Ev sh 11 36 [a0, a1, a2, a3, a4, some (.int x)] st σ Q = Ev sh 11 38 [a0, a1, a2, a3, a4, some (.int x)] (.int x :: st) σ Q := Ev_step rfl
theorem s_Foresight_whoHadBetterYield_38 : Ev sh 11 38 [a0, a1, a2, a3, a4, a5] (.int x :: st) σ Q = Ev sh 11 39 [a0, zdrop2 a1, some (.int x), a3, a4, a5] st σ Q := Ev_step rfl
theorem s_Foresight_whoHadBetterYield_39 : Ev sh 11 39 [a0, a1, a2, a3, some (.int x), a5] st σ Q = Ev sh 11 41 [a0, a1, a2, a3, some (.int x), a5] (.int x :: st) σ Q := Ev_step rfl
theorem s_Foresight_whoHadBetterYield_41 : Ev sh 11 41 [a0, a1, a2, a3, a4, a5] (.int x :: st) σ Q = Ev sh 11 42 [a0, a1, zdrop2 a2, some (.int x), a4, a5] st σ Q := Ev_step rfl
theorem s_Foresight_whoHadBetterYield_42 : Ev sh 11 42 [a0, a1, a2, a3, some (.int x), a5] st σ Q = Ev sh 11 45 [a0, a1, a2, a3, some (.int (x + 1)), a5] st σ Q := Ev_step rfl
theorem s_Foresight_whoHadBetterYield_45 : Ev sh 11 45 [a0, a1, a2, a3, a4, a5] st σ Q = Ev sh 11 15 [a0, a1, a2, a3, a4, a5] st σ Q := Ev_step rfl
theorem s_Foresight_whoHadBetterYield_48 : Ev sh 11 48 [a0, a1, a2, some (.int x), a4, a5] st σ Q = Ev sh 11 49 [a0, a1, a2, some (.int x), a4, a5] (.int x :: st) σ Q := Ev_step rfl
theorem s_Foresight_whoHadBetterYield_49 : Ev sh 11 49 [a0, a1, a2, a3, a4, a5] [.int x] σ Q = Q (some (.int x)) σ := Ev_ret rfl
theorem s_Foresight_quarrelsIfYields_0 : Ev sh 12 0 [some (.ref i), a1, a2] st σ Q = Ev sh 12 1 [some (.ref i), a1, a2] (.ref i :: st) σ Q := Ev_step rfl
theorem s_Foresight_quarrelsIfYields_1 (h : sh i = 2) : Ev sh 12 1 [a0, a1, a2] (.ref i :: st) σ Q = Ev sh 12 4 [a0, a1, a2] (.ref 27 :: st) σ Q := Ev_h h rfl
theorem s_Foresight_quarrelsIfYields_4 : Ev sh 12 4 [some (.ref i), a1, a2] st σ Q = Ev sh 12 5 [some (.ref i), a1, a2] (.ref i :: st) σ Q := Ev_step rfl
theorem s_Foresight_quarrelsIfYields_5 (h : sh i = 2) : Ev sh 12 5 [a0, a1, a2] (.ref i :: st) σ Q = Ev sh 12 8 [a0, a1, a2] (.ref 1 :: st) σ Q := Ev_h h rfl
theorem s_Foresight_quarrelsIfYields_8 (h : sh i0 = 0) : Ev sh 12 8 [a0, a1, a2] [.ref i1, .ref i0] σ Q = Ev sh 0 0 [some (.ref i0), some (.ref i1)] [] σ (fun r s => Ev sh 12 11 [a0, a1, a2] (zpush r []) s Q) := Ev_callh (zrecv_of (by decide) h) rfl
theorem s_Foresight_quarrelsIfYields_11 : Ev sh 12 11 [some (.ref i), a1, a2] st σ Q = Ev sh 12 12 [some (.ref i), a1, a2] (.ref i :: st) σ Q := Ev_step rfl
theorem s_Foresight_quarrelsIfYields_12 (h : sh i = 2) : Ev sh 12 12 [a0, a1, a2] (.ref i :: st) σ Q = Ev sh 12 15 [a0, a1, a2] (.ref 27 :: st) σ Q := Ev_h h rfl
theorem s_Foresight_quarrelsIfYields_15 : Ev sh 12 15 [a0, some (.int x), a2] st σ Q = Ev sh 12 16 [a0, some (.int x), a2] (.int x :: st) σ Q := Ev_step rfl
theorem s_Foresight_quarrelsIfYields_16 (h : sh i0 = 0) : Ev sh 12 16 [a0, a1, a2] [.int x1, .ref i0] σ Q = Ev sh 1 0 [some (.ref i0), some (.int x1)] [] σ (fun r s => Ev sh 12 19 [a0, a1, a2] (zpush r []) s Q) := Ev_callh (zrecv_of (by decide) h) rfl
theorem s_Foresight_quarrelsIfYields_19 : Ev sh 12 19 [a0, a1, a2] st σ Q = Ev sh 12 20 [a0, a1, a2] (.int 0 :: st) σ Q := Ev_step rfl
theorem s_Foresight_quarrelsIfYields_20 (h : sh i = 4) : Ev sh 12 20 [a0, a1, a2] (.int x :: .ref i :: st) σ Q = Ev sh 12 23 [a0, a1, a2] st (zup σ i 2 x) Q := Ev_h h rfl
theorem s_Foresight_quarrelsIfYields_23 : Ev sh 12 23 [some (.ref i), a1, a2] st σ Q = Ev sh 12 24 [some (.ref i), a1, a2] (.ref i :: st) σ Q := Ev_step rfl
theorem s_Foresight_quarrelsIfYields_24 (h : sh i = 2) : Ev sh 12 24 [a0, a1, a2] (.ref i :: st) σ Q = Ev sh 12 27 [a0, a1, a2] (.ref 27 :: st) σ Q := Ev_h h rfl
theorem s_Foresight_quarrelsIfYields_27 : Ev sh 12 27 [a0, a1, some (.int x)] st σ Q = Ev sh 12 28 [a0, a1, some (.int x)] (.int x :: st) σ Q := Ev_step rfl
theorem s_Foresight_quarrelsIfYields_28 (h : sh i0 = 0) : Ev sh 12 28 [a0, a1, a2] [.int x1, .ref i0] σ Q = Ev sh 3 0 [some (.ref i0), some (.int x1), none] [] σ (fun r s => Ev sh 12 31 [a0, a1, a2] (zpush r []) s Q) := Ev_callh (zrecv_of (by decide) h) rfl
theorem s_Foresight_quarrelsIfYields_31 : Ev sh 12 31 [some (.ref i), a1, a2] st σ Q = Ev sh 12 32 [some (.ref i), a1, a2] (.ref i :: st) σ Q := Ev_step rfl
theorem s_Foresight_quarrelsIfYields_32 (h : sh i = 2) : Ev sh 12 32 [a0, a1, a2] (.ref i :: st) σ Q = Ev sh 12 35 [a0, a1, a2] (.ref 27 :: st) σ Q := Ev_h h rfl
theorem s_Foresight_quarrelsIfYields_35 (h : sh i = 0) : Ev sh 12 35 [a0, a1, a2] (.ref i :: st) σ Q = Ev sh 12 38 [a0, a1, a2] (.int (σ i 3) :: st) σ Q := Ev_h h rfl
theorem s_Foresight_quarrelsIfYields_38 : Ev sh 12 38 [a0, a1, a2] [.int x] σ Q = Q (some (.int x)) σ := Ev_ret rfl
theorem s_Foresight_bestStyle_0 : Ev sh 13 0 [a0, a1, a2, a3, a4, a5, a6] st σ Q = Ev sh 13 1 [a0, a1, a2, a3, a4, a5, a6] (.int 0 :: st) σ Q := Ev_step rfl
theorem s_Foresight_bestStyle_1 : Ev sh 13 1 [a0, a1, a2, a3, a4, a5, a6] (.int x :: st) σ Q = Ev sh 13 2 [a0, a1, zdrop2 a2, some (.int x), a4, a5, a6] st σ Q := Ev_step rfl
theorem s_Foresight_bestStyle_2 : Ev sh 13 2 [some (.ref i), a1, a2, a3, a4, a5, a6] st σ Q = Ev sh 13 3 [some (.ref i), a1, a2, a3, a4, a5, a6] (.ref i :: st) σ Q := Ev_step rfl
theorem s_Foresight_bestStyle_3 : Ev sh 13 3 [a0, some (.int x), a2, a3, a4, a5, a6] st σ Q = Ev sh 13 4 [a0, some (.int x), a2, a3, a4, a5, a6] (.int x :: st) σ Q := Ev_step rfl
theorem s_Foresight_bestStyle_4 : Ev sh 13 4 [a0, a1, a2, a3, a4, a5, a6] st σ Q = Ev sh 13 5 [a0, a1, a2, a3, a4, a5, a6] (.int 0 :: st) σ Q := Ev_step rfl
theorem s_Foresight_bestStyle_5 : Ev sh 13 5 [a0, a1, some (.int x), a3, a4, a5, a6] st σ Q = Ev sh 13 6 [a0, a1, some (.int x), a3, a4, a5, a6] (.int x :: st) σ Q := Ev_step rfl
theorem s_Foresight_bestStyle_6 (h : sh i0 = 2) : Ev sh 13 6 [a0, a1, a2, a3, a4, a5, a6] [.int x3, .int x2, .int x1, .ref i0] σ Q = Ev sh 14 0 [some (.ref i0), some (.int x1), some (.int x2), some (.int x3)] [] σ (fun r s => Ev sh 13 9 [a0, a1, a2, a3, a4, a5, a6] (zpush r []) s Q) := Ev_callh (zrecv_of (by decide) h) rfl
theorem s_Foresight_bestStyle_9 : Ev sh 13 9 [a0, a1, a2, a3, a4, a5, a6] (.int x :: st) σ Q = Ev sh 13 11 [a0, a1, a2, zdrop2 a3, some (.int x), a5, a6] st σ Q := Ev_step rfl
theorem s_Foresight_bestStyle_11 : Ev sh 13 11 [a0, a1, a2, a3, a4, a5, a6] st σ Q = Ev sh 13 12 [a0, a1, a2, a3, a4, a5, a6] (.int 1 :: st) σ Q := Ev_step rfl
theorem s_Foresight_bestStyle_12 : Ev sh 13 12 [a0, a1, a2, a3, a4, a5, a6] (.int x :: st) σ Q = Ev sh 13 14 [a0, a1, a2, a3, zdrop2 a4, some (.int x), a6] st σ Q := Ev_step rfl
theorem s_Foresight_bestStyle_14 : Ev sh 13 14 [a0, a1, a2, a3, a4, some (.int x), a6] st σ Q = Ev sh 13 16 [a0, a1, a2, a3, a4, some (.int x), a6] (.int x :: st) σ Q := Ev_step rfl
theorem s_Foresight_bestStyle_16 : Ev sh 13 16 [a0, a1, a2, a3, a4, a5, a6] st σ Q = Ev sh 13 18 [a0, a1, a2, a3, a4, a5, a6] (.int 6 :: st) σ Q := Ev_step rfl
theorem s_Foresight_bestStyle_18 : Ev sh 13 18 [a0, a1, a2, a3, a4, a5, a6] (.int y :: .int x :: st) σ Q = if y ≤ x then Ev sh 13 51 [a0, a1, a2, a3, a4, a5, a6] st σ Q else Ev sh 13 21 [a0, a1, a2, a3, a4, a5, a6] st σ Q := Ev_if rfl
theorem s_Foresight_bestStyle_21 : Ev sh 13 21 [some (.ref i), a1, a2, a3, a4, a5, a6] st σ Q = Ev sh 13 22 [some (.ref i), a1, a2, a3, a4, a5, a6] (.ref i :: st) σ Q := Ev_step rfl
theorem s_Foresight_bestStyle_22 : Ev sh 13 22 [a0, some (.int x), a2, a3, a4, a5, a6] st σ Q = Ev sh 13 23 [a0, some (.int x), a2, a3, a4, a5, a6] (.int x :: st) σ Q := Ev_step rfl
theorem s_Foresight_bestStyle_23 : Ev sh 13 23 [a0, a1, a2, a3, a4, some (.int x), a6] st σ Q = Ev sh 13 25 [a0, a1, a2, a3, a4, some (.int x), a6] (.int x :: st) σ Q := Ev_step rfl
theorem s_Foresight_bestStyle_25 : Ev sh 13 25 [a0, a1, some (.int x), a3, a4, a5, a6] st σ Q = Ev sh 13 26 [a0, a1, some (.int x), a3, a4, a5, a6] (.int x :: st) σ Q := Ev_step rfl
theorem s_Foresight_bestStyle_26 (h : sh i0 = 2) : Ev sh 13 26 [a0, a1, a2, a3, a4, a5, a6] [.int x3, .int x2, .int x1, .ref i0] σ Q = Ev sh 14 0 [some (.ref i0), some (.int x1), some (.int x2), some (.int x3)] [] σ (fun r s => Ev sh 13 29 [a0, a1, a2, a3, a4, a5, a6] (zpush r []) s Q) := Ev_callh (zrecv_of (by decide) h) rfl
theorem s_Foresight_bestStyle_29 : Ev sh 13 29 [a0, a1, a2, a3, a4, a5, a6] (.int x :: st) σ Q = Ev sh 13 31 [a0, a1, a2, a3, a4, zdrop2 a5, some (.int x)] st σ Q := Ev_step rfl
theorem s_Foresight_bestStyle_31 : Ev sh 13 31 [a0, a1, a2, a3, a4, a5, some (.int x)] st σ Q = Ev sh 13 33 [a0, a1, a2, a3, a4, a5, some (.int x)] (.int x :: st) σ Q := Ev_step rfl
theorem s_Foresight_bestStyle_33 : Ev sh 13 33 [a0, a1, a2, a3, some (.int x), a5, a6] st σ Q = Ev sh 13 35 [a0, a1, a2, a3, some (.int x), a5, a6] (.int x :: st) σ Q := Ev_step rfl
theorem s_Foresight_bestStyle_35 : Ev sh 13 35 [a0, a1, a2, a3, a4, a5, a6] (.int y :: .int x :: st) σ Q = if x ≤ y then Ev sh 13 45 [a0, a1, a2, a3, a4, a5, a6] st σ Q else Ev sh 13 38 [a0, a1, a2, a3, a4, a5, a6] st σ Q := Ev_if rfl
theorem s_Foresight_bestStyle_38 : Ev sh 13 38 [a0, a1, a2, a3, a4, some (.int x), a6] st σ Q = Ev sh 13 40 [a0, a1, a2, a3, a4, some (.int x), a6] (.int x :: st) σ Q := Ev_step rfl
theorem s_Foresight_bestStyle_40 : Ev sh 13 40 [a0, a1, a2, a3, a4, a5, a6] (.int x :: st) σ Q = Ev sh 13 41 [a0, a1, zdrop2 a2, some (.int x), a4, a5, a6] st σ Q := Ev_step rfl
theorem s_Foresight_bestStyle_41 : Ev sh 13 41 [a0, a1, a2, a3, a4, a5, some (.int x)] st σ Q = Ev sh 13 43 [a0, a1, a2, a3, a4, a5, some (.int x)] (.int x :: st) σ Q := Ev_step rfl
theorem s_Foresight_bestStyle_43 : Ev sh 13 43 [a0, a1, a2, a3, a4, a5, a6] (.int x :: st) σ Q = Ev sh 13 45 [a0, a1, a2, zdrop2 a3, some (.int x), a5, a6] st σ Q := Ev_step rfl
theorem s_Foresight_bestStyle_45 : Ev sh 13 45 [a0, a1, a2, a3, a4, some (.int x), a6] st σ Q = Ev sh 13 48 [a0, a1, a2, a3, a4, some (.int (x + 1)), a6] st σ Q := Ev_step rfl
theorem s_Foresight_bestStyle_48 : Ev sh 13 48 [a0, a1, a2, a3, a4, a5, a6] st σ Q = Ev sh 13 14 [a0, a1, a2, a3, a4, a5, a6] st σ Q := Ev_step rfl
theorem s_Foresight_bestStyle_51 : Ev sh 13 51 [a0, a1, a2, some (.int x), a4, a5, a6] st σ Q = Ev sh 13 52 [a0, a1, a2, some (.int x), a4, a5, a6] (.int x :: st) σ Q := Ev_step rfl
theorem s_Foresight_bestStyle_52 : Ev sh 13 52 [a0, a1, a2, a3, a4, a5, a6] [.int x] σ Q = Q (some (.int x)) σ := Ev_ret rfl
theorem s_Foresight_spareWithStyle_0 : Ev sh 14 0 [some (.ref i), a1, a2, a3] st σ Q = Ev sh 14 1 [some (.ref i), a1, a2, a3] (.ref i :: st) σ Q := Ev_step rfl
theorem s_Foresight_spareWithStyle_1 (h : sh i = 2) : Ev sh 14 1 [a0, a1, a2, a3] (.ref i :: st) σ Q = Ev sh 14 4 [a0, a1, a2, a3] (.ref 27 :: st) σ Q := Ev_h h rfl
theorem s_Foresight_spareWithStyle_4 : Ev sh 14 4 [some (.ref i), a1, a2, a3] st σ Q = Ev sh 14 5 [some (.ref i), a1, a2, a3] (.ref i :: st) σ Q := Ev_step rfl
theorem s_Foresight_spareWithStyle_5 (h : sh i = 2) : Ev sh 14 5 [a0, a1, a2, a3] (.ref i :: st) σ Q = Ev sh 14 8 [a0, a1, a2, a3] (.ref 1 :: st) σ Q := Ev_h h rfl
theorem s_Foresight_spareWithStyle_8 (h : sh i0 = 0) : Ev sh 14 8 [a0, a1, a2, a3] [.ref i1, .ref i0] σ Q = Ev sh 0 0 [some (.ref i0), some (.ref i1)] [] σ (fun r s => Ev sh 14 11 [a0, a1, a2, a3] (zpush r []) s Q) := Ev_callh (zrecv_of (by decide) h) rfl
theorem s_Foresight_spareWithStyle_11 : Ev sh 14 11 [some (.ref i), a1, a2, a3] st σ Q = Ev sh 14 12 [some (.ref i), a1, a2, a3] (.ref i :: st) σ Q := Ev_step rfl
theorem s_Foresight_spareWithStyle_12 (h : sh i = 2) : Ev sh 14 12 [a0, a1, a2, a3] (.ref i :: st) σ Q = Ev sh 14 15 [a0, a1, a2, a3] (.ref 27 :: st) σ Q := Ev_h h rfl
theorem s_Foresight_spareWithStyle_15 : Ev sh 14 15 [a0, some (.int x), a2, a3] st σ Q = Ev sh 14 16 [a0, some (.int x), a2, a3] (.int x :: st) σ Q := Ev_step rfl
theorem s_Foresight_spareWithStyle_16 (h : sh i0 = 0) : Ev sh 14 16 [a0, a1, a2, a3] [.int x1, .ref i0] σ Q = Ev sh 1 0 [some (.ref i0), some (.int x1)] [] σ (fun r s => Ev sh 14 19 [a0, a1, a2, a3] (zpush r []) s Q) := Ev_callh (zrecv_of (by decide) h) rfl
theorem s_Foresight_spareWithStyle_19 : Ev sh 14 19 [a0, a1, some (.int x), a3] st σ Q = Ev sh 14 20 [a0, a1, some (.int x), a3] (.int x :: st) σ Q := Ev_step rfl
theorem s_Foresight_spareWithStyle_20 (h : sh i = 4) : Ev sh 14 20 [a0, a1, a2, a3] (.int x :: .ref i :: st) σ Q = Ev sh 14 23 [a0, a1, a2, a3] st (zup σ i 0 x) Q := Ev_h h rfl
theorem s_Foresight_spareWithStyle_23 : Ev sh 14 23 [some (.ref i), a1, a2, a3] st σ Q = Ev sh 14 24 [some (.ref i), a1, a2, a3] (.ref i :: st) σ Q := Ev_step rfl
theorem s_Foresight_spareWithStyle_24 (h : sh i = 2) : Ev sh 14 24 [a0, a1, a2, a3] (.ref i :: st) σ Q = Ev sh 14 27 [a0, a1, a2, a3] (.ref 27 :: st) σ Q := Ev_h h rfl
theorem s_Foresight_spareWithStyle_27 : Ev sh 14 27 [a0, a1, a2, some (.int x)] st σ Q = Ev sh 14 28 [a0, a1, a2, some (.int x)] (.int x :: st) σ Q := Ev_step rfl
theorem s_Foresight_spareWithStyle_28 (h : sh i0 = 0) : Ev sh 14 28 [a0, a1, a2, a3] [.int x1, .ref i0] σ Q = Ev sh 3 0 [some (.ref i0), some (.int x1), none] [] σ (fun r s => Ev sh 14 31 [a0, a1, a2, a3] (zpush r []) s Q) := Ev_callh (zrecv_of (by decide) h) rfl
theorem s_Foresight_spareWithStyle_31 : Ev sh 14 31 [some (.ref i), a1, a2, a3] st σ Q = Ev sh 14 32 [some (.ref i), a1, a2, a3] (.ref i :: st) σ Q := Ev_step rfl
theorem s_Foresight_spareWithStyle_32 (h : sh i = 2) : Ev sh 14 32 [a0, a1, a2, a3] (.ref i :: st) σ Q = Ev sh 14 35 [a0, a1, a2, a3] (.ref 27 :: st) σ Q := Ev_h h rfl
theorem s_Foresight_spareWithStyle_35 (h : sh i = 0) : Ev sh 14 35 [a0, a1, a2, a3] (.ref i :: st) σ Q = Ev sh 14 38 [a0, a1, a2, a3] (.ref (i + 1) :: st) σ Q := Ev_h h rfl
theorem s_Foresight_spareWithStyle_38 (h : sh i0 = 7) : Ev sh 14 38 [a0, a1, a2, a3] [.ref i0] σ Q = Ev sh 91 0 [some (.ref i0), none, none] [] σ (fun r s => Ev sh 14 41 [a0, a1, a2, a3] (zpush r []) s Q) := Ev_callh (zrecv_of (by decide) h) rfl
theorem s_Foresight_spareWithStyle_41 : Ev sh 14 41 [a0, a1, a2, a3] [.int x] σ Q = Q (some (.int x)) σ := Ev_ret rfl
theorem s_Foresight_dayOfPeace_0 : Ev sh 15 0 [some (.ref i), a1] st σ Q = Ev sh 15 1 [some (.ref i), a1] (.ref i :: st) σ Q := Ev_step rfl
theorem s_Foresight_dayOfPeace_1 (h : sh i = 2) : Ev sh 15 1 [a0, a1] (.ref i :: st) σ Q = Ev sh 15 4 [a0, a1] (.ref 27 :: st) σ Q := Ev_h h rfl
theorem s_Foresight_dayOfPeace_4 : Ev sh 15 4 [some (.ref i), a1] st σ Q = Ev sh 15 5 [some (.ref i), a1] (.ref i :: st) σ Q := Ev_step rfl
theorem s_Foresight_dayOfPeace_5 (h : sh i = 2) : Ev sh 15 5 [a0, a1] (.ref i :: st) σ Q = Ev sh 15 8 [a0, a1] (.ref 1 :: st) σ Q := Ev_h h rfl
theorem s_Foresight_dayOfPeace_8 (h : sh i0 = 0) : Ev sh 15 8 [a0, a1] [.ref i1, .ref i0] σ Q = Ev sh 0 0 [some (.ref i0), some (.ref i1)] [] σ (fun r s => Ev sh 15 11 [a0, a1] (zpush r []) s Q) := Ev_callh (zrecv_of (by decide) h) rfl
theorem s_Foresight_dayOfPeace_11 : Ev sh 15 11 [a0, a1] st σ Q = Ev sh 15 12 [a0, a1] (.int 0 :: st) σ Q := Ev_step rfl
theorem s_Foresight_dayOfPeace_12 : Ev sh 15 12 [a0, a1] (.int x :: st) σ Q = Ev sh 15 13 [zdrop2 a0, some (.int x)] st σ Q := Ev_step rfl
theorem s_Foresight_dayOfPeace_13 : Ev sh 15 13 [a0, some (.int x)] st σ Q = Ev sh 15 14 [a0, some (.int x)] (.int x :: st) σ Q := Ev_step rfl
theorem s_Foresight_dayOfPeace_14 : Ev sh 15 14 [some (.ref i), a1] st σ Q = Ev sh 15 15 [some (.ref i), a1] (.ref i :: st) σ Q := Ev_step rfl
theorem s_Foresight_dayOfPeace_15 (h : sh i = 2) : Ev sh 15 15 [a0, a1] (.ref i :: st) σ Q = Ev sh 15 18 [a0, a1] (.ref 34 :: st) σ Q := Ev_h h rfl
theorem s_Foresight_dayOfPeace_18 (h : i < 1000) (h2 : 100 ≤ sh i) : Ev sh 15 18 [a0, a1] (.ref i :: st) σ Q = Ev sh 15 19 [a0, a1] (.int (nI (sh i - 100)) :: st) σ Q := by rw [Ev_h (c := i < 1000 ∧ 100 ≤ sh i) ⟨h, h2⟩]; exact (if_pos h).trans ((if_pos h2).trans (if_pos ⟨h, h2⟩).symm)
theorem s_Foresight_dayOfPeace_19 : Ev sh 15 19 [a0, a1] (.int y :: .int x :: st) σ Q = if y ≤ x then Ev sh 15 49 [a0, a1] st σ Q else Ev sh 15 22 [a0, a1] st σ Q := Ev_if rfl
theorem s_Foresight_dayOfPeace_22 : Ev sh 15 22 [some (.ref i), a1] st σ Q = Ev sh 15 23 [some (.ref i), a1] (.ref i :: st) σ Q := Ev_step rfl
theorem s_Foresight_dayOfPeace_23 (h : sh i = 2) : Ev sh 15 23 [a0, a1] (.ref i :: st) σ Q = Ev sh 15 26 [a0, a1] (.ref 34 :: st) σ Q := Ev_h h rfl
theorem s_Foresight_dayOfPeace_26 : Ev sh 15 26 [a0, some (.int x)] st σ Q = Ev sh 15 27 [a0, some (.int x)] (.int x :: st) σ Q := Ev_step rfl
theorem s_Foresight_dayOfPeace_27 : Ev sh 15 27 [some (.ref i), a1] st σ Q = Ev sh 15 28 [some (.ref i), a1] (.ref i :: st) σ Q := Ev_step rfl
theorem s_Foresight_dayOfPeace_28 (h : sh i = 2) : Ev sh 15 28 [a0, a1] (.ref i :: st) σ Q = Ev sh 15 31 [a0, a1] (.ref 27 :: st) σ Q := Ev_h h rfl
theorem s_Foresight_dayOfPeace_31 (h : sh i = 0) : Ev sh 15 31 [a0, a1] (.ref i :: st) σ Q = Ev sh 15 34 [a0, a1] (.int (σ i 3) :: st) σ Q := Ev_h h rfl
theorem s_Foresight_dayOfPeace_34 (h : zin x (sh i) = true) : Ev sh 15 34 [a0, a1] (.int y :: .int x :: .ref i :: st) σ Q = Ev sh 15 35 [a0, a1] st (zup σ i x.toNatClampNeg y) Q := Ev_h h rfl
theorem s_Foresight_dayOfPeace_35 : Ev sh 15 35 [some (.ref i), a1] st σ Q = Ev sh 15 36 [some (.ref i), a1] (.ref i :: st) σ Q := Ev_step rfl
theorem s_Foresight_dayOfPeace_36 (h : sh i = 2) : Ev sh 15 36 [a0, a1] (.ref i :: st) σ Q = Ev sh 15 39 [a0, a1] (.ref 27 :: st) σ Q := Ev_h h rfl
theorem s_Foresight_dayOfPeace_39 : Ev sh 15 39 [a0, a1] st σ Q = Ev sh 15 40 [a0, a1] (.int 1 :: st) σ Q := Ev_step rfl
theorem s_Foresight_dayOfPeace_40 (h : sh i0 = 0) : Ev sh 15 40 [a0, a1] [.int x1, .ref i0] σ Q = Ev sh 4 0 [some (.ref i0), some (.int x1)] [] σ (fun r s => Ev sh 15 43 [a0, a1] (zpush r []) s Q) := Ev_callh (zrecv_of (by decide) h) rfl
theorem s_Foresight_dayOfPeace_43 : Ev sh 15 43 [a0, some (.int x)] st σ Q = Ev sh 15 46 [a0, some (.int (x + 1))] st σ Q := Ev_step rfl
theorem s_Foresight_dayOfPeace_46 : Ev sh 15 46 [a0, a1] st σ Q = Ev sh 15 13 [a0, a1] st σ Q := Ev_step rfl
theorem s_Foresight_dayOfPeace_49 : Ev sh 15 49 [a0, a1] st σ Q = Ev sh 15 50 [a0, a1] (.int 0 :: st) σ Q := Ev_step rfl
theorem s_Foresight_dayOfPeace_50 : Ev sh 15 50 [a0, a1] (.int x :: st) σ Q = Ev sh 15 51 [zdrop2 a0, some (.int x)] st σ Q := Ev_step rfl
theorem s_Foresight_dayOfPeace_51 : Ev sh 15 51 [a0, some (.int x)] st σ Q = Ev sh 15 52 [a0, some (.int x)] (.int x :: st) σ Q := Ev_step rfl
theorem s_Foresight_dayOfPeace_52 : Ev sh 15 52 [a0, a1] st σ Q = Ev sh 15 54 [a0, a1] (.int 10 :: st) σ Q := Ev_step rfl
theorem s_Foresight_dayOfPeace_54 : Ev sh 15 54 [a0, a1] (.int y :: .int x :: st) σ Q = Ev sh 15 55 [a0, a1] (.int (x + y) :: st) σ Q := Ev_step rfl
theorem s_Foresight_dayOfPeace_55 : Ev sh 15 55 [some (.ref i), a1] st σ Q = Ev sh 15 56 [some (.ref i), a1] (.ref i :: st) σ Q := Ev_step rfl
theorem s_Foresight_dayOfPeace_56 (h : sh i = 2) : Ev sh 15 56 [a0, a1] (.ref i :: st) σ Q = Ev sh 15 59 [a0, a1] (.ref 34 :: st) σ Q := Ev_h h rfl
theorem s_Foresight_dayOfPeace_59 (h : i < 1000) (h2 : 100 ≤ sh i) : Ev sh 15 59 [a0, a1] (.ref i :: st) σ Q = Ev sh 15 60 [a0, a1] (.int (nI (sh i - 100)) :: st) σ Q := by rw [Ev_h (c := i < 1000 ∧ 100 ≤ sh i) ⟨h, h2⟩]; exact (if_pos h).trans ((if_pos h2).trans (if_pos ⟨h, h2⟩).symm)
theorem s_Foresight_dayOfPeace_60 : Ev sh 15 60 [a0, a1] (.int y :: .int x :: st) σ Q = if y ≤ x then Ev sh 15 89 [a0, a1] st σ Q else Ev sh 15 63 [a0, a1] st σ Q := Ev_if rfl
theorem s_Foresight_dayOfPeace_63 : Ev sh 15 63 [some (.ref i), a1] st σ Q = Ev sh 15 64 [some (.ref i), a1] (.ref i :: st) σ Q := Ev_step rfl
theorem s_Foresight_dayOfPeace_64 (h : sh i = 2) : Ev sh 15 64 [a0, a1] (.ref i :: st) σ Q = Ev sh 15 67 [a0, a1] (.ref 34 :: st) σ Q := Ev_h h rfl
theorem s_Foresight_dayOfPeace_67 : Ev sh 15 67 [a0, some (.int x)] st σ Q = Ev sh 15 68 [a0, some (.int x)] (.int x :: st) σ Q := Ev_step rfl
theorem s_Foresight_dayOfPeace_68 (h : zin x (sh i) = true) : Ev sh 15 68 [a0, a1] (.int x :: .ref i :: st) σ Q = Ev sh 15 69 [a0, a1] (.int (σ i x.toNatClampNeg) :: st) σ Q := Ev_h h rfl
theorem s_Foresight_dayOfPeace_69 : Ev sh 15 69 [some (.ref i), a1] st σ Q = Ev sh 15 70 [some (.ref i), a1] (.ref i :: st) σ Q := Ev_step rfl
theorem s_Foresight_dayOfPeace_70 (h : sh i = 2) : Ev sh 15 70 [a0, a1] (.ref i :: st) σ Q = Ev sh 15 73 [a0, a1] (.ref 34 :: st) σ Q := Ev_h h rfl
theorem s_Foresight_dayOfPeace_73 : Ev sh 15 73 [a0, some (.int x)] st σ Q = Ev sh 15 74 [a0, some (.int x)] (.int x :: st) σ Q := Ev_step rfl
theorem s_Foresight_dayOfPeace_74 : Ev sh 15 74 [a0, a1] st σ Q = Ev sh 15 76 [a0, a1] (.int 10 :: st) σ Q := Ev_step rfl
theorem s_Foresight_dayOfPeace_76 : Ev sh 15 76 [a0, a1] (.int y :: .int x :: st) σ Q = Ev sh 15 77 [a0, a1] (.int (x + y) :: st) σ Q := Ev_step rfl
theorem s_Foresight_dayOfPeace_77 (h : zin x (sh i) = true) : Ev sh 15 77 [a0, a1] (.int x :: .ref i :: st) σ Q = Ev sh 15 78 [a0, a1] (.int (σ i x.toNatClampNeg) :: st) σ Q := Ev_h h rfl
theorem s_Foresight_dayOfPeace_78 : Ev sh 15 78 [a0, a1] (.int y :: .int x :: st) σ Q = if x ≠ y then Ev sh 15 83 [a0, a1] st σ Q else Ev sh 15 81 [a0, a1] st σ Q := Ev_if rfl
theorem s_Foresight_dayOfPeace_81 : Ev sh 15 81 [a0, some (.int x)] st σ Q = Ev sh 15 82 [a0, some (.int x)] (.int x :: st) σ Q := Ev_step rfl
theorem s_Foresight_dayOfPeace_82 : Ev sh 15 82 [a0, a1] [.int x] σ Q = Q (some (.int x)) σ := Ev_ret rfl
theorem s_Foresight_dayOfPeace_83 : Ev sh 15 83 [a0, some (.int x)] st σ Q = Ev sh 15 86 [a0, some (.int (x + 1))] st σ Q := Ev_step rfl
theorem s_Foresight_dayOfPeace_86 : Ev sh 15 86 [a0, a1] st σ Q = Ev sh 15 51 [a0, a1] st σ Q := Ev_step rfl
theorem s_Foresight_dayOfPeace_89 : Ev sh 15 89 [a0, a1] st σ Q = Ev sh 15 91 [a0, a1] (.int (-9) :: st) σ Q := Ev_step rfl
theorem s_Foresight_dayOfPeace_91 : Ev sh 15 91 [a0, a1] [.int x] σ Q = Q (some (.int x)) σ := Ev_ret rfl
theorem s_Foresight_swappedLayMore_0 : Ev sh 16 0 [some (.ref i), a1, a2] st σ Q = Ev sh 16 1 [some (.ref i), a1, a2] (.ref i :: st) σ Q := Ev_step rfl
theorem s_Foresight_swappedLayMore_1 : Ev sh 16 1 [a0, some (.int x), a2] st σ Q = Ev sh 16 2 [a0, some (.int x), a2] (.int x :: st) σ Q := Ev_step rfl
theorem s_Foresight_swappedLayMore_2 (h : sh i0 = 2) : Ev sh 16 2 [a0, a1, a2] [.int x1, .ref i0] σ Q = Ev sh 8 0 [some (.ref i0), some (.int x1)] [] σ (fun r s => Ev sh 16 5 [a0, a1, a2] (zpush r []) s Q) := Ev_callh (zrecv_of (by decide) h) rfl
theorem s_Foresight_swappedLayMore_5 (h : sh i = 0) : Ev sh 16 5 [a0, a1, a2] (.ref i :: st) σ Q = Ev sh 16 8 [a0, a1, a2] (.ref (i + 1) :: st) σ Q := Ev_h h rfl
theorem s_Foresight_swappedLayMore_8 (h : sh i0 = 7) : Ev sh 16 8 [a0, a1, a2] [.ref i0] σ Q = Ev sh 70 0 [some (.ref i0)] [] σ (fun r s => Ev sh 16 11 [a0, a1, a2] (zpush r []) s Q) := Ev_callh (zrecv_of (by decide) h) rfl
theorem s_Foresight_swappedLayMore_11 : Ev sh 16 11 [a0, a1, a2] (.int x :: st) σ Q = Ev sh 16 12 [a0, zdrop2 a1, some (.int x)] st σ Q := Ev_step rfl
theorem s_Foresight_swappedLayMore_12 : Ev sh 16 12 [some (.ref i), a1, a2] st σ Q = Ev sh 16 13 [some (.ref i), a1, a2] (.ref i :: st) σ Q := Ev_step rfl
theorem s_Foresight_swappedLayMore_13 (h : sh i = 2) : Ev sh 16 13 [a0, a1, a2] (.ref i :: st) σ Q = Ev sh 16 16 [a0, a1, a2] (.ref 27 :: st) σ Q := Ev_h h rfl
theorem s_Foresight_swappedLayMore_16 : Ev sh 16 16 [some (.ref i), a1, a2] st σ Q = Ev sh 16 17 [some (.ref i), a1, a2] (.ref i :: st) σ Q := Ev_step rfl
theorem s_Foresight_swappedLayMore_17 (h : sh i = 2) : Ev sh 16 17 [a0, a1, a2] (.ref i :: st) σ Q = Ev sh 16 20 [a0, a1, a2] (.ref 1 :: st) σ Q := Ev_h h rfl
theorem s_Foresight_swappedLayMore_20 (h : sh i0 = 0) : Ev sh 16 20 [a0, a1, a2] [.ref i1, .ref i0] σ Q = Ev sh 0 0 [some (.ref i0), some (.ref i1)] [] σ (fun r s => Ev sh 16 23 [a0, a1, a2] (zpush r []) s Q) := Ev_callh (zrecv_of (by decide) h) rfl
theorem s_Foresight_swappedLayMore_23 : Ev sh 16 23 [some (.ref i), a1, a2] st σ Q = Ev sh 16 24 [some (.ref i), a1, a2] (.ref i :: st) σ Q := Ev_step rfl
theorem s_Foresight_swappedLayMore_24 (h : sh i = 2) : Ev sh 16 24 [a0, a1, a2] (.ref i :: st) σ Q = Ev sh 16 27 [a0, a1, a2] (.ref 27 :: st) σ Q := Ev_h h rfl
theorem s_Foresight_swappedLayMore_27 (h : sh i = 0) : Ev sh 16 27 [a0, a1, a2] (.ref i :: st) σ Q = Ev sh 16 30 [a0, a1, a2] (.ref (i + 5) :: st) σ Q := Ev_h h rfl
theorem s_Foresight_swappedLayMore_30 : Ev sh 16 30 [some (.ref i), a1, a2] st σ Q = Ev sh 16 31 [some (.ref i), a1, a2] (.ref i :: st) σ Q := Ev_step rfl
theorem s_Foresight_swappedLayMore_31 (h : sh i = 2) : Ev sh 16 31 [a0, a1, a2] (.ref i :: st) σ Q = Ev sh 16 34 [a0, a1, a2] (.ref 1 :: st) σ Q := Ev_h h rfl
theorem s_Foresight_swappedLayMore_34 (h : sh i = 0) : Ev sh 16 34 [a0, a1, a2] (.ref i :: st) σ Q = Ev sh 16 37 [a0, a1, a2] (.ref (i + 6) :: st) σ Q := Ev_h h rfl
theorem s_Foresight_swappedLayMore_37 (h : sh i = 4) : Ev sh 16 37 [a0, a1, a2] (.ref i :: st) σ Q = Ev sh 16 40 [a0, a1, a2] (.int (σ i 0) :: st) σ Q := Ev_h h rfl
theorem s_Foresight_swappedLayMore_40 (h : sh i = 4) : Ev sh 16 40 [a0, a1, a2] (.int x :: .ref i :: st) σ Q = Ev sh 16 43 [a0, a1, a2] st (zup σ i 0 x) Q := Ev_h h rfl
theorem s_Foresight_swappedLayMore_43 : Ev sh 16 43 [some (.ref i), a1, a2] st σ Q = Ev sh 16 44 [some (.ref i), a1, a2] (.ref i :: st) σ Q := Ev_step rfl
theorem s_Foresight_swappedLayMore_44 (h : sh i = 2) : Ev sh 16 44 [a0, a1, a2] (.ref i :: st) σ Q = Ev sh 16 47 [a0, a1, a2] (.ref 27 :: st) σ Q := Ev_h h rfl
theorem s_Foresight_swappedLayMore_47 (h : sh i = 0) : Ev sh 16 47 [a0, a1, a2] (.ref i :: st) σ Q = Ev sh 16 50 [a0, a1, a2] (.ref (i + 6) :: st) σ Q := Ev_h h rfl
theorem s_Foresight_swappedLayMore_50 : Ev sh 16 50 [some (.ref i), a1, a2] st σ Q = Ev sh 16 51 [some (.ref i), a1, a2] (.ref i :: st) σ Q := Ev_step rfl
theorem s_Foresight_swappedLayMore_51 (h : sh i = 2) : Ev sh 16 51 [a0, a1, a2] (.ref i :: st) σ Q = Ev sh 16 54 [a0, a1, a2] (.ref 1 :: st) σ Q := Ev_h h rfl
theorem s_Foresight_swappedLayMore_54 (h : sh i = 0) : Ev sh 16 54 [a0, a1, a2] (.ref i :: st) σ Q = Ev sh 16 57 [a0, a1, a2] (.ref (i + 5) :: st) σ Q := Ev_h h rfl
theorem s_Foresight_swappedLayMore_57 (h : sh i = 4) : Ev sh 16 57 [a0, a1, a2] (.ref i :: st) σ Q = Ev sh 16 60 [a0, a1, a2] (.int (σ i 0) :: st) σ Q := Ev_h h rfl
theorem s_Foresight_swappedLayMore_60 (h : sh i = 4) : Ev sh 16 60 [a0, a1, a2] (.int x :: .ref i :: st) σ Q = Ev sh 16 63 [a0, a1, a2] st (zup σ i 0 x) Q := Ev_h h rfl
theorem s_Foresight_swappedLayMore_63 : Ev sh 16 63 [some (.ref i), a1, a2] st σ Q = Ev sh 16 64 [some (.ref i), a1, a2] (.ref i :: st) σ Q := Ev_step rfl
theorem s_Foresight_swappedLayMore_64 (h : sh i = 2) : Ev sh 16 64 [a0, a1, a2] (.ref i :: st) σ Q = Ev sh 16 67 [a0, a1, a2] (.ref 27 :: st) σ Q := Ev_h h rfl
theorem s_Foresight_swappedLayMore_67 : Ev sh 16 67 [a0, some (.int x), a2] st σ Q = Ev sh 16 68 [a0, some (.int x), a2] (.int x :: st) σ Q := Ev_step rfl
theorem s_Foresight_swappedLayMore_68 (h : sh i0 = 0) : Ev sh 16 68 [a0, a1, a2] [.int x1, .ref i0] σ Q = Ev sh 3 0 [some (.ref i0), some (.int x1), none] [] σ (fun r s => Ev sh 16 71 [a0, a1, a2] (zpush r []) s Q) := Ev_callh (zrecv_of (by decide) h) rfl
theorem s_Foresight_swappedLayMore_71 : Ev sh 16 71 [some (.ref i), a1, a2] st σ Q = Ev sh 16 72 [some (.ref i), a1, a2] (.ref i :: st) σ Q := Ev_step rfl
theorem s_Foresight_swappedLayMore_72 (h : sh i = 2) : Ev sh 16 72 [a0, a1, a2] (.ref i :: st) σ Q = Ev sh 16 75 [a0, a1, a2] (.ref 27 :: st) σ Q := Ev_h h rfl
theorem s_Foresight_swappedLayMore_75 (h : sh i = 0) : Ev sh 16 75 [a0, a1, a2] (.ref i :: st) σ Q = Ev sh 16 78 [a0, a1, a2] (.ref (i + 1) :: st) σ Q := Ev_h h rfl
theorem s_Foresight_swappedLayMore_78 (h : sh i0 = 7) : Ev sh 16 78 [a0, a1, a2] [.ref i0] σ Q = Ev sh 70 0 [some (.ref i0)] [] σ (fun r s => Ev sh 16 81 [a0, a1, a2] (zpush r []) s Q) := Ev_callh (zrecv_of (by decide) h) rfl
theorem s_Foresight_swappedLayMore_81 : Ev sh 16 81 [a0, a1, some (.int x)] st σ Q = Ev sh 16 82 [a0, a1, some (.int x)] (.int x :: st) σ Q := Ev_step rfl
theorem s_Foresight_swappedLayMore_82 : Ev sh 16 82 [a0, a1, a2] (.int y :: .int x :: st) σ Q = if x ≤ y then Ev sh 16 89 [a0, a1, a2] st σ Q else Ev sh 16 85 [a0, a1, a2] st σ Q := Ev_if rfl
theorem s_Foresight_swappedLayMore_85 : Ev sh 16 85 [a0, a1, a2] st σ Q = Ev sh 16 86 [a0, a1, a2] (.int 1 :: st) σ Q := Ev_step rfl
theorem s_Foresight_swappedLayMore_86 : Ev sh 16 86 [a0, a1, a2] st σ Q = Ev sh 16 90 [a0, a1, a2] st σ Q := Ev_step rfl
theorem s_Foresight_swappedLayMore_89 : Ev sh 16 89 [a0, a1, a2] st σ Q = Ev sh 16 90 [a0, a1, a2] (.int 0 :: st) σ Q := Ev_step rfl
theorem s_Foresight_swappedLayMore_90 (h : x = 0 ∨ x = 1) : Ev sh 16 90 [a0, a1, a2] [.int x] σ Q = Q (some (.int x)) σ := Ev_rh h rfl
theorem s_Foresight_firstSettledPair_0 : Ev sh 17 0 [a0, a1, a2, a3, a4] st σ Q = Ev sh 17 1 [a0, a1, a2, a3, a4] (.int 0 :: st) σ Q := Ev_step rfl
theorem s_Foresight_firstSettledPair_1 : Ev sh 17 1 [a0, a1, a2, a3, a4] (.int x :: st) σ Q = Ev sh 17 2 [a0, zdrop2 a1, some (.int x), a3, a4] st σ Q := Ev_step rfl
theorem s_Foresight_firstSettledPair_2 : Ev sh 17 2 [a0, a1, some (.int x), a3, a4] st σ Q = Ev sh 17 3 [a0, a1, some (.int x), a3, a4] (.int x :: st) σ Q := Ev_step rfl
theorem s_Foresight_firstSettledPair_3 : Ev sh 17 3 [a0, a1, a2, a3, a4] st σ Q = Ev sh 17 4 [a0, a1, a2, a3, a4] (.int 1 :: st) σ Q := Ev_step rfl
theorem s_Foresight_firstSettledPair_4 : Ev sh 17 4 [a0, a1, a2, a3, a4] (.int y :: .int x :: st) σ Q = if y < x then Ev sh 17 87 [a0, a1, a2, a3, a4] st σ Q else Ev sh 17 7 [a0, a1, a2, a3, a4] st σ Q := Ev_if rfl
theorem s_Foresight_firstSettledPair_7 : Ev sh 17 7 [a0, a1, a2, a3, a4] st σ Q = Ev sh 17 8 [a0, a1, a2, a3, a4] (.int 0 :: st) σ Q := Ev_step rfl
theorem s_Foresight_firstSettledPair_8 : Ev sh 17 8 [a0, a1, a2, a3, a4] (.int x :: st) σ Q = Ev sh 17 9 [a0, a1, zdrop2 a2, some (.int x), a4] st σ Q := Ev_step rfl
theorem s_Foresight_firstSettledPair_9 : Ev sh 17 9 [a0, a1, a2, some (.int x), a4] st σ Q = Ev sh 17 10 [a0, a1, a2, some (.int x), a4] (.int x :: st) σ Q := Ev_step rfl
theorem s_Foresight_firstSettledPair_10 : Ev sh 17 10 [a0, a1, a2, a3, a4] st σ Q = Ev sh 17 11 [a0, a1, a2, a3, a4] (.int 1 :: st) σ Q := Ev_step rfl
theorem s_Foresight_firstSettledPair_11 : Ev sh 17 11 [a0, a1, a2, a3, a4] (.int y :: .int x :: st) σ Q = if y < x then Ev sh 17 81 [a0, a1, a2, a3, a4] st σ Q else Ev sh 17 14 [a0, a1, a2, a3, a4] st σ Q := Ev_if rfl
theorem s_Foresight_firstSettledPair_14 : Ev sh 17 14 [some (.ref i), a1, a2, a3, a4] st σ Q = Ev sh 17 15 [some (.ref i), a1, a2, a3, a4] (.ref i :: st) σ Q := Ev_step rfl
theorem s_Foresight_firstSettledPair_15 : Ev sh 17 15 [a0, a1, a2, a3, a4] st σ Q = Ev sh 17 16 [a0, a1, a2, a3, a4] (.int 0 :: st) σ Q := Ev_step rfl
theorem s_Foresight_firstSettledPair_16 : Ev sh 17 16 [a0, a1, some (.int x), a3, a4] st σ Q = Ev sh 17 17 [a0, a1, some (.int x), a3, a4] (.int x :: st) σ Q := Ev_step rfl
theorem s_Foresight_firstSettledPair_17 : Ev sh 17 17 [a0, a1, a2, some (.int x), a4] st σ Q = Ev sh 17 18 [a0, a1, a2, some (.int x), a4] (.int x :: st) σ Q := Ev_step rfl
theorem s_Foresight_firstSettledPair_18 : Ev sh 17 18 [a0, some (.int x), a2, a3, a4] st σ Q = Ev sh 17 19 [a0, some (.int x), a2, a3, a4] (.int x :: st) σ Q := Ev_step rfl
theorem s_Foresight_firstSettledPair_19 (h : sh i0 = 2) : Ev sh 17 19 [a0, a1, a2, a3, a4] [.int x4, .int x3, .int x2, .int x1, .ref i0] σ Q = Ev sh 18 0 [some (.ref i0), some (.int x1), some (.int x2), some (.int x3), some (.int x4)] [] σ (fun r s => Ev sh 17 22 [a0, a1, a2, a3, a4] (zpush r []) s Q) := Ev_callh (zrecv_of (by decide) h) rfl
theorem s_Foresight_firstSettledPair_22 : Ev sh 17 22 [some (.ref i), a1, a2, a3, a4] st σ Q = Ev sh 17 23 [some (.ref i), a1, a2, a3, a4] (.ref i :: st) σ Q := Ev_step rfl
theorem s_Foresight_firstSettledPair_23 : Ev sh 17 23 [a0, a1, a2, a3, a4] st σ Q = Ev sh 17 24 [a0, a1, a2, a3, a4] (.int 0 :: st) σ Q := Ev_step rfl
theorem s_Foresight_firstSettledPair_24 : Ev sh 17 24 [a0, a1, a2, a3, a4] st σ Q = Ev sh 17 25 [a0, a1, a2, a3, a4] (.int 1 :: st) σ Q := Ev_step rfl
theorem s_Foresight_firstSettledPair_25 : Ev sh 17 25 [a0, a1, some (.int x), a3, a4] st σ Q = Ev sh 17 26 [a0, a1, some (.int x), a3, a4] (.int x :: st) σ Q := Ev_step rfl
theorem s_Foresight_firstSettledPair_26 : Ev sh 17 26 [a0, a1, a2, a3, a4] (.int y :: .int x :: st) σ Q = Ev sh 17 27 [a0, a1, a2, a3, a4] (.int (x - y) :: st) σ Q := Ev_step rfl
theorem s_Foresight_firstSettledPair_27 : Ev sh 17 27 [a0, a1, a2, some (.int x), a4] st σ Q = Ev sh 17 28 [a0, a1, a2, some (.int x), a4] (.int x :: st) σ Q := Ev_step rfl
theorem s_Foresight_firstSettledPair_28 : Ev sh 17 28 [a0, some (.int x), a2, a3, a4] st σ Q = Ev sh 17 29 [a0, some (.int x), a2, a3, a4] (.int x :: st) σ Q := Ev_step rfl
theorem s_Foresight_firstSettledPair_29 (h : sh i1 = 2) : Ev sh 17 29 [a0, a1, a2, a3, a4] [.int x5, .int x4, .int x3, .int x2, .ref i1, .int x0] σ Q = Ev sh 18 0 [some (.ref i1), some (.int x2), some (.int x3), some (.int x4), some (.int x5)] [] σ (fun r s => Ev sh 17 32 [a0, a1, a2, a3, a4] (zpush r [.int x0]) s Q) := Ev_callh (zrecv_of (by decide) h) rfl
theorem s_Foresight_firstSettledPair_32 : Ev sh 17 32 [a0, a1, a2, a3, a4] (.int y :: .int x :: st) σ Q = if x < y then Ev sh 17 39 [a0, a1, a2, a3, a4] st σ Q else Ev sh 17 35 [a0, a1, a2, a3, a4] st σ Q := Ev_if rfl
theorem s_Foresight_firstSettledPair_35 : Ev sh 17 35 [a0, a1, a2, a3, a4] st σ Q = Ev sh 17 36 [a0, a1, a2, a3, a4] (.int 1 :: st) σ Q := Ev_step rfl
theorem s_Foresight_firstSettledPair_36 : Ev sh 17 36 [a0, a1, a2, a3, a4] st σ Q = Ev sh 17 40 [a0, a1, a2, a3, a4] st σ Q := Ev_step rfl
theorem s_Foresight_firstSettledPair_39 : Ev sh 17 39 [a0, a1, a2, a3, a4] st σ Q = Ev sh 17 40 [a0, a1, a2, a3, a4] (.int 0 :: st) σ Q := Ev_step rfl
theorem s_Foresight_firstSettledPair_40 : Ev sh 17 40 [a0, a1, a2, a3, a4] (.int x :: st) σ Q = Ev sh 17 42 [a0, a1, a2, zdrop2 a3, some (.int x)] st σ Q := Ev_step rfl
theorem s_Foresight_firstSettledPair_42 : Ev sh 17 42 [a0, a1, a2, a3, some (.int x)] st σ Q = Ev sh 17 44 [a0, a1, a2, a3, some (.int x)] (.int x :: st) σ Q := Ev_step rfl
theorem s_Foresight_firstSettledPair_44 : Ev sh 17 44 [a0, a1, a2, a3, a4] (.int x :: st) σ Q = if x = 0 then Ev sh 17 75 [a0, a1, a2, a3, a4] st σ Q else Ev sh 17 47 [a0, a1, a2, a3, a4] st σ Q := Ev_if rfl
theorem s_Foresight_firstSettledPair_47 : Ev sh 17 47 [some (.ref i), a1, a2, a3, a4] st σ Q = Ev sh 17 48 [some (.ref i), a1, a2, a3, a4] (.ref i :: st) σ Q := Ev_step rfl
theorem s_Foresight_firstSettledPair_48 : Ev sh 17 48 [a0, a1, a2, a3, a4] st σ Q = Ev sh 17 49 [a0, a1, a2, a3, a4] (.int 1 :: st) σ Q := Ev_step rfl
theorem s_Foresight_firstSettledPair_49 : Ev sh 17 49 [a0, a1, some (.int x), a3, a4] st σ Q = Ev sh 17 50 [a0, a1, some (.int x), a3, a4] (.int x :: st) σ Q := Ev_step rfl
theorem s_Foresight_firstSettledPair_50 : Ev sh 17 50 [a0, a1, a2, some (.int x), a4] st σ Q = Ev sh 17 51 [a0, a1, a2, some (.int x), a4] (.int x :: st) σ Q := Ev_step rfl
theorem s_Foresight_firstSettledPair_51 : Ev sh 17 51 [a0, some (.int x), a2, a3, a4] st σ Q = Ev sh 17 52 [a0, some (.int x), a2, a3, a4] (.int x :: st) σ Q := Ev_step rfl
theorem s_Foresight_firstSettledPair_52 (h : sh i0 = 2) : Ev sh 17 52 [a0, a1, a2, a3, a4] [.int x4, .int x3, .int x2, .int x1, .ref i0] σ Q = Ev sh 18 0 [some (.ref i0), some (.int x1), some (.int x2), some (.int x3), some (.int x4)] [] σ (fun r s => Ev sh 17 55 [a0, a1, a2, a3, a4] (zpush r []) s Q) := Ev_callh (zrecv_of (by decide) h) rfl
theorem s_Foresight_firstSettledPair_55 : Ev sh 17 55 [some (.ref i), a1, a2, a3, a4] st σ Q = Ev sh 17 56 [some (.ref i), a1, a2, a3, a4] (.ref i :: st) σ Q := Ev_step rfl
theorem s_Foresight_firstSettledPair_56 : Ev sh 17 56 [a0, a1, a2, a3, a4] st σ Q = Ev sh 17 57 [a0, a1, a2, a3, a4] (.int 1 :: st) σ Q := Ev_step rfl
theorem s_Foresight_firstSettledPair_57 : Ev sh 17 57 [a0, a1, some (.int x), a3, a4] st σ Q = Ev sh 17 58 [a0, a1, some (.int x), a3, a4] (.int x :: st) σ Q := Ev_step rfl
theorem s_Foresight_firstSettledPair_58 : Ev sh 17 58 [a0, a1, a2, a3, a4] st σ Q = Ev sh 17 59 [a0, a1, a2, a3, a4] (.int 1 :: st) σ Q := Ev_step rfl
theorem s_Foresight_firstSettledPair_59 : Ev sh 17 59 [a0, a1, a2, some (.int x), a4] st σ Q = Ev sh 17 60 [a0, a1, a2, some (.int x), a4] (.int x :: st) σ Q := Ev_step rfl
theorem s_Foresight_firstSettledPair_60 : Ev sh 17 60 [a0, a1, a2, a3, a4] (.int y :: .int x :: st) σ Q = Ev sh 17 61 [a0, a1, a2, a3, a4] (.int (x - y) :: st) σ Q := Ev_step rfl
theorem s_Foresight_firstSettledPair_61 : Ev sh 17 61 [a0, some (.int x), a2, a3, a4] st σ Q = Ev sh 17 62 [a0, some (.int x), a2, a3, a4] (.int x :: st) σ Q := Ev_step rfl
theorem s_Foresight_firstSettledPair_62 (h : sh i1 = 2) : Ev sh 17 62 [a0, a1, a2, a3, a4] [.int x5, .int x4, .int x3, .int x2, .ref i1, .int x0] σ Q = Ev sh 18 0 [some (.ref i1), some (.int x2), some (.int x3), some (.int x4), some (.int x5)] [] σ (fun r s => Ev sh 17 65 [a0, a1, a2, a3, a4] (zpush r [.int x0]) s Q) := Ev_callh (zrecv_of (by decide) h) rfl
theorem s_Foresight_firstSettledPair_65 : Ev sh 17 65 [a0, a1, a2, a3, a4] (.int y :: .int x :: st) σ Q = if x < y then Ev sh 17 75 [a0, a1, a2, a3, a4] st σ Q else Ev sh 17 68 [a0, a1, a2, a3, a4] st σ Q := Ev_if rfl
theorem s_Foresight_firstSettledPair_68 : Ev sh 17 68 [a0, a1, a2, a3, a4] st σ Q = Ev sh 17 70 [a0, a1, a2, a3, a4] (.int 10 :: st) σ Q := Ev_step rfl
theorem s_Foresight_firstSettledPair_70 : Ev sh 17 70 [a0, a1, some (.int x), a3, a4] st σ Q = Ev sh 17 71 [a0, a1, some (.int x), a3, a4] (.int x :: st) σ Q := Ev_step rfl
theorem s_Foresight_firstSettledPair_71 : Ev sh 17 71 [a0, a1, a2, a3, a4] (.int y :: .int x :: st) σ Q = Ev sh 17 72 [a0, a1, a2, a3, a4] (.int (x * y) :: st) σ Q := Ev_step rfl
theorem s_Foresight_firstSettledPair_72 : Ev sh 17 72 [a0, a1, a2, some (.int x), a4] st σ Q = Ev sh 17 73 [a0, a1, a2, some (.int x), a4] (.int x :: st) σ Q := Ev_step rfl
theorem s_Foresight_firstSettledPair_73 : Ev sh 17 73 [a0, a1, a2, a3, a4] (.int y :: .int x :: st) σ Q = Ev sh 17 74 [a0, a1, a2, a3, a4] (.int (x + y) :: st) σ Q := Ev_step rfl
theorem s_Foresight_firstSettledPair_74 : Ev sh 17 74 [a0, a1, a2, a3, a4] [.int x] σ Q = Q (some (.int x)) σ := Ev_ret rfl
theorem s_Foresight_firstSettledPair_75 : Ev sh 17 75 [a0, a1, a2, some (.int x), a4] st σ Q = Ev sh 17 78 [a0, a1, a2, some (.int (x + 1)), a4] st σ Q := Ev_step rfl
theorem s_Foresight_firstSettledPair_78 : Ev sh 17 78 [a0, a1, a2, a3, a4] st σ Q = Ev sh 17 9 [a0, a1, a2, a3, a4] st σ Q := Ev_step rfl
theorem s_Foresight_firstSettledPair_81 : Ev sh 17 81 [a0, a1, some (.int x), a3, a4] st σ Q = Ev sh 17 84 [a0, a1, some (.int (x + 1)), a3, a4] st σ Q := Ev_step rfl
theorem s_Foresight_firstSettledPair_84 : Ev sh 17 84 [a0, a1, a2, a3, a4] st σ Q = Ev sh 17 2 [a0, a1, a2, a3, a4] st σ Q := Ev_step rfl
theorem s_Foresight_firstSettledPair_87 : Ev sh 17 87 [a0, a1, a2, a3, a4] st σ Q = Ev sh 17 89 [a0, a1, a2, a3, a4] (.int (-9) :: st) σ Q := Ev_step rfl
theorem s_Foresight_firstSettledPair_89 : Ev sh 17 89 [a0, a1, a2, a3, a4] [.int x] σ Q = Q (some (.int x)) σ := Ev_ret rfl
theorem s_Foresight_gain_0 : Ev sh 18 0 [some (.ref i), a1, a2, a3, a4] st σ Q = Ev sh 18 1 [some (.ref i), a1, a2, a3, a4] (.ref i :: st) σ Q := Ev_step rfl
theorem s_Foresight_gain_1 (h : sh i = 2) : Ev sh 18 1 [a0, a1, a2, a3, a4] (.ref i :: st) σ Q = Ev sh 18 4 [a0, a1, a2, a3, a4] (.ref 27 :: st) σ Q := Ev_h h rfl
theorem s_Foresight_gain_4 : Ev sh 18 4 [some (.ref i), a1, a2, a3, a4] st σ Q = Ev sh 18 5 [some (.ref i), a1, a2, a3, a4] (.ref i :: st) σ Q := Ev_step rfl
theorem s_Foresight_gain_5 (h : sh i = 2) : Ev sh 18 5 [a0, a1, a2, a3, a4] (.ref i :: st) σ Q = Ev sh 18 8 [a0, a1, a2, a3, a4] (.ref 1 :: st) σ Q := Ev_h h rfl
theorem s_Foresight_gain_8 (h : sh i0 = 0) : Ev sh 18 8 [a0, a1, a2, a3, a4] [.ref i1, .ref i0] σ Q = Ev sh 0 0 [some (.ref i0), some (.ref i1)] [] σ (fun r s => Ev sh 18 11 [a0, a1, a2, a3, a4] (zpush r []) s Q) := Ev_callh (zrecv_of (by decide) h) rfl
theorem s_Foresight_gain_11 : Ev sh 18 11 [some (.ref i), a1, a2, a3, a4] st σ Q = Ev sh 18 12 [some (.ref i), a1, a2, a3, a4] (.ref i :: st) σ Q := Ev_step rfl
theorem s_Foresight_gain_12 (h : sh i = 2) : Ev sh 18 12 [a0, a1, a2, a3, a4] (.ref i :: st) σ Q = Ev sh 18 15 [a0, a1, a2, a3, a4] (.ref 27 :: st) σ Q := Ev_h h rfl
theorem s_Foresight_gain_15 (h : sh i = 0) : Ev sh 18 15 [a0, a1, a2, a3, a4] (.ref i :: st) σ Q = Ev sh 18 18 [a0, a1, a2, a3, a4] (.ref (i + 5) :: st) σ Q := Ev_h h rfl
theorem s_Foresight_gain_18 : Ev sh 18 18 [a0, a1, a2, a3, a4] st σ Q = Ev sh 18 20 [a0, a1, a2, a3, a4] (.int 9 :: st) σ Q := Ev_step rfl
theorem s_Foresight_gain_20 : Ev sh 18 20 [a0, a1, some (.int x), a3, a4] st σ Q = Ev sh 18 21 [a0, a1, some (.int x), a3, a4] (.int x :: st) σ Q := Ev_step rfl
theorem s_Foresight_gain_21 : Ev sh 18 21 [a0, a1, a2, a3, a4] (.int y :: .int x :: st) σ Q = Ev sh 18 22 [a0, a1, a2, a3, a4] (.int (x * y) :: st) σ Q := Ev_step rfl
theorem s_Foresight_gain_22 (h : sh i = 4) : Ev sh 18 22 [a0, a1, a2, a3, a4] (.int x :: .ref i :: st) σ Q = Ev sh 18 25 [a0, a1, a2, a3, a4] st (zup σ i 2 x) Q := Ev_h h rfl
theorem s_Foresight_gain_25 : Ev sh 18 25 [some (.ref i), a1, a2, a3, a4] st σ Q = Ev sh 18 26 [some (.ref i), a1, a2, a3, a4] (.ref i :: st) σ Q := Ev_step rfl
theorem s_Foresight_gain_26 (h : sh i = 2) : Ev sh 18 26 [a0, a1, a2, a3, a4] (.ref i :: st) σ Q = Ev sh 18 29 [a0, a1, a2, a3, a4] (.ref 27 :: st) σ Q := Ev_h h rfl
theorem s_Foresight_gain_29 (h : sh i = 0) : Ev sh 18 29 [a0, a1, a2, a3, a4] (.ref i :: st) σ Q = Ev sh 18 32 [a0, a1, a2, a3, a4] (.ref (i + 6) :: st) σ Q := Ev_h h rfl
theorem s_Foresight_gain_32 : Ev sh 18 32 [a0, a1, a2, a3, a4] st σ Q = Ev sh 18 34 [a0, a1, a2, a3, a4] (.int 9 :: st) σ Q := Ev_step rfl
theorem s_Foresight_gain_34 : Ev sh 18 34 [a0, a1, a2, some (.int x), a4] st σ Q = Ev sh 18 35 [a0, a1, a2, some (.int x), a4] (.int x :: st) σ Q := Ev_step rfl
theorem s_Foresight_gain_35 : Ev sh 18 35 [a0, a1, a2, a3, a4] (.int y :: .int x :: st) σ Q = Ev sh 18 36 [a0, a1, a2, a3, a4] (.int (x * y) :: st) σ Q := Ev_step rfl
theorem s_Foresight_gain_36 (h : sh i = 4) : Ev sh 18 36 [a0, a1, a2, a3, a4] (.int x :: .ref i :: st) σ Q = Ev sh 18 39 [a0, a1, a2, a3, a4] st (zup σ i 2 x) Q := Ev_h h rfl
theorem s_Foresight_gain_39 : Ev sh 18 39 [some (.ref i), a1, a2, a3, a4] st σ Q = Ev sh 18 40 [some (.ref i), a1, a2, a3, a4] (.ref i :: st) σ Q := Ev_step rfl
theorem s_Foresight_gain_40 (h : sh i = 2) : Ev sh 18 40 [a0, a1, a2, a3, a4] (.ref i :: st) σ Q = Ev sh 18 43 [a0, a1, a2, a3, a4] (.ref 27 :: st) σ Q := Ev_h h rfl
theorem s_Foresight_gain_43 : Ev sh 18 43 [a0, a1, a2, a3, some (.int x)] st σ Q = Ev sh 18 45 [a0, a1, a2, a3, some (.int x)] (.int x :: st) σ Q := Ev_step rfl
theorem s_Foresight_gain_45 (h : sh i0 = 0) : Ev sh 18 45 [a0, a1, a2, a3, a4] [.int x1, .ref i0] σ Q = Ev sh 3 0 [some (.ref i0), some (.int x1), none] [] σ (fun r s => Ev sh 18 48 [a0, a1, a2, a3, a4] (zpush r []) s Q) := Ev_callh (zrecv_of (by decide) h) rfl
theorem s_Foresight_gain_48 : Ev sh 18 48 [some (.ref i), a1, a2, a3, a4] st σ Q = Ev sh 18 49 [some (.ref i), a1, a2, a3, a4] (.ref i :: st) σ Q := Ev_step rfl
theorem s_Foresight_gain_49 (h : sh i = 2) : Ev sh 18 49 [a0, a1, a2, a3, a4] (.ref i :: st) σ Q = Ev sh 18 52 [a0, a1, a2, a3, a4] (.ref 27 :: st) σ Q := Ev_h h rfl
theorem s_Foresight_gain_52 (h : sh i = 0) : Ev sh 18 52 [a0, a1, a2, a3, a4] (.ref i :: st) σ Q = Ev sh 18 55 [a0, a1, a2, a3, a4] (.ref (i + 1) :: st) σ Q := Ev_h h rfl
theorem s_Foresight_gain_55 : Ev sh 18 55 [a0, some (.int x), a2, a3, a4] st σ Q = Ev sh 18 56 [a0, some (.int x), a2, a3, a4] (.int x :: st) σ Q := Ev_step rfl
theorem s_Foresight_gain_56 (h : sh i0 = 7) : Ev sh 18 56 [a0, a1, a2, a3, a4] [.int x1, .ref i0] σ Q = Ev sh 98 0 [some (.ref i0), some (.int x1)] [] σ (fun r s => Ev sh 18 59 [a0, a1, a2, a3, a4] (zpush r []) s Q) := Ev_callh (zrecv_of (by decide) h) rfl
theorem s_Foresight_gain_59 : Ev sh 18 59 [some (.ref i), a1, a2, a3, a4] st σ Q = Ev sh 18 60 [some (.ref i), a1, a2, a3, a4] (.ref i :: st) σ Q := Ev_step rfl
theorem s_Foresight_gain_60 (h : sh i = 2) : Ev sh 18 60 [a0, a1, a2, a3, a4] (.ref i :: st) σ Q = Ev sh 18 63 [a0, a1, a2, a3, a4] (.ref 27 :: st) σ Q := Ev_h h rfl
theorem s_Foresight_gain_63 (h : sh i = 0) : Ev sh 18 63 [a0, a1, a2, a3, a4] (.ref i :: st) σ Q = Ev sh 18 66 [a0, a1, a2, a3, a4] (.int (σ i 3) :: st) σ Q := Ev_h h rfl
theorem s_Foresight_gain_66 : Ev sh 18 66 [some (.ref i), a1, a2, a3, a4] st σ Q = Ev sh 18 67 [some (.ref i), a1, a2, a3, a4] (.ref i :: st) σ Q := Ev_step rfl
theorem s_Foresight_gain_67 (h : sh i = 2) : Ev sh 18 67 [a0, a1, a2, a3, a4] (.ref i :: st) σ Q = Ev sh 18 70 [a0, a1, a2, a3, a4] (.ref 1 :: st) σ Q := Ev_h h rfl
theorem s_Foresight_gain_70 (h : sh i = 0) : Ev sh 18 70 [a0, a1, a2, a3, a4] (.ref i :: st) σ Q = Ev sh 18 73 [a0, a1, a2, a3, a4] (.int (σ i 3) :: st) σ Q := Ev_h h rfl
theorem s_Foresight_gain_73 : Ev sh 18 73 [a0, a1, a2, a3, a4] (.int y :: .int x :: st) σ Q = Ev sh 18 74 [a0, a1, a2, a3, a4] (.int (x - y) :: st) σ Q := Ev_step rfl
theorem s_Foresight_gain_74 : Ev sh 18 74 [a0, a1, a2, a3, a4] (.int y :: .int x :: st) σ Q = Ev sh 18 75 [a0, a1, a2, a3, a4] (.int (x - y) :: st) σ Q := Ev_step rfl
theorem s_Foresight_gain_75 : Ev sh 18 75 [a0, a1, a2, a3, a4] [.int x] σ Q = Q (some (.int x)) σ := Ev_ret rfl
theorem s_Foresight_standingWays_0 : Ev sh 19 0 [a0, a1, a2, a3, a4, a5, a6] st σ Q = Ev sh 19 1 [a0, a1, a2, a3, a4, a5, a6] (.long 0 :: st) σ Q := Ev_step rfl
theorem s_Foresight_standingWays_1 : Ev sh 19 1 [a0, a1, a2, a3, a4, a5, a6] (.long u :: st) σ Q = Ev sh 19 2 [a0, a1, zdrop2 a2, some (.long u), none, a5, a6] st σ Q := Ev_step rfl
theorem s_Foresight_standingWays_2 : Ev sh 19 2 [a0, a1, a2, a3, a4, a5, a6] st σ Q = Ev sh 19 3 [a0, a1, a2, a3, a4, a5, a6] (.int 0 :: st) σ Q := Ev_step rfl
theorem s_Foresight_standingWays_3 : Ev sh 19 3 [a0, a1, a2, a3, a4, a5, a6] (.int x :: st) σ Q = Ev sh 19 5 [a0, a1, a2, a3, zdrop2 a4, some (.int x), a6] st σ Q := Ev_step rfl
theorem s_Foresight_standingWays_5 : Ev sh 19 5 [a0, a1, a2, a3, a4, some (.int x), a6] st σ Q = Ev sh 19 7 [a0, a1, a2, a3, a4, some (.int x), a6] (.int x :: st) σ Q := Ev_step rfl
theorem s_Foresight_standingWays_7 : Ev sh 19 7 [a0, a1, a2, a3, a4, a5, a6] st σ Q = Ev sh 19 8 [a0, a1, a2, a3, a4, a5, a6] (.int 1 :: st) σ Q := Ev_step rfl
theorem s_Foresight_standingWays_8 : Ev sh 19 8 [a0, some (.int x), a2, a3, a4, a5, a6] st σ Q = Ev sh 19 9 [a0, some (.int x), a2, a3, a4, a5, a6] (.int x :: st) σ Q := Ev_step rfl
theorem s_Foresight_standingWays_9 : Ev sh 19 9 [a0, a1, a2, a3, a4, a5, a6] (.int y :: .int x :: st) σ Q = Ev sh 19 10 [a0, a1, a2, a3, a4, a5, a6] (.int (x <<< (y &&& 31)) :: st) σ Q := Ev_step rfl
theorem s_Foresight_standingWays_10 : Ev sh 19 10 [a0, a1, a2, a3, a4, a5, a6] (.int y :: .int x :: st) σ Q = if y ≤ x then Ev sh 19 96 [a0, a1, a2, a3, a4, a5, a6] st σ Q else Ev sh 19 13 [a0, a1, a2, a3, a4, a5, a6] st σ Q := Ev_if rfl
theorem s_Foresight_standingWays_13 : Ev sh 19 13 [some (.ref i), a1, a2, a3, a4, a5, a6] st σ Q = Ev sh 19 14 [some (.ref i), a1, a2, a3, a4, a5, a6] (.ref i :: st) σ Q := Ev_step rfl
theorem s_Foresight_standingWays_14 (h : sh i = 2) : Ev sh 19 14 [a0, a1, a2, a3, a4, a5, a6] (.ref i :: st) σ Q = Ev sh 19 17 [a0, a1, a2, a3, a4, a5, a6] (.ref 27 :: st) σ Q := Ev_h h rfl
theorem s_Foresight_standingWays_17 : Ev sh 19 17 [some (.ref i), a1, a2, a3, a4, a5, a6] st σ Q = Ev sh 19 18 [some (.ref i), a1, a2, a3, a4, a5, a6] (.ref i :: st) σ Q := Ev_step rfl
theorem s_Foresight_standingWays_18 (h : sh i = 2) : Ev sh 19 18 [a0, a1, a2, a3, a4, a5, a6] (.ref i :: st) σ Q = Ev sh 19 21 [a0, a1, a2, a3, a4, a5, a6] (.ref 1 :: st) σ Q := Ev_h h rfl
theorem s_Foresight_standingWays_21 (h : sh i0 = 0) : Ev sh 19 21 [a0, a1, a2, a3, a4, a5, a6] [.ref i1, .ref i0] σ Q = Ev sh 0 0 [some (.ref i0), some (.ref i1)] [] σ (fun r s => Ev sh 19 24 [a0, a1, a2, a3, a4, a5, a6] (zpush r []) s Q) := Ev_callh (zrecv_of (by decide) h) rfl
theorem s_Foresight_standingWays_24 : Ev sh 19 24 [a0, a1, a2, a3, a4, a5, a6] st σ Q = Ev sh 19 25 [a0, a1, a2, a3, a4, a5, a6] (.int 0 :: st) σ Q := Ev_step rfl
theorem s_Foresight_standingWays_25 : Ev sh 19 25 [a0, a1, a2, a3, a4, a5, a6] (.int x :: st) σ Q = Ev sh 19 27 [a0, a1, a2, a3, a4, zdrop2 a5, some (.int x)] st σ Q := Ev_step rfl
theorem s_Foresight_standingWays_27 : Ev sh 19 27 [a0, a1, a2, a3, a4, a5, some (.int x)] st σ Q = Ev sh 19 29 [a0, a1, a2, a3, a4, a5, some (.int x)] (.int x :: st) σ Q := Ev_step rfl
theorem s_Foresight_standingWays_29 : Ev sh 19 29 [a0, some (.int x), a2, a3, a4, a5, a6] st σ Q = Ev sh 19 30 [a0, some (.int x), a2, a3, a4, a5, a6] (.int x :: st) σ Q := Ev_step rfl
theorem s_Foresight_standingWays_30 : Ev sh 19 30 [a0, a1, a2, a3, a4, a5, a6] (.int y :: .int x :: st) σ Q = if y ≤ x then Ev sh 19 61 [a0, a1, a2, a3, a4, a5, a6] st σ Q else Ev sh 19 33 [a0, a1, a2, a3, a4, a5, a6] st σ Q := Ev_if rfl
theorem s_Foresight_standingWays_33 : Ev sh 19 33 [some (.ref i), a1, a2, a3, a4, a5, a6] st σ Q = Ev sh 19 34 [some (.ref i), a1, a2, a3, a4, a5, a6] (.ref i :: st) σ Q := Ev_step rfl
theorem s_Foresight_standingWays_34 (h : sh i = 2) : Ev sh 19 34 [a0, a1, a2, a3, a4, a5, a6] (.ref i :: st) σ Q = Ev sh 19 37 [a0, a1, a2, a3, a4, a5, a6] (.ref 27 :: st) σ Q := Ev_h h rfl
theorem s_Foresight_standingWays_37 : Ev sh 19 37 [a0, a1, a2, a3, a4, some (.int x), a6] st σ Q = Ev sh 19 39 [a0, a1, a2, a3, a4, some (.int x), a6] (.int x :: st) σ Q := Ev_step rfl
theorem s_Foresight_standingWays_39 : Ev sh 19 39 [a0, a1, a2, a3, a4, a5, some (.int x)] st σ Q = Ev sh 19 41 [a0, a1, a2, a3, a4, a5, some (.int x)] (.int x :: st) σ Q := Ev_step rfl
theorem s_Foresight_standingWays_41 : Ev sh 19 41 [a0, a1, a2, a3, a4, a5, a6] [.int x2, .int x1, .ref i0] σ Q = Ev sh 156 0 [some (.int x1), some (.int x2)] [] σ (fun r s => Ev sh 19 44 [a0, a1, a2, a3, a4, a5, a6] (zpush r [.ref i0]) s Q) := Ev_call rfl
theorem s_Foresight_standingWays_44 : Ev sh 19 44 [a0, a1, a2, a3, a4, a5, a6] (.int x :: st) σ Q = if x ≠ 0 then Ev sh 19 51 [a0, a1, a2, a3, a4, a5, a6] st σ Q else Ev sh 19 47 [a0, a1, a2, a3, a4, a5, a6] st σ Q := Ev_if rfl
theorem s_Foresight_standingWays_47 : Ev sh 19 47 [a0, a1, a2, a3, a4, a5, a6] st σ Q = Ev sh 19 48 [a0, a1, a2, a3, a4, a5, a6] (.int 1 :: st) σ Q := Ev_step rfl
theorem s_Foresight_standingWays_48 : Ev sh 19 48 [a0, a1, a2, a3, a4, a5, a6] st σ Q = Ev sh 19 52 [a0, a1, a2, a3, a4, a5, a6] st σ Q := Ev_step rfl
theorem s_Foresight_standingWays_51 : Ev sh 19 51 [a0, a1, a2, a3, a4, a5, a6] st σ Q = Ev sh 19 52 [a0, a1, a2, a3, a4, a5, a6] (.int 0 :: st) σ Q := Ev_step rfl
theorem s_Foresight_standingWays_52 (h : sh i0 = 0) : Ev sh 19 52 [a0, a1, a2, a3, a4, a5, a6] [.int x1, .ref i0] σ Q = Ev sh 4 0 [some (.ref i0), some (.int x1)] [] σ (fun r s => Ev sh 19 55 [a0, a1, a2, a3, a4, a5, a6] (zpush r []) s Q) := Ev_callh (zrecv_of (by decide) h) rfl
theorem s_Foresight_standingWays_55 : Ev sh 19 55 [a0, a1, a2, a3, a4, a5, some (.int x)] st σ Q = Ev sh 19 58 [a0, a1, a2, a3, a4, a5, some (.int (x + 1))] st σ Q := Ev_step rfl
theorem s_Foresight_standingWays_58 : Ev sh 19 58 [a0, a1, a2, a3, a4, a5, a6] st σ Q = Ev sh 19 27 [a0, a1, a2, a3, a4, a5, a6] st σ Q := Ev_step rfl
theorem s_Foresight_standingWays_61 : Ev sh 19 61 [some (.ref i), a1, a2, a3, a4, a5, a6] st σ Q = Ev sh 19 62 [some (.ref i), a1, a2, a3, a4, a5, a6] (.ref i :: st) σ Q := Ev_step rfl
theorem s_Foresight_standingWays_62 (h : sh i = 2) : Ev sh 19 62 [a0, a1, a2, a3, a4, a5, a6] (.ref i :: st) σ Q = Ev sh 19 65 [a0, a1, a2, a3, a4, a5, a6] (.ref 27 :: st) σ Q := Ev_h h rfl
theorem s_Foresight_standingWays_65 (h : sh i = 0) : Ev sh 19 65 [a0, a1, a2, a3, a4, a5, a6] (.ref i :: st) σ Q = Ev sh 19 68 [a0, a1, a2, a3, a4, a5, a6] (.ref (i + 1) :: st) σ Q := Ev_h h rfl
theorem s_Foresight_standingWays_68 (h : sh i0 = 7) : Ev sh 19 68 [a0, a1, a2, a3, a4, a5, a6] [.ref i0] σ Q = Ev sh 90 0 [some (.ref i0)] [] σ (fun r s => Ev sh 19 71 [a0, a1, a2, a3, a4, a5, a6] (zpush r []) s Q) := Ev_callh (zrecv_of (by decide) h) rfl
theorem s_Foresight_standingWays_71 : Ev sh 19 71 [a0, a1, a2, a3, a4, a5, a6] (.int x :: st) σ Q = if x = 0 then Ev sh 19 90 [a0, a1, a2, a3, a4, a5, a6] st σ Q else Ev sh 19 74 [a0, a1, a2, a3, a4, a5, a6] st σ Q := Ev_if rfl
theorem s_Foresight_standingWays_74 : Ev sh 19 74 [a0, a1, a2, some (.long u), a4, a5, a6] st σ Q = Ev sh 19 75 [a0, a1, a2, some (.long u), a4, a5, a6] (.long u :: st) σ Q := Ev_step rfl
theorem s_Foresight_standingWays_75 : Ev sh 19 75 [a0, a1, some (.int x), a3, a4, a5, a6] st σ Q = Ev sh 19 76 [a0, a1, some (.int x), a3, a4, a5, a6] (.int x :: st) σ Q := Ev_step rfl
theorem s_Foresight_standingWays_76 : Ev sh 19 76 [a0, a1, a2, a3, a4, a5, a6] st σ Q = Ev sh 19 77 [a0, a1, a2, a3, a4, a5, a6] (.int 1 :: st) σ Q := Ev_step rfl
theorem s_Foresight_standingWays_77 : Ev sh 19 77 [a0, a1, a2, a3, a4, a5, a6] (.int y :: .int x :: st) σ Q = Ev sh 19 78 [a0, a1, a2, a3, a4, a5, a6] (.int (x - y) :: st) σ Q := Ev_step rfl
theorem s_Foresight_standingWays_78 : Ev sh 19 78 [a0, some (.int x), a2, a3, a4, a5, a6] st σ Q = Ev sh 19 79 [a0, some (.int x), a2, a3, a4, a5, a6] (.int x :: st) σ Q := Ev_step rfl
theorem s_Foresight_standingWays_79 : Ev sh 19 79 [a0, a1, a2, a3, a4, some (.int x), a6] st σ Q = Ev sh 19 81 [a0, a1, a2, a3, a4, some (.int x), a6] (.int x :: st) σ Q := Ev_step rfl
theorem s_Foresight_standingWays_81 : Ev sh 19 81 [a0, a1, a2, a3, a4, a5, a6] [.int x3, .int x2, .int x1, .long u0] σ Q = Ev sh 260 0 [some (.int x3)] [] σ (fun r s => Ev sh 19 84 [a0, a1, a2, a3, a4, a5, a6] (zpush r [.int x2, .int x1, .long u0]) s Q) := Ev_call rfl
theorem s_Foresight_standingWays_84 : Ev sh 19 84 [a0, a1, a2, a3, a4, a5, a6] (.int y :: .int x :: st) σ Q = Ev sh 19 85 [a0, a1, a2, a3, a4, a5, a6] (.int (x - y) :: st) σ Q := Ev_step rfl
theorem s_Foresight_standingWays_85 : Ev sh 19 85 [a0, a1, a2, a3, a4, a5, a6] [.int x2, .int x1, .long u0] σ Q = Ev sh 157 0 [some (.int x1), some (.int x2), none, none, none] [] σ (fun r s => Ev sh 19 88 [a0, a1, a2, a3, a4, a5, a6] (zpush r [.long u0]) s Q) := Ev_call rfl
theorem s_Foresight_standingWays_88 : Ev sh 19 88 [a0, a1, a2, a3, a4, a5, a6] (.long v :: .long u :: st) σ Q = Ev sh 19 89 [a0, a1, a2, a3, a4, a5, a6] (.long (u + v) :: st) σ Q := Ev_step rfl
theorem s_Foresight_standingWays_89 : Ev sh 19 89 [a0, a1, a2, a3, a4, a5, a6] (.long u :: st) σ Q = Ev sh 19 90 [a0, a1, zdrop2 a2, some (.long u), none, a5, a6] st σ Q := Ev_step rfl
theorem s_Foresight_standingWays_90 : Ev sh 19 90 [a0, a1, a2, a3, a4, some (.int x), a6] st σ Q = Ev sh 19 93 [a0, a1, a2, a3, a4, some (.int (x + 1)), a6] st σ Q := Ev_step rfl
theorem s_Foresight_standingWays_93 : Ev sh 19 93 [a0, a1, a2, a3, a4, a5, a6] st σ Q = Ev sh 19 5 [a0, a1, a2, a3, a4, a5, a6] st σ Q := Ev_step rfl
theorem s_Foresight_standingWays_96 : Ev sh 19 96 [a0, a1, a2, some (.long u), a4, a5, a6] st σ Q = Ev sh 19 97 [a0, a1, a2, some (.long u), a4, a5, a6] (.long u :: st) σ Q := Ev_step rfl
theorem s_Foresight_standingWays_97 : Ev sh 19 97 [a0, a1, a2, a3, a4, a5, a6] [.long u] σ Q = Q (some (.long u)) σ := Ev_ret rfl
theorem s_Foresight_standingByLot_0 : Ev sh 20 0 [some (.ref i), a1, a2, a3, a4] st σ Q = Ev sh 20 1 [some (.ref i), a1, a2, a3, a4] (.ref i :: st) σ Q := Ev_step rfl
theorem s_Foresight_standingByLot_1 (h : sh i = 2) : Ev sh 20 1 [a0, a1, a2, a3, a4] (.ref i :: st) σ Q = Ev sh 20 4 [a0, a1, a2, a3, a4] (.ref 35 :: st) σ Q := Ev_h h rfl
theorem s_Foresight_standingByLot_4 : Ev sh 20 4 [a0, a1, some (.int x), a3, a4] st σ Q = Ev sh 20 5 [a0, a1, some (.int x), a3, a4] (.int x :: st) σ Q := Ev_step rfl
theorem s_Foresight_standingByLot_5 (h : sh i0 = 1) : Ev sh 20 5 [a0, a1, a2, a3, a4] [.int x1, .ref i0] σ Q = Ev sh 6 0 [some (.ref i0), some (.int x1)] [] σ (fun r s => Ev sh 20 8 [a0, a1, a2, a3, a4] (zpush r []) s Q) := Ev_callh (zrecv_of (by decide) h) rfl
theorem s_Foresight_standingByLot_8 : Ev sh 20 8 [a0, a1, a2, a3, a4] st σ Q = Ev sh 20 9 [a0, a1, a2, a3, a4] (.int 0 :: st) σ Q := Ev_step rfl
theorem s_Foresight_standingByLot_9 : Ev sh 20 9 [a0, a1, a2, a3, a4] (.int x :: st) σ Q = Ev sh 20 10 [a0, a1, zdrop2 a2, some (.int x), a4] st σ Q := Ev_step rfl
theorem s_Foresight_standingByLot_10 : Ev sh 20 10 [a0, a1, a2, a3, a4] st σ Q = Ev sh 20 11 [a0, a1, a2, a3, a4] (.int 0 :: st) σ Q := Ev_step rfl
theorem s_Foresight_standingByLot_11 : Ev sh 20 11 [a0, a1, a2, a3, a4] (.int x :: st) σ Q = Ev sh 20 13 [a0, a1, a2, zdrop2 a3, some (.int x)] st σ Q := Ev_step rfl
theorem s_Foresight_standingByLot_13 : Ev sh 20 13 [a0, a1, a2, a3, some (.int x)] st σ Q = Ev sh 20 15 [a0, a1, a2, a3, some (.int x)] (.int x :: st) σ Q := Ev_step rfl
theorem s_Foresight_standingByLot_15 : Ev sh 20 15 [a0, some (.int x), a2, a3, a4] st σ Q = Ev sh 20 16 [a0, some (.int x), a2, a3, a4] (.int x :: st) σ Q := Ev_step rfl
theorem s_Foresight_standingByLot_16 : Ev sh 20 16 [a0, a1, a2, a3, a4] (.int y :: .int x :: st) σ Q = if y ≤ x then Ev sh 20 45 [a0, a1, a2, a3, a4] st σ Q else Ev sh 20 19 [a0, a1, a2, a3, a4] st σ Q := Ev_if rfl
theorem s_Foresight_standingByLot_19 : Ev sh 20 19 [some (.ref i), a1, a2, a3, a4] st σ Q = Ev sh 20 20 [some (.ref i), a1, a2, a3, a4] (.ref i :: st) σ Q := Ev_step rfl
theorem s_Foresight_standingByLot_20 (h : sh i0 = 2) : Ev sh 20 20 [a0, a1, a2, a3, a4] [.ref i0] σ Q = Ev sh 22 0 [some (.ref i0)] [] σ (fun r s => Ev sh 20 23 [a0, a1, a2, a3, a4] (zpush r []) s Q) := Ev_callh (zrecv_of (by decide) h) rfl
theorem s_Foresight_standingByLot_23 : Ev sh 20 23 [a0, a1, a2, some (.int x), a4] st σ Q = Ev sh 20 24 [a0, a1, a2, some (.int x), a4] (.int x :: st) σ Q := Ev_step rfl
theorem s_Foresight_standingByLot_24 : Ev sh 20 24 [some (.ref i), a1, a2, a3, a4] st σ Q = Ev sh 20 25 [some (.ref i), a1, a2, a3, a4] (.ref i :: st) σ Q := Ev_step rfl
theorem s_Foresight_standingByLot_25 (h : sh i = 2) : Ev sh 20 25 [a0, a1, a2, a3, a4] (.ref i :: st) σ Q = Ev sh 20 28 [a0, a1, a2, a3, a4] (.ref 27 :: st) σ Q := Ev_h h rfl
theorem s_Foresight_standingByLot_28 (h : sh i = 0) : Ev sh 20 28 [a0, a1, a2, a3, a4] (.ref i :: st) σ Q = Ev sh 20 31 [a0, a1, a2, a3, a4] (.ref (i + 1) :: st) σ Q := Ev_h h rfl
theorem s_Foresight_standingByLot_31 (h : sh i1 = 7) : Ev sh 20 31 [a0, a1, a2, a3, a4] [.ref i1, .int x0] σ Q = Ev sh 90 0 [some (.ref i1)] [] σ (fun r s => Ev sh 20 34 [a0, a1, a2, a3, a4] (zpush r [.int x0]) s Q) := Ev_callh (zrecv_of (by decide) h) rfl
theorem s_Foresight_standingByLot_34 : Ev sh 20 34 [a0, a1, a2, a3, a4] [.int x1, .int x0] σ Q = Ev sh 155 0 [some (.int x1)] [] σ (fun r s => Ev sh 20 37 [a0, a1, a2, a3, a4] (zpush r [.int x0]) s Q) := Ev_call rfl
theorem s_Foresight_standingByLot_37 : Ev sh 20 37 [a0, a1, a2, a3, a4] (.int y :: .int x :: st) σ Q = Ev sh 20 38 [a0, a1, a2, a3, a4] (.int (x + y) :: st) σ Q := Ev_step rfl
theorem s_Foresight_standingByLot_38 : Ev sh 20 38 [a0, a1, a2, a3, a4] (.int x :: st) σ Q = Ev sh 20 39 [a0, a1, zdrop2 a2, some (.int x), a4] st σ Q := Ev_step rfl
theorem s_Foresight_standingByLot_39 : Ev sh 20 39 [a0, a1, a2, a3, some (.int x)] st σ Q = Ev sh 20 42 [a0, a1, a2, a3, some (.int (x + 1))] st σ Q := Ev_step rfl
theorem s_Foresight_standingByLot_42 : Ev sh 20 42 [a0, a1, a2, a3, a4] st σ Q = Ev sh 20 13 [a0, a1, a2, a3, a4] st σ Q := Ev_step rfl
theorem s_Foresight_standingByLot_45 : Ev sh 20 45 [a0, a1, a2, some (.int x), a4] st σ Q = Ev sh 20 46 [a0, a1, a2, some (.int x), a4] (.int x :: st) σ Q := Ev_step rfl
theorem s_Foresight_standingByLot_46 : Ev sh 20 46 [a0, a1, a2, a3, a4] [.int x] σ Q = Q (some (.int x)) σ := Ev_ret rfl
theorem s_Foresight_quarrelsByLot_0 : Ev sh 21 0 [some (.ref i), a1, a2, a3, a4] st σ Q = Ev sh 21 1 [some (.ref i), a1, a2, a3, a4] (.ref i :: st) σ Q := Ev_step rfl
theorem s_Foresight_quarrelsByLot_1 (h : sh i = 2) : Ev sh 21 1 [a0, a1, a2, a3, a4] (.ref i :: st) σ Q = Ev sh 21 4 [a0, a1, a2, a3, a4] (.ref 35 :: st) σ Q := Ev_h h rfl
theorem s_Foresight_quarrelsByLot_4 : Ev sh 21 4 [a0, a1, some (.int x), a3, a4] st σ Q = Ev sh 21 5 [a0, a1, some (.int x), a3, a4] (.int x :: st) σ Q := Ev_step rfl
theorem s_Foresight_quarrelsByLot_5 (h : sh i0 = 1) : Ev sh 21 5 [a0, a1, a2, a3, a4] [.int x1, .ref i0] σ Q = Ev sh 6 0 [some (.ref i0), some (.int x1)] [] σ (fun r s => Ev sh 21 8 [a0, a1, a2, a3, a4] (zpush r []) s Q) := Ev_callh (zrecv_of (by decide) h) rfl
theorem s_Foresight_quarrelsByLot_8 : Ev sh 21 8 [a0, a1, a2, a3, a4] st σ Q = Ev sh 21 9 [a0, a1, a2, a3, a4] (.int 0 :: st) σ Q := Ev_step rfl
theorem s_Foresight_quarrelsByLot_9 : Ev sh 21 9 [a0, a1, a2, a3, a4] (.int x :: st) σ Q = Ev sh 21 10 [a0, a1, zdrop2 a2, some (.int x), a4] st σ Q := Ev_step rfl
theorem s_Foresight_quarrelsByLot_10 : Ev sh 21 10 [a0, a1, a2, a3, a4] st σ Q = Ev sh 21 11 [a0, a1, a2, a3, a4] (.int 0 :: st) σ Q := Ev_step rfl
theorem s_Foresight_quarrelsByLot_11 : Ev sh 21 11 [a0, a1, a2, a3, a4] (.int x :: st) σ Q = Ev sh 21 13 [a0, a1, a2, zdrop2 a3, some (.int x)] st σ Q := Ev_step rfl
theorem s_Foresight_quarrelsByLot_13 : Ev sh 21 13 [a0, a1, a2, a3, some (.int x)] st σ Q = Ev sh 21 15 [a0, a1, a2, a3, some (.int x)] (.int x :: st) σ Q := Ev_step rfl
theorem s_Foresight_quarrelsByLot_15 : Ev sh 21 15 [a0, some (.int x), a2, a3, a4] st σ Q = Ev sh 21 16 [a0, some (.int x), a2, a3, a4] (.int x :: st) σ Q := Ev_step rfl
theorem s_Foresight_quarrelsByLot_16 : Ev sh 21 16 [a0, a1, a2, a3, a4] (.int y :: .int x :: st) σ Q = if y ≤ x then Ev sh 21 47 [a0, a1, a2, a3, a4] st σ Q else Ev sh 21 19 [a0, a1, a2, a3, a4] st σ Q := Ev_if rfl
theorem s_Foresight_quarrelsByLot_19 : Ev sh 21 19 [some (.ref i), a1, a2, a3, a4] st σ Q = Ev sh 21 20 [some (.ref i), a1, a2, a3, a4] (.ref i :: st) σ Q := Ev_step rfl
theorem s_Foresight_quarrelsByLot_20 (h : sh i0 = 2) : Ev sh 21 20 [a0, a1, a2, a3, a4] [.ref i0] σ Q = Ev sh 22 0 [some (.ref i0)] [] σ (fun r s => Ev sh 21 23 [a0, a1, a2, a3, a4] (zpush r []) s Q) := Ev_callh (zrecv_of (by decide) h) rfl
theorem s_Foresight_quarrelsByLot_23 : Ev sh 21 23 [a0, a1, a2, some (.int x), a4] st σ Q = Ev sh 21 24 [a0, a1, a2, some (.int x), a4] (.int x :: st) σ Q := Ev_step rfl
theorem s_Foresight_quarrelsByLot_24 : Ev sh 21 24 [some (.ref i), a1, a2, a3, a4] st σ Q = Ev sh 21 25 [some (.ref i), a1, a2, a3, a4] (.ref i :: st) σ Q := Ev_step rfl
theorem s_Foresight_quarrelsByLot_25 (h : sh i = 2) : Ev sh 21 25 [a0, a1, a2, a3, a4] (.ref i :: st) σ Q = Ev sh 21 28 [a0, a1, a2, a3, a4] (.ref 27 :: st) σ Q := Ev_h h rfl
theorem s_Foresight_quarrelsByLot_28 (h : sh i = 0) : Ev sh 21 28 [a0, a1, a2, a3, a4] (.ref i :: st) σ Q = Ev sh 21 31 [a0, a1, a2, a3, a4] (.int (σ i 3) :: st) σ Q := Ev_h h rfl
theorem s_Foresight_quarrelsByLot_31 : Ev sh 21 31 [some (.ref i), a1, a2, a3, a4] st σ Q = Ev sh 21 32 [some (.ref i), a1, a2, a3, a4] (.ref i :: st) σ Q := Ev_step rfl
theorem s_Foresight_quarrelsByLot_32 (h : sh i = 2) : Ev sh 21 32 [a0, a1, a2, a3, a4] (.ref i :: st) σ Q = Ev sh 21 35 [a0, a1, a2, a3, a4] (.ref 1 :: st) σ Q := Ev_h h rfl
theorem s_Foresight_quarrelsByLot_35 (h : sh i = 0) : Ev sh 21 35 [a0, a1, a2, a3, a4] (.ref i :: st) σ Q = Ev sh 21 38 [a0, a1, a2, a3, a4] (.int (σ i 3) :: st) σ Q := Ev_h h rfl
theorem s_Foresight_quarrelsByLot_38 : Ev sh 21 38 [a0, a1, a2, a3, a4] (.int y :: .int x :: st) σ Q = Ev sh 21 39 [a0, a1, a2, a3, a4] (.int (x - y) :: st) σ Q := Ev_step rfl
theorem s_Foresight_quarrelsByLot_39 : Ev sh 21 39 [a0, a1, a2, a3, a4] (.int y :: .int x :: st) σ Q = Ev sh 21 40 [a0, a1, a2, a3, a4] (.int (x + y) :: st) σ Q := Ev_step rfl
theorem s_Foresight_quarrelsByLot_40 : Ev sh 21 40 [a0, a1, a2, a3, a4] (.int x :: st) σ Q = Ev sh 21 41 [a0, a1, zdrop2 a2, some (.int x), a4] st σ Q := Ev_step rfl
theorem s_Foresight_quarrelsByLot_41 : Ev sh 21 41 [a0, a1, a2, a3, some (.int x)] st σ Q = Ev sh 21 44 [a0, a1, a2, a3, some (.int (x + 1))] st σ Q := Ev_step rfl
theorem s_Foresight_quarrelsByLot_44 : Ev sh 21 44 [a0, a1, a2, a3, a4] st σ Q = Ev sh 21 13 [a0, a1, a2, a3, a4] st σ Q := Ev_step rfl
theorem s_Foresight_quarrelsByLot_47 : Ev sh 21 47 [a0, a1, a2, some (.int x), a4] st σ Q = Ev sh 21 48 [a0, a1, a2, some (.int x), a4] (.int x :: st) σ Q := Ev_step rfl
theorem s_Foresight_quarrelsByLot_48 : Ev sh 21 48 [a0, a1, a2, a3, a4] [.int x] σ Q = Q (some (.int x)) σ := Ev_ret rfl
theorem s_Foresight_seeOneByLot_0 : Ev sh 22 0 [some (.ref i)] st σ Q = Ev sh 22 1 [some (.ref i)] (.ref i :: st) σ Q := Ev_step rfl
theorem s_Foresight_seeOneByLot_1 (h : sh i = 2) : Ev sh 22 1 [a0] (.ref i :: st) σ Q = Ev sh 22 4 [a0] (.ref 27 :: st) σ Q := Ev_h h rfl
theorem s_Foresight_seeOneByLot_4 : Ev sh 22 4 [some (.ref i)] st σ Q = Ev sh 22 5 [some (.ref i)] (.ref i :: st) σ Q := Ev_step rfl
theorem s_Foresight_seeOneByLot_5 (h : sh i = 2) : Ev sh 22 5 [a0] (.ref i :: st) σ Q = Ev sh 22 8 [a0] (.ref 1 :: st) σ Q := Ev_h h rfl
theorem s_Foresight_seeOneByLot_8 (h : sh i0 = 0) : Ev sh 22 8 [a0] [.ref i1, .ref i0] σ Q = Ev sh 0 0 [some (.ref i0), some (.ref i1)] [] σ (fun r s => Ev sh 22 11 [a0] (zpush r []) s Q) := Ev_callh (zrecv_of (by decide) h) rfl
theorem s_Foresight_seeOneByLot_11 : Ev sh 22 11 [some (.ref i)] st σ Q = Ev sh 22 12 [some (.ref i)] (.ref i :: st) σ Q := Ev_step rfl
theorem s_Foresight_seeOneByLot_12 (h : sh i = 2) : Ev sh 22 12 [a0] (.ref i :: st) σ Q = Ev sh 22 15 [a0] (.ref 27 :: st) σ Q := Ev_h h rfl
theorem s_Foresight_seeOneByLot_15 (h : sh i = 0) : Ev sh 22 15 [a0] (.ref i :: st) σ Q = Ev sh 22 18 [a0] (.ref (i + 1) :: st) σ Q := Ev_h h rfl
theorem s_Foresight_seeOneByLot_18 : Ev sh 22 18 [some (.ref i)] st σ Q = Ev sh 22 19 [some (.ref i)] (.ref i :: st) σ Q := Ev_step rfl
theorem s_Foresight_seeOneByLot_19 (h : sh i = 2) : Ev sh 22 19 [a0] (.ref i :: st) σ Q = Ev sh 22 22 [a0] (.ref 27 :: st) σ Q := Ev_h h rfl
theorem s_Foresight_seeOneByLot_22 (h : sh i = 0) : Ev sh 22 22 [a0] (.ref i :: st) σ Q = Ev sh 22 25 [a0] (.ref (i + 1) :: st) σ Q := Ev_h h rfl
theorem s_Foresight_seeOneByLot_25 (h : sh i1 = 7) : Ev sh 22 25 [a0] [.ref i1, .ref i0] σ Q = Ev sh 70 0 [some (.ref i1)] [] σ (fun r s => Ev sh 22 28 [a0] (zpush r [.ref i0]) s Q) := Ev_callh (zrecv_of (by decide) h) rfl
theorem s_Foresight_seeOneByLot_28 (h : sh i0 = 7) : Ev sh 22 28 [a0] [.int x1, .ref i0] σ Q = Ev sh 67 0 [some (.ref i0), some (.int x1)] [] σ (fun r s => Ev sh 22 31 [a0] (zpush r []) s Q) := Ev_callh (zrecv_of (by decide) h) rfl
theorem s_Foresight_seeOneByLot_31 : Ev sh 22 31 [some (.ref i)] st σ Q = Ev sh 22 32 [some (.ref i)] (.ref i :: st) σ Q := Ev_step rfl
theorem s_Foresight_seeOneByLot_32 : Ev sh 22 32 [some (.ref i)] st σ Q = Ev sh 22 33 [some (.ref i)] (.ref i :: st) σ Q := Ev_step rfl
theorem s_Foresight_seeOneByLot_33 (h : sh i = 2) : Ev sh 22 33 [a0] (.ref i :: st) σ Q = Ev sh 22 36 [a0] (.ref 27 :: st) σ Q := Ev_h h rfl
theorem s_Foresight_seeOneByLot_36 (h : sh i = 0) : Ev sh 22 36 [a0] (.ref i :: st) σ Q = Ev sh 22 39 [a0] (.ref (i + 5) :: st) σ Q := Ev_h h rfl
theorem s_Foresight_seeOneByLot_39 (h : sh i0 = 2) : Ev sh 22 39 [a0] [.ref i1, .ref i0] σ Q = Ev sh 23 0 [some (.ref i0), some (.ref i1)] [] σ (fun r s => Ev sh 22 42 [a0] (zpush r []) s Q) := Ev_callh (zrecv_of (by decide) h) rfl
theorem s_Foresight_seeOneByLot_42 : Ev sh 22 42 [some (.ref i)] st σ Q = Ev sh 22 43 [some (.ref i)] (.ref i :: st) σ Q := Ev_step rfl
theorem s_Foresight_seeOneByLot_43 : Ev sh 22 43 [some (.ref i)] st σ Q = Ev sh 22 44 [some (.ref i)] (.ref i :: st) σ Q := Ev_step rfl
theorem s_Foresight_seeOneByLot_44 (h : sh i = 2) : Ev sh 22 44 [a0] (.ref i :: st) σ Q = Ev sh 22 47 [a0] (.ref 27 :: st) σ Q := Ev_h h rfl
theorem s_Foresight_seeOneByLot_47 (h : sh i = 0) : Ev sh 22 47 [a0] (.ref i :: st) σ Q = Ev sh 22 50 [a0] (.ref (i + 6) :: st) σ Q := Ev_h h rfl
theorem s_Foresight_seeOneByLot_50 (h : sh i0 = 2) : Ev sh 22 50 [a0] [.ref i1, .ref i0] σ Q = Ev sh 23 0 [some (.ref i0), some (.ref i1)] [] σ (fun r s => Ev sh 22 53 [a0] (zpush r []) s Q) := Ev_callh (zrecv_of (by decide) h) rfl
theorem s_Foresight_seeOneByLot_53 : Ev sh 22 53 [some (.ref i)] st σ Q = Ev sh 22 54 [some (.ref i)] (.ref i :: st) σ Q := Ev_step rfl
theorem s_Foresight_seeOneByLot_54 (h : sh i = 2) : Ev sh 22 54 [a0] (.ref i :: st) σ Q = Ev sh 22 57 [a0] (.ref 27 :: st) σ Q := Ev_h h rfl
theorem s_Foresight_seeOneByLot_57 : Ev sh 22 57 [a0] st σ Q = Ev sh 22 59 [a0] (.int 9 :: st) σ Q := Ev_step rfl
theorem s_Foresight_seeOneByLot_59 (h : sh i0 = 0) : Ev sh 22 59 [a0] [.int x1, .ref i0] σ Q = Ev sh 3 0 [some (.ref i0), some (.int x1), none] [] σ (fun r s => Ev sh 22 62 [a0] (zpush r []) s Q) := Ev_callh (zrecv_of (by decide) h) rfl
theorem s_Foresight_seeOneByLot_62 : Ev sh 22 62 [a0] [] σ Q = Q none σ := Ev_ret rfl
theorem s_Foresight_drawMason_0 : Ev sh 23 0 [a0, some (.ref i)] st σ Q = Ev sh 23 1 [a0, some (.ref i)] (.ref i :: st) σ Q := Ev_step rfl
theorem s_Foresight_drawMason_1 : Ev sh 23 1 [some (.ref i), a1] st σ Q = Ev sh 23 2 [some (.ref i), a1] (.ref i :: st) σ Q := Ev_step rfl
theorem s_Foresight_drawMason_2 (h : sh i = 2) : Ev sh 23 2 [a0, a1] (.ref i :: st) σ Q = Ev sh 23 5 [a0, a1] (.ref 35 :: st) σ Q := Ev_h h rfl
theorem s_Foresight_drawMason_5 : Ev sh 23 5 [a0, a1] st σ Q = Ev sh 23 7 [a0, a1] (.int 6 :: st) σ Q := Ev_step rfl
theorem s_Foresight_drawMason_7 (h : sh i1 = 1) : Ev sh 23 7 [a0, a1] [.int x2, .ref i1, .ref i0] σ Q = Ev sh 7 0 [some (.ref i1), some (.int x2)] [] σ (fun r s => Ev sh 23 10 [a0, a1] (zpush r [.ref i0]) s Q) := Ev_callh (zrecv_of (by decide) h) rfl
theorem s_Foresight_drawMason_10 (h : sh i = 4) : Ev sh 23 10 [a0, a1] (.int x :: .ref i :: st) σ Q = Ev sh 23 13 [a0, a1] st (zup σ i 0 x) Q := Ev_h h rfl
theorem s_Foresight_drawMason_13 : Ev sh 23 13 [a0, some (.ref i)] st σ Q = Ev sh 23 14 [a0, some (.ref i)] (.ref i :: st) σ Q := Ev_step rfl
theorem s_Foresight_drawMason_14 : Ev sh 23 14 [some (.ref i), a1] st σ Q = Ev sh 23 15 [some (.ref i), a1] (.ref i :: st) σ Q := Ev_step rfl
theorem s_Foresight_drawMason_15 (h : sh i = 2) : Ev sh 23 15 [a0, a1] (.ref i :: st) σ Q = Ev sh 23 18 [a0, a1] (.ref 35 :: st) σ Q := Ev_h h rfl
theorem s_Foresight_drawMason_18 : Ev sh 23 18 [a0, a1] st σ Q = Ev sh 23 20 [a0, a1] (.int 10 :: st) σ Q := Ev_step rfl
theorem s_Foresight_drawMason_20 (h : sh i1 = 1) : Ev sh 23 20 [a0, a1] [.int x2, .ref i1, .ref i0] σ Q = Ev sh 7 0 [some (.ref i1), some (.int x2)] [] σ (fun r s => Ev sh 23 23 [a0, a1] (zpush r [.ref i0]) s Q) := Ev_callh (zrecv_of (by decide) h) rfl
theorem s_Foresight_drawMason_23 (h : sh i = 4) : Ev sh 23 23 [a0, a1] (.int x :: .ref i :: st) σ Q = Ev sh 23 26 [a0, a1] st (zup σ i 1 x) Q := Ev_h h rfl
theorem s_Foresight_drawMason_26 : Ev sh 23 26 [a0, a1] [] σ Q = Q none σ := Ev_ret rfl
theorem s_Letters_number_0 : Ev sh 24 0 [some (.ref i)] st σ Q = Ev sh 24 1 [some (.ref i)] (.ref i :: st) σ Q := Ev_step rfl
theorem s_Letters_number_1 (h : sh i = 3) : Ev sh 24 1 [a0] (.ref i :: st) σ Q = Ev sh 24 4 [a0] (.int (σ i 1) :: st) σ Q := Ev_h h rfl
theorem s_Letters_number_4 : Ev sh 24 4 [a0] [.int x] σ Q = Q (some (.int x)) σ := Ev_ret rfl
theorem s_Letters_isFull_0 : Ev sh 25 0 [some (.ref i)] st σ Q = Ev sh 25 1 [some (.ref i)] (.ref i :: st) σ Q := Ev_step rfl
theorem s_Letters_isFull_1 (h : sh i = 3) : Ev sh 25 1 [a0] (.ref i :: st) σ Q = Ev sh 25 4 [a0] (.int (σ i 1) :: st) σ Q := Ev_h h rfl
theorem s_Letters_isFull_4 : Ev sh 25 4 [a0] st σ Q = Ev sh 25 6 [a0] (.int 96 :: st) σ Q := Ev_step rfl
theorem s_Letters_isFull_6 : Ev sh 25 6 [a0] (.int y :: .int x :: st) σ Q = if x < y then Ev sh 25 13 [a0] st σ Q else Ev sh 25 9 [a0] st σ Q := Ev_if rfl
theorem s_Letters_isFull_9 : Ev sh 25 9 [a0] st σ Q = Ev sh 25 10 [a0] (.int 1 :: st) σ Q := Ev_step rfl
theorem s_Letters_isFull_10 : Ev sh 25 10 [a0] st σ Q = Ev sh 25 14 [a0] st σ Q := Ev_step rfl
theorem s_Letters_isFull_13 : Ev sh 25 13 [a0] st σ Q = Ev sh 25 14 [a0] (.int 0 :: st) σ Q := Ev_step rfl
theorem s_Letters_isFull_14 (h : x = 0 ∨ x = 1) : Ev sh 25 14 [a0] [.int x] σ Q = Q (some (.int x)) σ := Ev_rh h rfl
theorem s_Letters_add_0 : Ev sh 26 0 [some (.ref i), a1] st σ Q = Ev sh 26 1 [some (.ref i), a1] (.ref i :: st) σ Q := Ev_step rfl
theorem s_Letters_add_1 (h : sh i = 3) : Ev sh 26 1 [a0, a1] (.ref i :: st) σ Q = Ev sh 26 4 [a0, a1] (.int (σ i 1) :: st) σ Q := Ev_h h rfl
theorem s_Letters_add_4 : Ev sh 26 4 [a0, a1] (.int x :: st) σ Q = if x < 0 then Ev sh 26 36 [a0, a1] st σ Q else Ev sh 26 7 [a0, a1] st σ Q := Ev_if rfl
theorem s_Letters_add_7 : Ev sh 26 7 [some (.ref i), a1] st σ Q = Ev sh 26 8 [some (.ref i), a1] (.ref i :: st) σ Q := Ev_step rfl
theorem s_Letters_add_8 (h : sh i = 3) : Ev sh 26 8 [a0, a1] (.ref i :: st) σ Q = Ev sh 26 11 [a0, a1] (.int (σ i 1) :: st) σ Q := Ev_h h rfl
theorem s_Letters_add_11 : Ev sh 26 11 [a0, a1] st σ Q = Ev sh 26 13 [a0, a1] (.int 96 :: st) σ Q := Ev_step rfl
theorem s_Letters_add_13 : Ev sh 26 13 [a0, a1] (.int y :: .int x :: st) σ Q = if y ≤ x then Ev sh 26 36 [a0, a1] st σ Q else Ev sh 26 16 [a0, a1] st σ Q := Ev_if rfl
theorem s_Letters_add_16 : Ev sh 26 16 [some (.ref i), a1] st σ Q = Ev sh 26 17 [some (.ref i), a1] (.ref i :: st) σ Q := Ev_step rfl
theorem s_Letters_add_17 (h : sh i = 3) : Ev sh 26 17 [a0, a1] (.ref i :: st) σ Q = Ev sh 26 20 [a0, a1] (.ref 23 :: st) σ Q := Ev_h h rfl
theorem s_Letters_add_20 : Ev sh 26 20 [some (.ref i), a1] st σ Q = Ev sh 26 21 [some (.ref i), a1] (.ref i :: st) σ Q := Ev_step rfl
theorem s_Letters_add_21 (h : sh i = 3) : Ev sh 26 21 [a0, a1] (.ref i :: st) σ Q = Ev sh 26 24 [a0, a1] (.int (σ i 1) :: st) σ Q := Ev_h h rfl
theorem s_Letters_add_24 : Ev sh 26 24 [a0, some (.int x)] st σ Q = Ev sh 26 25 [a0, some (.int x)] (.int x :: st) σ Q := Ev_step rfl
theorem s_Letters_add_25 (h : zin x (sh i) = true) : Ev sh 26 25 [a0, a1] (.int y :: .int x :: .ref i :: st) σ Q = Ev sh 26 26 [a0, a1] st (zup σ i x.toNatClampNeg y) Q := Ev_h h rfl
theorem s_Letters_add_26 : Ev sh 26 26 [some (.ref i), a1] st σ Q = Ev sh 26 27 [some (.ref i), a1] (.ref i :: st) σ Q := Ev_step rfl
theorem s_Letters_add_27 : Ev sh 26 27 [a0, a1] (.ref i :: st) σ Q = Ev sh 26 28 [a0, a1] (.ref i :: .ref i :: st) σ Q := Ev_step rfl
theorem s_Letters_add_28 (h : sh i = 3) : Ev sh 26 28 [a0, a1] (.ref i :: st) σ Q = Ev sh 26 31 [a0, a1] (.int (σ i 1) :: st) σ Q := Ev_h h rfl
theorem s_Letters_add_31 : Ev sh 26 31 [a0, a1] st σ Q = Ev sh 26 32 [a0, a1] (.int 1 :: st) σ Q := Ev_step rfl
theorem s_Letters_add_32 : Ev sh 26 32 [a0, a1] (.int y :: .int x :: st) σ Q = Ev sh 26 33 [a0, a1] (.int (x + y) :: st) σ Q := Ev_step rfl
theorem s_Letters_add_33 (h : sh i = 3) : Ev sh 26 33 [a0, a1] (.int x :: .ref i :: st) σ Q = Ev sh 26 36 [a0, a1] st (zup σ i 1 x) Q := Ev_h h rfl
theorem s_Letters_add_36 : Ev sh 26 36 [a0, a1] [] σ Q = Q none σ := Ev_ret rfl
theorem s_Letters_forget_0 : Ev sh 27 0 [some (.ref i)] st σ Q = Ev sh 27 1 [some (.ref i)] (.ref i :: st) σ Q := Ev_step rfl
theorem s_Letters_forget_1 : Ev sh 27 1 [a0] st σ Q = Ev sh 27 2 [a0] (.int 0 :: st) σ Q := Ev_step rfl
theorem s_Letters_forget_2 (h : sh i = 3) : Ev sh 27 2 [a0] (.int x :: .ref i :: st) σ Q = Ev sh 27 5 [a0] st (zup σ i 1 x) Q := Ev_h h rfl
theorem s_Letters_forget_5 : Ev sh 27 5 [a0] [] σ Q = Q none σ := Ev_ret rfl
theorem s_Letters_firstStray_0 : Ev sh 28 0 [some (.ref i), a1, a2] st σ Q = Ev sh 28 1 [some (.ref i), a1, a2] (.ref i :: st) σ Q := Ev_step rfl
theorem s_Letters_firstStray_1 (h : sh i = 3) : Ev sh 28 1 [a0, a1, a2] (.ref i :: st) σ Q = Ev sh 28 4 [a0, a1, a2] (.int (σ i 1) :: st) σ Q := Ev_h h rfl
theorem s_Letters_firstStray_4 : Ev sh 28 4 [a0, a1, a2] (.int x :: st) σ Q = if x ≠ 0 then Ev sh 28 9 [a0, a1, a2] st σ Q else Ev sh 28 7 [a0, a1, a2] st σ Q := Ev_if rfl
theorem s_Letters_firstStray_7 : Ev sh 28 7 [a0, a1, a2] st σ Q = Ev sh 28 8 [a0, a1, a2] (.int 0 :: st) σ Q := Ev_step rfl
theorem s_Letters_firstStray_8 : Ev sh 28 8 [a0, a1, a2] [.int x] σ Q = Q (some (.int x)) σ := Ev_ret rfl
theorem s_Letters_firstStray_9 : Ev sh 28 9 [a0, a1, a2] st σ Q = Ev sh 28 10 [a0, a1, a2] (.int 0 :: st) σ Q := Ev_step rfl
theorem s_Letters_firstStray_10 : Ev sh 28 10 [a0, a1, a2] (.int x :: st) σ Q = Ev sh 28 11 [zdrop2 a0, some (.int x), a2] st σ Q := Ev_step rfl
theorem s_Letters_firstStray_11 : Ev sh 28 11 [a0, some (.int x), a2] st σ Q = Ev sh 28 12 [a0, some (.int x), a2] (.int x :: st) σ Q := Ev_step rfl
theorem s_Letters_firstStray_12 : Ev sh 28 12 [some (.ref i), a1, a2] st σ Q = Ev sh 28 13 [some (.ref i), a1, a2] (.ref i :: st) σ Q := Ev_step rfl
theorem s_Letters_firstStray_13 (h : sh i = 3) : Ev sh 28 13 [a0, a1, a2] (.ref i :: st) σ Q = Ev sh 28 16 [a0, a1, a2] (.int (σ i 1) :: st) σ Q := Ev_h h rfl
theorem s_Letters_firstStray_16 : Ev sh 28 16 [a0, a1, a2] (.int y :: .int x :: st) σ Q = if y ≤ x then Ev sh 28 46 [a0, a1, a2] st σ Q else Ev sh 28 19 [a0, a1, a2] st σ Q := Ev_if rfl
theorem s_Letters_firstStray_19 : Ev sh 28 19 [some (.ref i), a1, a2] st σ Q = Ev sh 28 20 [some (.ref i), a1, a2] (.ref i :: st) σ Q := Ev_step rfl
theorem s_Letters_firstStray_20 : Ev sh 28 20 [a0, some (.int x), a2] st σ Q = Ev sh 28 21 [a0, some (.int x), a2] (.int x :: st) σ Q := Ev_step rfl
theorem s_Letters_firstStray_21 (h : sh i0 = 3) : Ev sh 28 21 [a0, a1, a2] [.int x1, .ref i0] σ Q = Ev sh 36 0 [some (.ref i0), some (.int x1), none, none, none] [] σ (fun r s => Ev sh 28 24 [a0, a1, a2] (zpush r []) s Q) := Ev_callh (zrecv_of (by decide) h) rfl
theorem s_Letters_firstStray_24 : Ev sh 28 24 [a0, a1, a2] (.int x :: st) σ Q = Ev sh 28 25 [a0, zdrop2 a1, some (.int x)] st σ Q := Ev_step rfl
theorem s_Letters_firstStray_25 : Ev sh 28 25 [a0, a1, some (.int x)] st σ Q = Ev sh 28 26 [a0, a1, some (.int x)] (.int x :: st) σ Q := Ev_step rfl
theorem s_Letters_firstStray_26 : Ev sh 28 26 [a0, a1, a2] st σ Q = Ev sh 28 28 [a0, a1, a2] (.int (-9) :: st) σ Q := Ev_step rfl
theorem s_Letters_firstStray_28 : Ev sh 28 28 [a0, a1, a2] (.int y :: .int x :: st) σ Q = if x = y then Ev sh 28 33 [a0, a1, a2] st σ Q else Ev sh 28 31 [a0, a1, a2] st σ Q := Ev_if rfl
theorem s_Letters_firstStray_31 : Ev sh 28 31 [a0, a1, some (.int x)] st σ Q = Ev sh 28 32 [a0, a1, some (.int x)] (.int x :: st) σ Q := Ev_step rfl
theorem s_Letters_firstStray_32 : Ev sh 28 32 [a0, a1, a2] [.int x] σ Q = Q (some (.int x)) σ := Ev_ret rfl
theorem s_Letters_firstStray_33 : Ev sh 28 33 [a0, some (.int x), a2] st σ Q = Ev sh 28 34 [a0, some (.int x), a2] (.int x :: st) σ Q := Ev_step rfl
theorem s_Letters_firstStray_34 : Ev sh 28 34 [a0, a1, a2] st σ Q = Ev sh 28 35 [a0, a1, a2] (.int 1 :: st) σ Q := Ev_step rfl
theorem s_Letters_firstStray_35 : Ev sh 28 35 [some (.ref i), a1, a2] st σ Q = Ev sh 28 36 [some (.ref i), a1, a2] (.ref i :: st) σ Q := Ev_step rfl
theorem s_Letters_firstStray_36 : Ev sh 28 36 [a0, some (.int x), a2] st σ Q = Ev sh 28 37 [a0, some (.int x), a2] (.int x :: st) σ Q := Ev_step rfl
theorem s_Letters_firstStray_37 (h : sh i2 = 3) : Ev sh 28 37 [a0, a1, a2] [.int x3, .ref i2, .int x1, .int x0] σ Q = Ev sh 34 0 [some (.ref i2), some (.int x3)] [] σ (fun r s => Ev sh 28 40 [a0, a1, a2] (zpush r [.int x1, .int x0]) s Q) := Ev_callh (zrecv_of (by decide) h) rfl
theorem s_Letters_firstStray_40 : Ev sh 28 40 [a0, a1, a2] (.int y :: .int x :: st) σ Q = Ev sh 28 41 [a0, a1, a2] (.int (x + y) :: st) σ Q := Ev_step rfl
theorem s_Letters_firstStray_41 : Ev sh 28 41 [a0, a1, a2] (.int y :: .int x :: st) σ Q = Ev sh 28 42 [a0, a1, a2] (.int (x + y) :: st) σ Q := Ev_step rfl
theorem s_Letters_firstStray_42 : Ev sh 28 42 [a0, a1, a2] (.int x :: st) σ Q = Ev sh 28 43 [zdrop2 a0, some (.int x), a2] st σ Q := Ev_step rfl
theorem s_Letters_firstStray_43 : Ev sh 28 43 [a0, a1, a2] st σ Q = Ev sh 28 11 [a0, a1, a2] st σ Q := Ev_step rfl
theorem s_Letters_firstStray_46 : Ev sh 28 46 [a0, a1, a2] st σ Q = Ev sh 28 48 [a0, a1, a2] (.int (-9) :: st) σ Q := Ev_step rfl
theorem s_Letters_firstStray_48 : Ev sh 28 48 [a0, a1, a2] [.int x] σ Q = Q (some (.int x)) σ := Ev_ret rfl
theorem s_Letters_firstWrong_0 : Ev sh 29 0 [a0, a1, a2] st σ Q = Ev sh 29 1 [a0, a1, a2] (.int 0 :: st) σ Q := Ev_step rfl
theorem s_Letters_firstWrong_1 : Ev sh 29 1 [a0, a1, a2] (.int x :: st) σ Q = Ev sh 29 2 [a0, zdrop2 a1, some (.int x)] st σ Q := Ev_step rfl
theorem s_Letters_firstWrong_2 : Ev sh 29 2 [a0, a1, some (.int x)] st σ Q = Ev sh 29 3 [a0, a1, some (.int x)] (.int x :: st) σ Q := Ev_step rfl
theorem s_Letters_firstWrong_3 : Ev sh 29 3 [some (.ref i), a1, a2] st σ Q = Ev sh 29 4 [some (.ref i), a1, a2] (.ref i :: st) σ Q := Ev_step rfl
theorem s_Letters_firstWrong_4 (h : sh i = 3) : Ev sh 29 4 [a0, a1, a2] (.ref i :: st) σ Q = Ev sh 29 7 [a0, a1, a2] (.int (σ i 1) :: st) σ Q := Ev_h h rfl
theorem s_Letters_firstWrong_7 : Ev sh 29 7 [a0, a1, a2] (.int y :: .int x :: st) σ Q = if y ≤ x then Ev sh 29 34 [a0, a1, a2] st σ Q else Ev sh 29 10 [a0, a1, a2] st σ Q := Ev_if rfl
theorem s_Letters_firstWrong_10 : Ev sh 29 10 [some (.ref i), a1, a2] st σ Q = Ev sh 29 11 [some (.ref i), a1, a2] (.ref i :: st) σ Q := Ev_step rfl
theorem s_Letters_firstWrong_11 : Ev sh 29 11 [a0, a1, some (.int x)] st σ Q = Ev sh 29 12 [a0, a1, some (.int x)] (.int x :: st) σ Q := Ev_step rfl
theorem s_Letters_firstWrong_12 : Ev sh 29 12 [a0, some (.ref i), a2] st σ Q = Ev sh 29 13 [a0, some (.ref i), a2] (.ref i :: st) σ Q := Ev_step rfl
theorem s_Letters_firstWrong_13 (h : sh i0 = 3) : Ev sh 29 13 [a0, a1, a2] [.ref i2, .int x1, .ref i0] σ Q = Ev sh 38 0 [some (.ref i0), some (.int x1), some (.ref i2)] [] σ (fun r s => Ev sh 29 16 [a0, a1, a2] (zpush r []) s Q) := Ev_callh (zrecv_of (by decide) h) rfl
theorem s_Letters_firstWrong_16 : Ev sh 29 16 [a0, a1, a2] (.int x :: st) σ Q = if x ≠ 0 then Ev sh 29 21 [a0, a1, a2] st σ Q else Ev sh 29 19 [a0, a1, a2] st σ Q := Ev_if rfl
theorem s_Letters_firstWrong_19 : Ev sh 29 19 [a0, a1, some (.int x)] st σ Q = Ev sh 29 20 [a0, a1, some (.int x)] (.int x :: st) σ Q := Ev_step rfl
theorem s_Letters_firstWrong_20 : Ev sh 29 20 [a0, a1, a2] [.int x] σ Q = Q (some (.int x)) σ := Ev_ret rfl
theorem s_Letters_firstWrong_21 : Ev sh 29 21 [a0, a1, some (.int x)] st σ Q = Ev sh 29 22 [a0, a1, some (.int x)] (.int x :: st) σ Q := Ev_step rfl
theorem s_Letters_firstWrong_22 : Ev sh 29 22 [a0, a1, a2] st σ Q = Ev sh 29 23 [a0, a1, a2] (.int 1 :: st) σ Q := Ev_step rfl
theorem s_Letters_firstWrong_23 : Ev sh 29 23 [some (.ref i), a1, a2] st σ Q = Ev sh 29 24 [some (.ref i), a1, a2] (.ref i :: st) σ Q := Ev_step rfl
theorem s_Letters_firstWrong_24 : Ev sh 29 24 [a0, a1, some (.int x)] st σ Q = Ev sh 29 25 [a0, a1, some (.int x)] (.int x :: st) σ Q := Ev_step rfl
theorem s_Letters_firstWrong_25 (h : sh i2 = 3) : Ev sh 29 25 [a0, a1, a2] [.int x3, .ref i2, .int x1, .int x0] σ Q = Ev sh 34 0 [some (.ref i2), some (.int x3)] [] σ (fun r s => Ev sh 29 28 [a0, a1, a2] (zpush r [.int x1, .int x0]) s Q) := Ev_callh (zrecv_of (by decide) h) rfl
theorem s_Letters_firstWrong_28 : Ev sh 29 28 [a0, a1, a2] (.int y :: .int x :: st) σ Q = Ev sh 29 29 [a0, a1, a2] (.int (x + y) :: st) σ Q := Ev_step rfl
theorem s_Letters_firstWrong_29 : Ev sh 29 29 [a0, a1, a2] (.int y :: .int x :: st) σ Q = Ev sh 29 30 [a0, a1, a2] (.int (x + y) :: st) σ Q := Ev_step rfl
theorem s_Letters_firstWrong_30 : Ev sh 29 30 [a0, a1, a2] (.int x :: st) σ Q = Ev sh 29 31 [a0, zdrop2 a1, some (.int x)] st σ Q := Ev_step rfl
theorem s_Letters_firstWrong_31 : Ev sh 29 31 [a0, a1, a2] st σ Q = Ev sh 29 2 [a0, a1, a2] st σ Q := Ev_step rfl
theorem s_Letters_firstWrong_34 : Ev sh 29 34 [a0, a1, a2] st σ Q = Ev sh 29 36 [a0, a1, a2] (.int (-9) :: st) σ Q := Ev_step rfl
theorem s_Letters_firstWrong_36 : Ev sh 29 36 [a0, a1, a2] [.int x] σ Q = Q (some (.int x)) σ := Ev_ret rfl
theorem s_Letters_statements_0 : Ev sh 30 0 [a0, a1, a2] st σ Q = Ev sh 30 1 [a0, a1, a2] (.int 0 :: st) σ Q := Ev_step rfl
theorem s_Letters_statements_1 : Ev sh 30 1 [a0, a1, a2] (.int x :: st) σ Q = Ev sh 30 2 [zdrop2 a0, some (.int x), a2] st σ Q := Ev_step rfl
theorem s_Letters_statements_2 : Ev sh 30 2 [a0, a1, a2] st σ Q = Ev sh 30 3 [a0, a1, a2] (.int 0 :: st) σ Q := Ev_step rfl
theorem s_Letters_statements_3 : Ev sh 30 3 [a0, a1, a2] (.int x :: st) σ Q = Ev sh 30 4 [a0, zdrop2 a1, some (.int x)] st σ Q := Ev_step rfl
theorem s_Letters_statements_4 : Ev sh 30 4 [a0, a1, some (.int x)] st σ Q = Ev sh 30 5 [a0, a1, some (.int x)] (.int x :: st) σ Q := Ev_step rfl
theorem s_Letters_statements_5 : Ev sh 30 5 [some (.ref i), a1, a2] st σ Q = Ev sh 30 6 [some (.ref i), a1, a2] (.ref i :: st) σ Q := Ev_step rfl
theorem s_Letters_statements_6 (h : sh i = 3) : Ev sh 30 6 [a0, a1, a2] (.ref i :: st) σ Q = Ev sh 30 9 [a0, a1, a2] (.int (σ i 1) :: st) σ Q := Ev_h h rfl
theorem s_Letters_statements_9 : Ev sh 30 9 [a0, a1, a2] (.int y :: .int x :: st) σ Q = if y ≤ x then Ev sh 30 28 [a0, a1, a2] st σ Q else Ev sh 30 12 [a0, a1, a2] st σ Q := Ev_if rfl
theorem s_Letters_statements_12 : Ev sh 30 12 [a0, some (.int x), a2] st σ Q = Ev sh 30 15 [a0, some (.int (x + 1)), a2] st σ Q := Ev_step rfl
theorem s_Letters_statements_15 : Ev sh 30 15 [a0, a1, some (.int x)] st σ Q = Ev sh 30 16 [a0, a1, some (.int x)] (.int x :: st) σ Q := Ev_step rfl
theorem s_Letters_statements_16 : Ev sh 30 16 [a0, a1, a2] st σ Q = Ev sh 30 17 [a0, a1, a2] (.int 1 :: st) σ Q := Ev_step rfl
theorem s_Letters_statements_17 : Ev sh 30 17 [some (.ref i), a1, a2] st σ Q = Ev sh 30 18 [some (.ref i), a1, a2] (.ref i :: st) σ Q := Ev_step rfl
theorem s_Letters_statements_18 : Ev sh 30 18 [a0, a1, some (.int x)] st σ Q = Ev sh 30 19 [a0, a1, some (.int x)] (.int x :: st) σ Q := Ev_step rfl
theorem s_Letters_statements_19 (h : sh i2 = 3) : Ev sh 30 19 [a0, a1, a2] [.int x3, .ref i2, .int x1, .int x0] σ Q = Ev sh 34 0 [some (.ref i2), some (.int x3)] [] σ (fun r s => Ev sh 30 22 [a0, a1, a2] (zpush r [.int x1, .int x0]) s Q) := Ev_callh (zrecv_of (by decide) h) rfl
theorem s_Letters_statements_22 : Ev sh 30 22 [a0, a1, a2] (.int y :: .int x :: st) σ Q = Ev sh 30 23 [a0, a1, a2] (.int (x + y) :: st) σ Q := Ev_step rfl
theorem s_Letters_statements_23 : Ev sh 30 23 [a0, a1, a2] (.int y :: .int x :: st) σ Q = Ev sh 30 24 [a0, a1, a2] (.int (x + y) :: st) σ Q := Ev_step rfl
theorem s_Letters_statements_24 : Ev sh 30 24 [a0, a1, a2] (.int x :: st) σ Q = Ev sh 30 25 [a0, zdrop2 a1, some (.int x)] st σ Q := Ev_step rfl
theorem s_Letters_statements_25 : Ev sh 30 25 [a0, a1, a2] st σ Q = Ev sh 30 4 [a0, a1, a2] st σ Q := Ev_step rfl
theorem s_Letters_statements_28 : Ev sh 30 28 [a0, some (.int x), a2] st σ Q = Ev sh 30 29 [a0, some (.int x), a2] (.int x :: st) σ Q := Ev_step rfl
theorem s_Letters_statements_29 : Ev sh 30 29 [a0, a1, a2] [.int x] σ Q = Q (some (.int x)) σ := Ev_ret rfl
theorem s_Letters_letterAt_0 : Ev sh 31 0 [a0, some (.int x)] st σ Q = Ev sh 31 1 [a0, some (.int x)] (.int x :: st) σ Q := Ev_step rfl
theorem s_Letters_letterAt_1 : Ev sh 31 1 [a0, a1] (.int x :: st) σ Q = if x < 0 then Ev sh 31 27 [a0, a1] st σ Q else Ev sh 31 4 [a0, a1] st σ Q := Ev_if rfl
theorem s_Letters_letterAt_4 : Ev sh 31 4 [a0, some (.int x)] st σ Q = Ev sh 31 5 [a0, some (.int x)] (.int x :: st) σ Q := Ev_step rfl
theorem s_Letters_letterAt_5 : Ev sh 31 5 [some (.ref i), a1] st σ Q = Ev sh 31 6 [some (.ref i), a1] (.ref i :: st) σ Q := Ev_step rfl
theorem s_Letters_letterAt_6 (h : sh i = 3) : Ev sh 31 6 [a0, a1] (.ref i :: st) σ Q = Ev sh 31 9 [a0, a1] (.int (σ i 1) :: st) σ Q := Ev_h h rfl
theorem s_Letters_letterAt_9 : Ev sh 31 9 [a0, a1] (.int y :: .int x :: st) σ Q = if y ≤ x then Ev sh 31 27 [a0, a1] st σ Q else Ev sh 31 12 [a0, a1] st σ Q := Ev_if rfl
theorem s_Letters_letterAt_12 : Ev sh 31 12 [a0, some (.int x)] st σ Q = Ev sh 31 13 [a0, some (.int x)] (.int x :: st) σ Q := Ev_step rfl
theorem s_Letters_letterAt_13 : Ev sh 31 13 [a0, a1] st σ Q = Ev sh 31 15 [a0, a1] (.int 96 :: st) σ Q := Ev_step rfl
theorem s_Letters_letterAt_15 : Ev sh 31 15 [a0, a1] (.int y :: .int x :: st) σ Q = if y ≤ x then Ev sh 31 27 [a0, a1] st σ Q else Ev sh 31 18 [a0, a1] st σ Q := Ev_if rfl
theorem s_Letters_letterAt_18 : Ev sh 31 18 [some (.ref i), a1] st σ Q = Ev sh 31 19 [some (.ref i), a1] (.ref i :: st) σ Q := Ev_step rfl
theorem s_Letters_letterAt_19 (h : sh i = 3) : Ev sh 31 19 [a0, a1] (.ref i :: st) σ Q = Ev sh 31 22 [a0, a1] (.ref 23 :: st) σ Q := Ev_h h rfl
theorem s_Letters_letterAt_22 : Ev sh 31 22 [a0, some (.int x)] st σ Q = Ev sh 31 23 [a0, some (.int x)] (.int x :: st) σ Q := Ev_step rfl
theorem s_Letters_letterAt_23 (h : zin x (sh i) = true) : Ev sh 31 23 [a0, a1] (.int x :: .ref i :: st) σ Q = Ev sh 31 24 [a0, a1] (.int (σ i x.toNatClampNeg) :: st) σ Q := Ev_h h rfl
theorem s_Letters_letterAt_24 : Ev sh 31 24 [a0, a1] st σ Q = Ev sh 31 28 [a0, a1] st σ Q := Ev_step rfl
theorem s_Letters_letterAt_27 : Ev sh 31 27 [a0, a1] st σ Q = Ev sh 31 28 [a0, a1] (.int 0 :: st) σ Q := Ev_step rfl
theorem s_Letters_letterAt_28 : Ev sh 31 28 [a0, a1] [.int x] σ Q = Q (some (.int x)) σ := Ev_ret rfl
theorem s_Letters_digitAt_0 : Ev sh 32 0 [some (.ref i), a1] st σ Q = Ev sh 32 1 [some (.ref i), a1] (.ref i :: st) σ Q := Ev_step rfl
theorem s_Letters_digitAt_1 : Ev sh 32 1 [a0, some (.int x)] st σ Q = Ev sh 32 2 [a0, some (.int x)] (.int x :: st) σ Q := Ev_step rfl
theorem s_Letters_digitAt_2 (h : sh i0 = 3) : Ev sh 32 2 [a0, a1] [.int x1, .ref i0] σ Q = Ev sh 31 0 [some (.ref i0), some (.int x1)] [] σ (fun r s => Ev sh 32 5 [a0, a1] (zpush r []) s Q) := Ev_callh (zrecv_of (by decide) h) rfl
theorem s_Letters_digitAt_5 : Ev sh 32 5 [a0, a1] st σ Q = Ev sh 32 7 [a0, a1] (.int 48 :: st) σ Q := Ev_step rfl
theorem s_Letters_digitAt_7 : Ev sh 32 7 [a0, a1] (.int y :: .int x :: st) σ Q = Ev sh 32 8 [a0, a1] (.int (x - y) :: st) σ Q := Ev_step rfl
theorem s_Letters_digitAt_8 : Ev sh 32 8 [a0, a1] [.int x] σ Q = Q (some (.int x)) σ := Ev_ret rfl
theorem s_Letters_kindAt_0 : Ev sh 33 0 [a0, a1] st σ Q = Ev sh 33 2 [a0, a1] (.ref 1006 :: st) σ Q := Ev_step rfl
theorem s_Letters_kindAt_2 : Ev sh 33 2 [some (.ref i), a1] st σ Q = Ev sh 33 3 [some (.ref i), a1] (.ref i :: st) σ Q := Ev_step rfl
theorem s_Letters_kindAt_3 : Ev sh 33 3 [a0, some (.int x)] st σ Q = Ev sh 33 4 [a0, some (.int x)] (.int x :: st) σ Q := Ev_step rfl
theorem s_Letters_kindAt_4 (h : sh i1 = 3) : Ev sh 33 4 [a0, a1] [.int x2, .ref i1, .ref i0] σ Q = Ev sh 31 0 [some (.ref i1), some (.int x2)] [] σ (fun r s => Ev sh 33 7 [a0, a1] (zpush r [.ref i0]) s Q) := Ev_callh (zrecv_of (by decide) h) rfl
theorem s_Letters_kindAt_7 : Ev sh 33 7 [a0, a1] (.int x :: st) σ Q = Ev sh 33 8 [a0, a1] (.int (x.toUInt32 % 65536).toInt32 :: st) σ Q := Ev_step rfl
theorem s_Letters_kindAt_8 (h : 1000 ≤ i0 ∧ i0 < 1007) : Ev sh 33 8 [a0, a1] [.int x1, .ref i0] σ Q = Ev sh 264 0 [some (.ref i0), some (.int x1)] [] σ (fun r s => Ev sh 33 11 [a0, a1] (zpush r []) s Q) := Ev_callh (zrecv_s (own := 12) (by decide) h) rfl
theorem s_Letters_kindAt_11 : Ev sh 33 11 [a0, a1] [.int x] σ Q = Q (some (.int x)) σ := Ev_ret rfl
theorem s_Letters_lengthBehind_0 : Ev sh 34 0 [some (.ref i), a1] st σ Q = Ev sh 34 1 [some (.ref i), a1] (.ref i :: st) σ Q := Ev_step rfl
theorem s_Letters_lengthBehind_1 : Ev sh 34 1 [a0, some (.int x)] st σ Q = Ev sh 34 2 [a0, some (.int x)] (.int x :: st) σ Q := Ev_step rfl
theorem s_Letters_lengthBehind_2 (h : sh i0 = 3) : Ev sh 34 2 [a0, a1] [.int x1, .ref i0] σ Q = Ev sh 31 0 [some (.ref i0), some (.int x1)] [] σ (fun r s => Ev sh 34 5 [a0, a1] (zpush r []) s Q) := Ev_callh (zrecv_of (by decide) h) rfl
theorem s_Letters_lengthBehind_5 : Ev sh 34 5 [a0, a1] [.int x0] σ Q = Ev sh 35 0 [some (.int x0)] [] σ (fun r s => Ev sh 34 8 [a0, a1] (zpush r []) s Q) := Ev_call rfl
theorem s_Letters_lengthBehind_8 (h : 1000 ≤ i0 ∧ i0 < 1007) : Ev sh 34 8 [a0, a1] [.ref i0] σ Q = Ev sh 261 0 [some (.ref i0)] [] σ (fun r s => Ev sh 34 11 [a0, a1] (zpush r []) s Q) := Ev_callh (zrecv_s (own := 12) (by decide) h) rfl
theorem s_Letters_lengthBehind_11 : Ev sh 34 11 [a0, a1] [.int x] σ Q = Q (some (.int x)) σ := Ev_ret rfl
theorem s_Letters_formBehind_0 : Ev sh 35 0 [some (.int x)] st σ Q = Ev sh 35 1 [some (.int x)] (.int x :: st) σ Q := Ev_step rfl
theorem s_Letters_formBehind_1 : Ev sh 35 1 [a0] (.int x :: st) σ Q = if x = 99 then Ev sh 35 55 [a0] st σ Q else if x = 100 then Ev sh 35 64 [a0] st σ Q else if x = 109 then Ev sh 35 58 [a0] st σ Q else if x = 115 then Ev sh 35 52 [a0] st σ Q else if x = 117 then Ev sh 35 61 [a0] st σ Q else Ev sh 35 67 [a0] st σ Q := (Ev_step (pc' := zsw x 67 [(99, 55), (100, 64), (109, 58), (115, 52), (117, 61)]) rfl).trans (by rw [Ev_swc, Ev_swc, Ev_swc, Ev_swc, Ev_swc]; rfl)
theorem s_Letters_formBehind_52 : Ev sh 35 52 [a0] st σ Q = Ev sh 35 54 [a0] (.ref 1000 :: st) σ Q := Ev_step rfl
theorem s_Letters_formBehind_54 : Ev sh 35 54 [a0] [.ref i] σ Q = Q (some (.ref i)) σ := Ev_ret rfl
theorem s_Letters_formBehind_55 : Ev sh 35 55 [a0] st σ Q = Ev sh 35 57 [a0] (.ref 1001 :: st) σ Q := Ev_step rfl
theorem s_Letters_formBehind_57 : Ev sh 35 57 [a0] [.ref i] σ Q = Q (some (.ref i)) σ := Ev_ret rfl
theorem s_Letters_formBehind_58 : Ev sh 35 58 [a0] st σ Q = Ev sh 35 60 [a0] (.ref 1002 :: st) σ Q := Ev_step rfl
theorem s_Letters_formBehind_60 : Ev sh 35 60 [a0] [.ref i] σ Q = Q (some (.ref i)) σ := Ev_ret rfl
theorem s_Letters_formBehind_61 : Ev sh 35 61 [a0] st σ Q = Ev sh 35 63 [a0] (.ref 1003 :: st) σ Q := Ev_step rfl
theorem s_Letters_formBehind_63 : Ev sh 35 63 [a0] [.ref i] σ Q = Q (some (.ref i)) σ := Ev_ret rfl
theorem s_Letters_formBehind_64 : Ev sh 35 64 [a0] st σ Q = Ev sh 35 66 [a0] (.ref 1004 :: st) σ Q := Ev_step rfl
theorem s_Letters_formBehind_66 : Ev sh 35 66 [a0] [.ref i] σ Q = Q (some (.ref i)) σ := Ev_ret rfl
theorem s_Letters_formBehind_67 : Ev sh 35 67 [a0] st σ Q = Ev sh 35 69 [a0] (.ref 1005 :: st) σ Q := Ev_step rfl
theorem s_Letters_formBehind_69 : Ev sh 35 69 [a0] [.ref i] σ Q = Q (some (.ref i)) σ := Ev_ret rfl
theorem s_Letters_strayOf_0 : Ev sh 36 0 [some (.ref i), a1, a2, a3, a4] st σ Q = Ev sh 36 1 [some (.ref i), a1, a2, a3, a4] (.ref i :: st) σ Q := Ev_step rfl
theorem s_Letters_strayOf_1 : Ev sh 36 1 [a0, some (.int x), a2, a3, a4] st σ Q = Ev sh 36 2 [a0, some (.int x), a2, a3, a4] (.int x :: st) σ Q := Ev_step rfl
theorem s_Letters_strayOf_2 (h : sh i0 = 3) : Ev sh 36 2 [a0, a1, a2, a3, a4] [.int x1, .ref i0] σ Q = Ev sh 31 0 [some (.ref i0), some (.int x1)] [] σ (fun r s => Ev sh 36 5 [a0, a1, a2, a3, a4] (zpush r []) s Q) := Ev_callh (zrecv_of (by decide) h) rfl
theorem s_Letters_strayOf_5 : Ev sh 36 5 [a0, a1, a2, a3, a4] [.int x0] σ Q = Ev sh 35 0 [some (.int x0)] [] σ (fun r s => Ev sh 36 8 [a0, a1, a2, a3, a4] (zpush r []) s Q) := Ev_call rfl
theorem s_Letters_strayOf_8 : Ev sh 36 8 [a0, a1, a2, a3, a4] (.ref i :: st) σ Q = Ev sh 36 9 [a0, zdrop2 a1, some (.ref i), a3, a4] st σ Q := Ev_step rfl
theorem s_Letters_strayOf_9 : Ev sh 36 9 [a0, a1, some (.ref i), a3, a4] st σ Q = Ev sh 36 10 [a0, a1, some (.ref i), a3, a4] (.ref i :: st) σ Q := Ev_step rfl
theorem s_Letters_strayOf_10 (h : 1000 ≤ i0 ∧ i0 < 1007) : Ev sh 36 10 [a0, a1, a2, a3, a4] [.ref i0] σ Q = Ev sh 262 0 [some (.ref i0)] [] σ (fun r s => Ev sh 36 13 [a0, a1, a2, a3, a4] (zpush r []) s Q) := Ev_callh (zrecv_s (own := 12) (by decide) h) rfl
theorem s_Letters_strayOf_13 : Ev sh 36 13 [a0, a1, a2, a3, a4] (.int x :: st) σ Q = if x = 0 then Ev sh 36 18 [a0, a1, a2, a3, a4] st σ Q else Ev sh 36 16 [a0, a1, a2, a3, a4] st σ Q := Ev_if rfl
theorem s_Letters_strayOf_16 : Ev sh 36 16 [a0, some (.int x), a2, a3, a4] st σ Q = Ev sh 36 17 [a0, some (.int x), a2, a3, a4] (.int x :: st) σ Q := Ev_step rfl
theorem s_Letters_strayOf_17 : Ev sh 36 17 [a0, a1, a2, a3, a4] [.int x] σ Q = Q (some (.int x)) σ := Ev_ret rfl
theorem s_Letters_strayOf_18 : Ev sh 36 18 [a0, a1, a2, a3, a4] st σ Q = Ev sh 36 19 [a0, a1, a2, a3, a4] (.int 0 :: st) σ Q := Ev_step rfl
theorem s_Letters_strayOf_19 : Ev sh 36 19 [a0, a1, a2, a3, a4] (.int x :: st) σ Q = Ev sh 36 20 [a0, a1, zdrop2 a2, some (.int x), a4] st σ Q := Ev_step rfl
theorem s_Letters_strayOf_20 : Ev sh 36 20 [a0, a1, a2, some (.int x), a4] st σ Q = Ev sh 36 21 [a0, a1, a2, some (.int x), a4] (.int x :: st) σ Q := Ev_step rfl
theorem s_Letters_strayOf_21 : Ev sh 36 21 [a0, a1, some (.ref i), a3, a4] st σ Q = Ev sh 36 22 [a0, a1, some (.ref i), a3, a4] (.ref i :: st) σ Q := Ev_step rfl
theorem s_Letters_strayOf_22 (h : 1000 ≤ i1 ∧ i1 < 1007) : Ev sh 36 22 [a0, a1, a2, a3, a4] [.ref i1, .int x0] σ Q = Ev sh 261 0 [some (.ref i1)] [] σ (fun r s => Ev sh 36 25 [a0, a1, a2, a3, a4] (zpush r [.int x0]) s Q) := Ev_callh (zrecv_s (own := 12) (by decide) h) rfl
theorem s_Letters_strayOf_25 : Ev sh 36 25 [a0, a1, a2, a3, a4] (.int y :: .int x :: st) σ Q = if y ≤ x then Ev sh 36 67 [a0, a1, a2, a3, a4] st σ Q else Ev sh 36 28 [a0, a1, a2, a3, a4] st σ Q := Ev_if rfl
theorem s_Letters_strayOf_28 : Ev sh 36 28 [a0, some (.int x), a2, a3, a4] st σ Q = Ev sh 36 29 [a0, some (.int x), a2, a3, a4] (.int x :: st) σ Q := Ev_step rfl
theorem s_Letters_strayOf_29 : Ev sh 36 29 [a0, a1, a2, a3, a4] st σ Q = Ev sh 36 30 [a0, a1, a2, a3, a4] (.int 1 :: st) σ Q := Ev_step rfl
theorem s_Letters_strayOf_30 : Ev sh 36 30 [a0, a1, a2, a3, a4] (.int y :: .int x :: st) σ Q = Ev sh 36 31 [a0, a1, a2, a3, a4] (.int (x + y) :: st) σ Q := Ev_step rfl
theorem s_Letters_strayOf_31 : Ev sh 36 31 [a0, a1, a2, some (.int x), a4] st σ Q = Ev sh 36 32 [a0, a1, a2, some (.int x), a4] (.int x :: st) σ Q := Ev_step rfl
theorem s_Letters_strayOf_32 : Ev sh 36 32 [a0, a1, a2, a3, a4] (.int y :: .int x :: st) σ Q = Ev sh 36 33 [a0, a1, a2, a3, a4] (.int (x + y) :: st) σ Q := Ev_step rfl
theorem s_Letters_strayOf_33 : Ev sh 36 33 [a0, a1, a2, a3, a4] (.int x :: st) σ Q = Ev sh 36 35 [a0, a1, a2, zdrop2 a3, some (.int x)] st σ Q := Ev_step rfl
theorem s_Letters_strayOf_35 : Ev sh 36 35 [a0, a1, a2, a3, some (.int x)] st σ Q = Ev sh 36 37 [a0, a1, a2, a3, some (.int x)] (.int x :: st) σ Q := Ev_step rfl
theorem s_Letters_strayOf_37 : Ev sh 36 37 [some (.ref i), a1, a2, a3, a4] st σ Q = Ev sh 36 38 [some (.ref i), a1, a2, a3, a4] (.ref i :: st) σ Q := Ev_step rfl
theorem s_Letters_strayOf_38 (h : sh i = 3) : Ev sh 36 38 [a0, a1, a2, a3, a4] (.ref i :: st) σ Q = Ev sh 36 41 [a0, a1, a2, a3, a4] (.int (σ i 1) :: st) σ Q := Ev_h h rfl
theorem s_Letters_strayOf_41 : Ev sh 36 41 [a0, a1, a2, a3, a4] (.int y :: .int x :: st) σ Q = if y ≤ x then Ev sh 36 58 [a0, a1, a2, a3, a4] st σ Q else Ev sh 36 44 [a0, a1, a2, a3, a4] st σ Q := Ev_if rfl
theorem s_Letters_strayOf_44 : Ev sh 36 44 [some (.ref i), a1, a2, a3, a4] st σ Q = Ev sh 36 45 [some (.ref i), a1, a2, a3, a4] (.ref i :: st) σ Q := Ev_step rfl
theorem s_Letters_strayOf_45 : Ev sh 36 45 [a0, a1, a2, a3, some (.int x)] st σ Q = Ev sh 36 47 [a0, a1, a2, a3, some (.int x)] (.int x :: st) σ Q := Ev_step rfl
theorem s_Letters_strayOf_47 : Ev sh 36 47 [a0, a1, some (.ref i), a3, a4] st σ Q = Ev sh 36 48 [a0, a1, some (.ref i), a3, a4] (.ref i :: st) σ Q := Ev_step rfl
theorem s_Letters_strayOf_48 : Ev sh 36 48 [a0, a1, a2, some (.int x), a4] st σ Q = Ev sh 36 49 [a0, a1, a2, some (.int x), a4] (.int x :: st) σ Q := Ev_step rfl
theorem s_Letters_strayOf_49 (h : 1000 ≤ i2 ∧ i2 < 1007) : Ev sh 36 49 [a0, a1, a2, a3, a4] [.int x3, .ref i2, .int x1, .ref i0] σ Q = Ev sh 263 0 [some (.ref i2), some (.int x3)] [] σ (fun r s => Ev sh 36 52 [a0, a1, a2, a3, a4] (zpush r [.int x1, .ref i0]) s Q) := Ev_callh (zrecv_s (own := 12) (by decide) h) rfl
theorem s_Letters_strayOf_52 (h : sh i0 = 3) : Ev sh 36 52 [a0, a1, a2, a3, a4] [.int x2, .int x1, .ref i0] σ Q = Ev sh 37 0 [some (.ref i0), some (.int x1), some (.int x2)] [] σ (fun r s => Ev sh 36 55 [a0, a1, a2, a3, a4] (zpush r []) s Q) := Ev_callh (zrecv_of (by decide) h) rfl
theorem s_Letters_strayOf_55 : Ev sh 36 55 [a0, a1, a2, a3, a4] (.int x :: st) σ Q = if x ≠ 0 then Ev sh 36 61 [a0, a1, a2, a3, a4] st σ Q else Ev sh 36 58 [a0, a1, a2, a3, a4] st σ Q := Ev_if rfl
theorem s_Letters_strayOf_58 : Ev sh 36 58 [a0, a1, a2, a3, some (.int x)] st σ Q = Ev sh 36 60 [a0, a1, a2, a3, some (.int x)] (.int x :: st) σ Q := Ev_step rfl
theorem s_Letters_strayOf_60 : Ev sh 36 60 [a0, a1, a2, a3, a4] [.int x] σ Q = Q (some (.int x)) σ := Ev_ret rfl
theorem s_Letters_strayOf_61 : Ev sh 36 61 [a0, a1, a2, some (.int x), a4] st σ Q = Ev sh 36 64 [a0, a1, a2, some (.int (x + 1)), a4] st σ Q := Ev_step rfl
theorem s_Letters_strayOf_64 : Ev sh 36 64 [a0, a1, a2, a3, a4] st σ Q = Ev sh 36 20 [a0, a1, a2, a3, a4] st σ Q := Ev_step rfl
theorem s_Letters_strayOf_67 : Ev sh 36 67 [a0, a1, a2, a3, a4] st σ Q = Ev sh 36 69 [a0, a1, a2, a3, a4] (.int (-9) :: st) σ Q := Ev_step rfl
theorem s_Letters_strayOf_69 : Ev sh 36 69 [a0, a1, a2, a3, a4] [.int x] σ Q = Q (some (.int x)) σ := Ev_ret rfl
theorem s_Letters_isOfForm_0 : Ev sh 37 0 [a0, a1, some (.int x)] st σ Q = Ev sh 37 1 [a0, a1, some (.int x)] (.int x :: st) σ Q := Ev_step rfl
theorem s_Letters_isOfForm_1 : Ev sh 37 1 [a0, a1, a2] (.int x :: st) σ Q = if x = 100 then Ev sh 37 37 [a0, a1, a2] st σ Q else if x = 107 then Ev sh 37 28 [a0, a1, a2] st σ Q else Ev sh 37 49 [a0, a1, a2] st σ Q := (Ev_step (pc' := zsw x 49 [(100, 37), (107, 28)]) rfl).trans (by rw [Ev_swc, Ev_swc]; rfl)
theorem s_Letters_isOfForm_28 : Ev sh 37 28 [some (.ref i), a1, a2] st σ Q = Ev sh 37 29 [some (.ref i), a1, a2] (.ref i :: st) σ Q := Ev_step rfl
theorem s_Letters_isOfForm_29 : Ev sh 37 29 [a0, some (.int x), a2] st σ Q = Ev sh 37 30 [a0, some (.int x), a2] (.int x :: st) σ Q := Ev_step rfl
theorem s_Letters_isOfForm_30 (h : sh i0 = 3) : Ev sh 37 30 [a0, a1, a2] [.int x1, .ref i0] σ Q = Ev sh 33 0 [some (.ref i0), some (.int x1)] [] σ (fun r s => Ev sh 37 33 [a0, a1, a2] (zpush r []) s Q) := Ev_callh (zrecv_of (by decide) h) rfl
theorem s_Letters_isOfForm_33 : Ev sh 37 33 [a0, a1, a2] [.int x0] σ Q = Ev sh 152 0 [some (.int x0)] [] σ (fun r s => Ev sh 37 36 [a0, a1, a2] (zpush r []) s Q) := Ev_call rfl
theorem s_Letters_isOfForm_36 (h : x = 0 ∨ x = 1) : Ev sh 37 36 [a0, a1, a2] [.int x] σ Q = Q (some (.int x)) σ := Ev_rh h rfl
theorem s_Letters_isOfForm_37 : Ev sh 37 37 [some (.ref i), a1, a2] st σ Q = Ev sh 37 38 [some (.ref i), a1, a2] (.ref i :: st) σ Q := Ev_step rfl
theorem s_Letters_isOfForm_38 : Ev sh 37 38 [a0, some (.int x), a2] st σ Q = Ev sh 37 39 [a0, some (.int x), a2] (.int x :: st) σ Q := Ev_step rfl
theorem s_Letters_isOfForm_39 (h : sh i0 = 3) : Ev sh 37 39 [a0, a1, a2] [.int x1, .ref i0] σ Q = Ev sh 32 0 [some (.ref i0), some (.int x1)] [] σ (fun r s => Ev sh 37 42 [a0, a1, a2] (zpush r []) s Q) := Ev_callh (zrecv_of (by decide) h) rfl
theorem s_Letters_isOfForm_42 : Ev sh 37 42 [a0, a1, a2] st σ Q = Ev sh 37 43 [a0, a1, a2] (.int 0 :: st) σ Q := Ev_step rfl
theorem s_Letters_isOfForm_43 : Ev sh 37 43 [a0, a1, a2] st σ Q = Ev sh 37 45 [a0, a1, a2] (.int 9 :: st) σ Q := Ev_step rfl
theorem s_Letters_isOfForm_45 : Ev sh 37 45 [a0, a1, a2] [.int x2, .int x1, .int x0] σ Q = Ev sh 150 0 [some (.int x0), some (.int x1), some (.int x2)] [] σ (fun r s => Ev sh 37 48 [a0, a1, a2] (zpush r []) s Q) := Ev_call rfl
theorem s_Letters_isOfForm_48 (h : x = 0 ∨ x = 1) : Ev sh 37 48 [a0, a1, a2] [.int x] σ Q = Q (some (.int x)) σ := Ev_rh h rfl
theorem s_Letters_isOfForm_49 : Ev sh 37 49 [some (.ref i), a1, a2] st σ Q = Ev sh 37 50 [some (.ref i), a1, a2] (.ref i :: st) σ Q := Ev_step rfl
theorem s_Letters_isOfForm_50 : Ev sh 37 50 [a0, some (.int x), a2] st σ Q = Ev sh 37 51 [a0, some (.int x), a2] (.int x :: st) σ Q := Ev_step rfl
theorem s_Letters_isOfForm_51 (h : sh i0 = 3) : Ev sh 37 51 [a0, a1, a2] [.int x1, .ref i0] σ Q = Ev sh 31 0 [some (.ref i0), some (.int x1)] [] σ (fun r s => Ev sh 37 54 [a0, a1, a2] (zpush r []) s Q) := Ev_callh (zrecv_of (by decide) h) rfl
theorem s_Letters_isOfForm_54 : Ev sh 37 54 [a0, a1, some (.int x)] st σ Q = Ev sh 37 55 [a0, a1, some (.int x)] (.int x :: st) σ Q := Ev_step rfl
theorem s_Letters_isOfForm_55 : Ev sh 37 55 [a0, a1, a2] (.int y :: .int x :: st) σ Q = if x ≠ y then Ev sh 37 62 [a0, a1, a2] st σ Q else Ev sh 37 58 [a0, a1, a2] st σ Q := Ev_if rfl
theorem s_Letters_isOfForm_58 : Ev sh 37 58 [a0, a1, a2] st σ Q = Ev sh 37 59 [a0, a1, a2] (.int 1 :: st) σ Q := Ev_step rfl
theorem s_Letters_isOfForm_59 : Ev sh 37 59 [a0, a1, a2] st σ Q = Ev sh 37 63 [a0, a1, a2] st σ Q := Ev_step rfl
theorem s_Letters_isOfForm_62 : Ev sh 37 62 [a0, a1, a2] st σ Q = Ev sh 37 63 [a0, a1, a2] (.int 0 :: st) σ Q := Ev_step rfl
theorem s_Letters_isOfForm_63 (h : x = 0 ∨ x = 1) : Ev sh 37 63 [a0, a1, a2] [.int x] σ Q = Q (some (.int x)) σ := Ev_rh h rfl
theorem s_Letters_perform_0 : Ev sh 38 0 [some (.ref i), a1, a2] st σ Q = Ev sh 38 1 [some (.ref i), a1, a2] (.ref i :: st) σ Q := Ev_step rfl
theorem s_Letters_perform_1 : Ev sh 38 1 [a0, some (.int x), a2] st σ Q = Ev sh 38 2 [a0, some (.int x), a2] (.int x :: st) σ Q := Ev_step rfl
theorem s_Letters_perform_2 (h : sh i0 = 3) : Ev sh 38 2 [a0, a1, a2] [.int x1, .ref i0] σ Q = Ev sh 31 0 [some (.ref i0), some (.int x1)] [] σ (fun r s => Ev sh 38 5 [a0, a1, a2] (zpush r []) s Q) := Ev_callh (zrecv_of (by decide) h) rfl
theorem s_Letters_perform_5 : Ev sh 38 5 [a0, a1, a2] (.int x :: st) σ Q = if x = 99 then Ev sh 38 66 [a0, a1, a2] st σ Q else if x = 100 then Ev sh 38 93 [a0, a1, a2] st σ Q else if x = 109 then Ev sh 38 76 [a0, a1, a2] st σ Q else if x = 115 then Ev sh 38 56 [a0, a1, a2] st σ Q else if x = 117 then Ev sh 38 83 [a0, a1, a2] st σ Q else Ev sh 38 100 [a0, a1, a2] st σ Q := (Ev_step (pc' := zsw x 100 [(99, 66), (100, 93), (109, 76), (115, 56), (117, 83)]) rfl).trans (by rw [Ev_swc, Ev_swc, Ev_swc, Ev_swc, Ev_swc]; rfl)
theorem s_Letters_perform_56 : Ev sh 38 56 [some (.ref i), a1, a2] st σ Q = Ev sh 38 57 [some (.ref i), a1, a2] (.ref i :: st) σ Q := Ev_step rfl
theorem s_Letters_perform_57 : Ev sh 38 57 [a0, some (.int x), a2] st σ Q = Ev sh 38 58 [a0, some (.int x), a2] (.int x :: st) σ Q := Ev_step rfl
theorem s_Letters_perform_58 : Ev sh 38 58 [a0, a1, some (.ref i)] st σ Q = Ev sh 38 59 [a0, a1, some (.ref i)] (.ref i :: st) σ Q := Ev_step rfl
theorem s_Letters_perform_59 (h : sh i = 0) : Ev sh 38 59 [a0, a1, a2] (.ref i :: st) σ Q = Ev sh 38 62 [a0, a1, a2] (.ref (i + 1) :: st) σ Q := Ev_h h rfl
theorem s_Letters_perform_62 (h : sh i0 = 3) : Ev sh 38 62 [a0, a1, a2] [.ref i2, .int x1, .ref i0] σ Q = Ev sh 39 0 [some (.ref i0), some (.int x1), some (.ref i2), none] [] σ (fun r s => Ev sh 38 65 [a0, a1, a2] (zpush r []) s Q) := Ev_callh (zrecv_of (by decide) h) rfl
theorem s_Letters_perform_65 (h : x = 0 ∨ x = 1) : Ev sh 38 65 [a0, a1, a2] [.int x] σ Q = Q (some (.int x)) σ := Ev_rh h rfl
theorem s_Letters_perform_66 : Ev sh 38 66 [some (.ref i), a1, a2] st σ Q = Ev sh 38 67 [some (.ref i), a1, a2] (.ref i :: st) σ Q := Ev_step rfl
theorem s_Letters_perform_67 : Ev sh 38 67 [a0, some (.int x), a2] st σ Q = Ev sh 38 68 [a0, some (.int x), a2] (.int x :: st) σ Q := Ev_step rfl
theorem s_Letters_perform_68 : Ev sh 38 68 [a0, a1, some (.ref i)] st σ Q = Ev sh 38 69 [a0, a1, some (.ref i)] (.ref i :: st) σ Q := Ev_step rfl
theorem s_Letters_perform_69 (h : sh i = 0) : Ev sh 38 69 [a0, a1, a2] (.ref i :: st) σ Q = Ev sh 38 72 [a0, a1, a2] (.ref (i + 1) :: st) σ Q := Ev_h h rfl
theorem s_Letters_perform_72 (h : sh i0 = 3) : Ev sh 38 72 [a0, a1, a2] [.ref i2, .int x1, .ref i0] σ Q = Ev sh 40 0 [some (.ref i0), some (.int x1), some (.ref i2), none] [] σ (fun r s => Ev sh 38 75 [a0, a1, a2] (zpush r []) s Q) := Ev_callh (zrecv_of (by decide) h) rfl
theorem s_Letters_perform_75 (h : x = 0 ∨ x = 1) : Ev sh 38 75 [a0, a1, a2] [.int x] σ Q = Q (some (.int x)) σ := Ev_rh h rfl
theorem s_Letters_perform_76 : Ev sh 38 76 [some (.ref i), a1, a2] st σ Q = Ev sh 38 77 [some (.ref i), a1, a2] (.ref i :: st) σ Q := Ev_step rfl
theorem s_Letters_perform_77 : Ev sh 38 77 [a0, some (.int x), a2] st σ Q = Ev sh 38 78 [a0, some (.int x), a2] (.int x :: st) σ Q := Ev_step rfl
theorem s_Letters_perform_78 : Ev sh 38 78 [a0, a1, some (.ref i)] st σ Q = Ev sh 38 79 [a0, a1, some (.ref i)] (.ref i :: st) σ Q := Ev_step rfl
theorem s_Letters_perform_79 (h : sh i0 = 3) : Ev sh 38 79 [a0, a1, a2] [.ref i2, .int x1, .ref i0] σ Q = Ev sh 41 0 [some (.ref i0), some (.int x1), some (.ref i2), none, none] [] σ (fun r s => Ev sh 38 82 [a0, a1, a2] (zpush r []) s Q) := Ev_callh (zrecv_of (by decide) h) rfl
theorem s_Letters_perform_82 (h : x = 0 ∨ x = 1) : Ev sh 38 82 [a0, a1, a2] [.int x] σ Q = Q (some (.int x)) σ := Ev_rh h rfl
theorem s_Letters_perform_83 : Ev sh 38 83 [some (.ref i), a1, a2] st σ Q = Ev sh 38 84 [some (.ref i), a1, a2] (.ref i :: st) σ Q := Ev_step rfl
theorem s_Letters_perform_84 : Ev sh 38 84 [a0, some (.int x), a2] st σ Q = Ev sh 38 85 [a0, some (.int x), a2] (.int x :: st) σ Q := Ev_step rfl
theorem s_Letters_perform_85 : Ev sh 38 85 [a0, a1, some (.ref i)] st σ Q = Ev sh 38 86 [a0, a1, some (.ref i)] (.ref i :: st) σ Q := Ev_step rfl
theorem s_Letters_perform_86 (h : sh i = 0) : Ev sh 38 86 [a0, a1, a2] (.ref i :: st) σ Q = Ev sh 38 89 [a0, a1, a2] (.ref (i + 1) :: st) σ Q := Ev_h h rfl
theorem s_Letters_perform_89 (h : sh i0 = 3) : Ev sh 38 89 [a0, a1, a2] [.ref i2, .int x1, .ref i0] σ Q = Ev sh 42 0 [some (.ref i0), some (.int x1), some (.ref i2), none] [] σ (fun r s => Ev sh 38 92 [a0, a1, a2] (zpush r []) s Q) := Ev_callh (zrecv_of (by decide) h) rfl
theorem s_Letters_perform_92 (h : x = 0 ∨ x = 1) : Ev sh 38 92 [a0, a1, a2] [.int x] σ Q = Q (some (.int x)) σ := Ev_rh h rfl
theorem s_Letters_perform_93 : Ev sh 38 93 [some (.ref i), a1, a2] st σ Q = Ev sh 38 94 [some (.ref i), a1, a2] (.ref i :: st) σ Q := Ev_step rfl
theorem s_Letters_perform_94 : Ev sh 38 94 [a0, some (.int x), a2] st σ Q = Ev sh 38 95 [a0, some (.int x), a2] (.int x :: st) σ Q := Ev_step rfl
theorem s_Letters_perform_95 : Ev sh 38 95 [a0, a1, some (.ref i)] st σ Q = Ev sh 38 96 [a0, a1, some (.ref i)] (.ref i :: st) σ Q := Ev_step rfl
theorem s_Letters_perform_96 (h : sh i0 = 3) : Ev sh 38 96 [a0, a1, a2] [.ref i2, .int x1, .ref i0] σ Q = Ev sh 43 0 [some (.ref i0), some (.int x1), some (.ref i2), none] [] σ (fun r s => Ev sh 38 99 [a0, a1, a2] (zpush r []) s Q) := Ev_callh (zrecv_of (by decide) h) rfl
theorem s_Letters_perform_99 (h : x = 0 ∨ x = 1) : Ev sh 38 99 [a0, a1, a2] [.int x] σ Q = Q (some (.int x)) σ := Ev_rh h rfl
theorem s_Letters_perform_100 : Ev sh 38 100 [a0, a1, a2] st σ Q = Ev sh 38 101 [a0, a1, a2] (.int 0 :: st) σ Q := Ev_step rfl
theorem s_Letters_perform_101 (h : x = 0 ∨ x = 1) : Ev sh 38 101 [a0, a1, a2] [.int x] σ Q = Q (some (.int x)) σ := Ev_rh h rfl
theorem s_Letters_layStone_0 : Ev sh 39 0 [some (.ref i), a1, a2, a3] st σ Q = Ev sh 39 1 [some (.ref i), a1, a2, a3] (.ref i :: st) σ Q := Ev_step rfl
theorem s_Letters_layStone_1 : Ev sh 39 1 [a0, some (.int x), a2, a3] st σ Q = Ev sh 39 2 [a0, some (.int x), a2, a3] (.int x :: st) σ Q := Ev_step rfl
theorem s_Letters_layStone_2 : Ev sh 39 2 [a0, a1, a2, a3] st σ Q = Ev sh 39 3 [a0, a1, a2, a3] (.int 3 :: st) σ Q := Ev_step rfl
theorem s_Letters_layStone_3 : Ev sh 39 3 [a0, a1, a2, a3] (.int y :: .int x :: st) σ Q = Ev sh 39 4 [a0, a1, a2, a3] (.int (x + y) :: st) σ Q := Ev_step rfl
theorem s_Letters_layStone_4 (h : sh i0 = 3) : Ev sh 39 4 [a0, a1, a2, a3] [.int x1, .ref i0] σ Q = Ev sh 32 0 [some (.ref i0), some (.int x1)] [] σ (fun r s => Ev sh 39 7 [a0, a1, a2, a3] (zpush r []) s Q) := Ev_callh (zrecv_of (by decide) h) rfl
theorem s_Letters_layStone_7 : Ev sh 39 7 [a0, a1, a2, a3] (.int x :: st) σ Q = Ev sh 39 8 [a0, a1, zdrop2 a2, some (.int x)] st σ Q := Ev_step rfl
theorem s_Letters_layStone_8 : Ev sh 39 8 [a0, a1, a2, some (.int x)] st σ Q = Ev sh 39 9 [a0, a1, a2, some (.int x)] (.int x :: st) σ Q := Ev_step rfl
theorem s_Letters_layStone_9 : Ev sh 39 9 [a0, a1, a2, a3] [.int x0] σ Q = Ev sh 151 0 [some (.int x0)] [] σ (fun r s => Ev sh 39 12 [a0, a1, a2, a3] (zpush r []) s Q) := Ev_call rfl
theorem s_Letters_layStone_12 : Ev sh 39 12 [a0, a1, a2, a3] (.int x :: st) σ Q = if x = 0 then Ev sh 39 22 [a0, a1, a2, a3] st σ Q else Ev sh 39 15 [a0, a1, a2, a3] st σ Q := Ev_if rfl
theorem s_Letters_layStone_15 : Ev sh 39 15 [a0, a1, some (.ref i), a3] st σ Q = Ev sh 39 16 [a0, a1, some (.ref i), a3] (.ref i :: st) σ Q := Ev_step rfl
theorem s_Letters_layStone_16 (h : sh i0 = 7) : Ev sh 39 16 [a0, a1, a2, a3] [.ref i0] σ Q = Ev sh 71 0 [some (.ref i0)] [] σ (fun r s => Ev sh 39 19 [a0, a1, a2, a3] (zpush r []) s Q) := Ev_callh (zrecv_of (by decide) h) rfl
theorem s_Letters_layStone_19 : Ev sh 39 19 [a0, a1, a2, a3] (.int x :: st) σ Q = if x ≠ 0 then Ev sh 39 24 [a0, a1, a2, a3] st σ Q else Ev sh 39 22 [a0, a1, a2, a3] st σ Q := Ev_if rfl
theorem s_Letters_layStone_22 : Ev sh 39 22 [a0, a1, a2, a3] st σ Q = Ev sh 39 23 [a0, a1, a2, a3] (.int 0 :: st) σ Q := Ev_step rfl
theorem s_Letters_layStone_23 (h : x = 0 ∨ x = 1) : Ev sh 39 23 [a0, a1, a2, a3] [.int x] σ Q = Q (some (.int x)) σ := Ev_rh h rfl
theorem s_Letters_layStone_24 : Ev sh 39 24 [a0, a1, some (.ref i), a3] st σ Q = Ev sh 39 25 [a0, a1, some (.ref i), a3] (.ref i :: st) σ Q := Ev_step rfl
theorem s_Letters_layStone_25 : Ev sh 39 25 [some (.ref i), a1, a2, a3] st σ Q = Ev sh 39 26 [some (.ref i), a1, a2, a3] (.ref i :: st) σ Q := Ev_step rfl
theorem s_Letters_layStone_26 : Ev sh 39 26 [a0, some (.int x), a2, a3] st σ Q = Ev sh 39 27 [a0, some (.int x), a2, a3] (.int x :: st) σ Q := Ev_step rfl
theorem s_Letters_layStone_27 : Ev sh 39 27 [a0, a1, a2, a3] st σ Q = Ev sh 39 28 [a0, a1, a2, a3] (.int 1 :: st) σ Q := Ev_step rfl
theorem s_Letters_layStone_28 : Ev sh 39 28 [a0, a1, a2, a3] (.int y :: .int x :: st) σ Q = Ev sh 39 29 [a0, a1, a2, a3] (.int (x + y) :: st) σ Q := Ev_step rfl
theorem s_Letters_layStone_29 (h : sh i1 = 3) : Ev sh 39 29 [a0, a1, a2, a3] [.int x2, .ref i1, .ref i0] σ Q = Ev sh 33 0 [some (.ref i1), some (.int x2)] [] σ (fun r s => Ev sh 39 32 [a0, a1, a2, a3] (zpush r [.ref i0]) s Q) := Ev_callh (zrecv_of (by decide) h) rfl
theorem s_Letters_layStone_32 : Ev sh 39 32 [some (.ref i), a1, a2, a3] st σ Q = Ev sh 39 33 [some (.ref i), a1, a2, a3] (.ref i :: st) σ Q := Ev_step rfl
theorem s_Letters_layStone_33 : Ev sh 39 33 [a0, some (.int x), a2, a3] st σ Q = Ev sh 39 34 [a0, some (.int x), a2, a3] (.int x :: st) σ Q := Ev_step rfl
theorem s_Letters_layStone_34 : Ev sh 39 34 [a0, a1, a2, a3] st σ Q = Ev sh 39 35 [a0, a1, a2, a3] (.int 2 :: st) σ Q := Ev_step rfl
theorem s_Letters_layStone_35 : Ev sh 39 35 [a0, a1, a2, a3] (.int y :: .int x :: st) σ Q = Ev sh 39 36 [a0, a1, a2, a3] (.int (x + y) :: st) σ Q := Ev_step rfl
theorem s_Letters_layStone_36 (h : sh i2 = 3) : Ev sh 39 36 [a0, a1, a2, a3] [.int x3, .ref i2, .int x1, .ref i0] σ Q = Ev sh 32 0 [some (.ref i2), some (.int x3)] [] σ (fun r s => Ev sh 39 39 [a0, a1, a2, a3] (zpush r [.int x1, .ref i0]) s Q) := Ev_callh (zrecv_of (by decide) h) rfl
theorem s_Letters_layStone_39 : Ev sh 39 39 [a0, a1, a2, some (.int x)] st σ Q = Ev sh 39 40 [a0, a1, a2, some (.int x)] (.int x :: st) σ Q := Ev_step rfl
theorem s_Letters_layStone_40 (h : sh i0 = 7) : Ev sh 39 40 [a0, a1, a2, a3] [.int x3, .int x2, .int x1, .ref i0] σ Q = Ev sh 64 0 [some (.ref i0), some (.int x1), some (.int x2), some (.int x3)] [] σ (fun r s => Ev sh 39 43 [a0, a1, a2, a3] (zpush r []) s Q) := Ev_callh (zrecv_of (by decide) h) rfl
theorem s_Letters_layStone_43 : Ev sh 39 43 [a0, a1, a2, a3] st σ Q = Ev sh 39 44 [a0, a1, a2, a3] (.int 1 :: st) σ Q := Ev_step rfl
theorem s_Letters_layStone_44 (h : x = 0 ∨ x = 1) : Ev sh 39 44 [a0, a1, a2, a3] [.int x] σ Q = Q (some (.int x)) σ := Ev_rh h rfl
theorem s_Letters_correctStone_0 : Ev sh 40 0 [some (.ref i), a1, a2, a3] st σ Q = Ev sh 40 1 [some (.ref i), a1, a2, a3] (.ref i :: st) σ Q := Ev_step rfl
theorem s_Letters_correctStone_1 : Ev sh 40 1 [a0, some (.int x), a2, a3] st σ Q = Ev sh 40 2 [a0, some (.int x), a2, a3] (.int x :: st) σ Q := Ev_step rfl
theorem s_Letters_correctStone_2 : Ev sh 40 2 [a0, a1, a2, a3] st σ Q = Ev sh 40 3 [a0, a1, a2, a3] (.int 1 :: st) σ Q := Ev_step rfl
theorem s_Letters_correctStone_3 : Ev sh 40 3 [a0, a1, a2, a3] (.int y :: .int x :: st) σ Q = Ev sh 40 4 [a0, a1, a2, a3] (.int (x + y) :: st) σ Q := Ev_step rfl
theorem s_Letters_correctStone_4 (h : sh i0 = 3) : Ev sh 40 4 [a0, a1, a2, a3] [.int x1, .ref i0] σ Q = Ev sh 32 0 [some (.ref i0), some (.int x1)] [] σ (fun r s => Ev sh 40 7 [a0, a1, a2, a3] (zpush r []) s Q) := Ev_callh (zrecv_of (by decide) h) rfl
theorem s_Letters_correctStone_7 : Ev sh 40 7 [a0, a1, a2, a3] (.int x :: st) σ Q = Ev sh 40 8 [a0, a1, zdrop2 a2, some (.int x)] st σ Q := Ev_step rfl
theorem s_Letters_correctStone_8 : Ev sh 40 8 [a0, a1, some (.ref i), a3] st σ Q = Ev sh 40 9 [a0, a1, some (.ref i), a3] (.ref i :: st) σ Q := Ev_step rfl
theorem s_Letters_correctStone_9 : Ev sh 40 9 [a0, a1, a2, some (.int x)] st σ Q = Ev sh 40 10 [a0, a1, a2, some (.int x)] (.int x :: st) σ Q := Ev_step rfl
theorem s_Letters_correctStone_10 (h : sh i0 = 7) : Ev sh 40 10 [a0, a1, a2, a3] [.int x1, .ref i0] σ Q = Ev sh 72 0 [some (.ref i0), some (.int x1)] [] σ (fun r s => Ev sh 40 13 [a0, a1, a2, a3] (zpush r []) s Q) := Ev_callh (zrecv_of (by decide) h) rfl
theorem s_Letters_correctStone_13 : Ev sh 40 13 [a0, a1, a2, a3] (.int x :: st) σ Q = if x ≠ 0 then Ev sh 40 18 [a0, a1, a2, a3] st σ Q else Ev sh 40 16 [a0, a1, a2, a3] st σ Q := Ev_if rfl
theorem s_Letters_correctStone_16 : Ev sh 40 16 [a0, a1, a2, a3] st σ Q = Ev sh 40 17 [a0, a1, a2, a3] (.int 0 :: st) σ Q := Ev_step rfl
theorem s_Letters_correctStone_17 (h : x = 0 ∨ x = 1) : Ev sh 40 17 [a0, a1, a2, a3] [.int x] σ Q = Q (some (.int x)) σ := Ev_rh h rfl
theorem s_Letters_correctStone_18 : Ev sh 40 18 [a0, a1, some (.ref i), a3] st σ Q = Ev sh 40 19 [a0, a1, some (.ref i), a3] (.ref i :: st) σ Q := Ev_step rfl
theorem s_Letters_correctStone_19 : Ev sh 40 19 [a0, a1, a2, some (.int x)] st σ Q = Ev sh 40 20 [a0, a1, a2, some (.int x)] (.int x :: st) σ Q := Ev_step rfl
theorem s_Letters_correctStone_20 : Ev sh 40 20 [some (.ref i), a1, a2, a3] st σ Q = Ev sh 40 21 [some (.ref i), a1, a2, a3] (.ref i :: st) σ Q := Ev_step rfl
theorem s_Letters_correctStone_21 : Ev sh 40 21 [a0, some (.int x), a2, a3] st σ Q = Ev sh 40 22 [a0, some (.int x), a2, a3] (.int x :: st) σ Q := Ev_step rfl
theorem s_Letters_correctStone_22 : Ev sh 40 22 [a0, a1, a2, a3] st σ Q = Ev sh 40 23 [a0, a1, a2, a3] (.int 2 :: st) σ Q := Ev_step rfl
theorem s_Letters_correctStone_23 : Ev sh 40 23 [a0, a1, a2, a3] (.int y :: .int x :: st) σ Q = Ev sh 40 24 [a0, a1, a2, a3] (.int (x + y) :: st) σ Q := Ev_step rfl
theorem s_Letters_correctStone_24 (h : sh i2 = 3) : Ev sh 40 24 [a0, a1, a2, a3] [.int x3, .ref i2, .int x1, .ref i0] σ Q = Ev sh 33 0 [some (.ref i2), some (.int x3)] [] σ (fun r s => Ev sh 40 27 [a0, a1, a2, a3] (zpush r [.int x1, .ref i0]) s Q) := Ev_callh (zrecv_of (by decide) h) rfl
theorem s_Letters_correctStone_27 : Ev sh 40 27 [some (.ref i), a1, a2, a3] st σ Q = Ev sh 40 28 [some (.ref i), a1, a2, a3] (.ref i :: st) σ Q := Ev_step rfl
theorem s_Letters_correctStone_28 : Ev sh 40 28 [a0, some (.int x), a2, a3] st σ Q = Ev sh 40 29 [a0, some (.int x), a2, a3] (.int x :: st) σ Q := Ev_step rfl
theorem s_Letters_correctStone_29 : Ev sh 40 29 [a0, a1, a2, a3] st σ Q = Ev sh 40 30 [a0, a1, a2, a3] (.int 3 :: st) σ Q := Ev_step rfl
theorem s_Letters_correctStone_30 : Ev sh 40 30 [a0, a1, a2, a3] (.int y :: .int x :: st) σ Q = Ev sh 40 31 [a0, a1, a2, a3] (.int (x + y) :: st) σ Q := Ev_step rfl
theorem s_Letters_correctStone_31 (h : sh i3 = 3) : Ev sh 40 31 [a0, a1, a2, a3] [.int x4, .ref i3, .int x2, .int x1, .ref i0] σ Q = Ev sh 32 0 [some (.ref i3), some (.int x4)] [] σ (fun r s => Ev sh 40 34 [a0, a1, a2, a3] (zpush r [.int x2, .int x1, .ref i0]) s Q) := Ev_callh (zrecv_of (by decide) h) rfl
theorem s_Letters_correctStone_34 (h : sh i0 = 7) : Ev sh 40 34 [a0, a1, a2, a3] [.int x3, .int x2, .int x1, .ref i0] σ Q = Ev sh 65 0 [some (.ref i0), some (.int x1), some (.int x2), some (.int x3)] [] σ (fun r s => Ev sh 40 37 [a0, a1, a2, a3] (zpush r []) s Q) := Ev_callh (zrecv_of (by decide) h) rfl
theorem s_Letters_correctStone_37 : Ev sh 40 37 [a0, a1, a2, a3] st σ Q = Ev sh 40 38 [a0, a1, a2, a3] (.int 1 :: st) σ Q := Ev_step rfl
theorem s_Letters_correctStone_38 (h : x = 0 ∨ x = 1) : Ev sh 40 38 [a0, a1, a2, a3] [.int x] σ Q = Q (some (.int x)) σ := Ev_rh h rfl
theorem s_Letters_changeMason_0 : Ev sh 41 0 [some (.ref i), a1, a2, a3, a4] st σ Q = Ev sh 41 1 [some (.ref i), a1, a2, a3, a4] (.ref i :: st) σ Q := Ev_step rfl
theorem s_Letters_changeMason_1 : Ev sh 41 1 [a0, some (.int x), a2, a3, a4] st σ Q = Ev sh 41 2 [a0, some (.int x), a2, a3, a4] (.int x :: st) σ Q := Ev_step rfl
theorem s_Letters_changeMason_2 : Ev sh 41 2 [a0, a1, a2, a3, a4] st σ Q = Ev sh 41 3 [a0, a1, a2, a3, a4] (.int 1 :: st) σ Q := Ev_step rfl
theorem s_Letters_changeMason_3 : Ev sh 41 3 [a0, a1, a2, a3, a4] (.int y :: .int x :: st) σ Q = Ev sh 41 4 [a0, a1, a2, a3, a4] (.int (x + y) :: st) σ Q := Ev_step rfl
theorem s_Letters_changeMason_4 (h : sh i0 = 3) : Ev sh 41 4 [a0, a1, a2, a3, a4] [.int x1, .ref i0] σ Q = Ev sh 32 0 [some (.ref i0), some (.int x1)] [] σ (fun r s => Ev sh 41 7 [a0, a1, a2, a3, a4] (zpush r []) s Q) := Ev_callh (zrecv_of (by decide) h) rfl
theorem s_Letters_changeMason_7 : Ev sh 41 7 [a0, a1, a2, a3, a4] (.int x :: st) σ Q = Ev sh 41 8 [a0, a1, zdrop2 a2, some (.int x), a4] st σ Q := Ev_step rfl
theorem s_Letters_changeMason_8 : Ev sh 41 8 [a0, a1, a2, some (.int x), a4] st σ Q = Ev sh 41 9 [a0, a1, a2, some (.int x), a4] (.int x :: st) σ Q := Ev_step rfl
theorem s_Letters_changeMason_9 : Ev sh 41 9 [a0, a1, a2, a3, a4] [.int x0] σ Q = Ev sh 151 0 [some (.int x0)] [] σ (fun r s => Ev sh 41 12 [a0, a1, a2, a3, a4] (zpush r []) s Q) := Ev_call rfl
theorem s_Letters_changeMason_12 : Ev sh 41 12 [a0, a1, a2, a3, a4] (.int x :: st) σ Q = if x ≠ 0 then Ev sh 41 17 [a0, a1, a2, a3, a4] st σ Q else Ev sh 41 15 [a0, a1, a2, a3, a4] st σ Q := Ev_if rfl
theorem s_Letters_changeMason_15 : Ev sh 41 15 [a0, a1, a2, a3, a4] st σ Q = Ev sh 41 16 [a0, a1, a2, a3, a4] (.int 0 :: st) σ Q := Ev_step rfl
theorem s_Letters_changeMason_16 (h : x = 0 ∨ x = 1) : Ev sh 41 16 [a0, a1, a2, a3, a4] [.int x] σ Q = Q (some (.int x)) σ := Ev_rh h rfl
theorem s_Letters_changeMason_17 : Ev sh 41 17 [a0, a1, some (.ref i), a3, a4] st σ Q = Ev sh 41 18 [a0, a1, some (.ref i), a3, a4] (.ref i :: st) σ Q := Ev_step rfl
theorem s_Letters_changeMason_18 : Ev sh 41 18 [a0, a1, a2, some (.int x), a4] st σ Q = Ev sh 41 19 [a0, a1, a2, some (.int x), a4] (.int x :: st) σ Q := Ev_step rfl
theorem s_Letters_changeMason_19 (h : sh i0 = 0) : Ev sh 41 19 [a0, a1, a2, a3, a4] [.int x1, .ref i0] σ Q = Ev sh 1 0 [some (.ref i0), some (.int x1)] [] σ (fun r s => Ev sh 41 22 [a0, a1, a2, a3, a4] (zpush r []) s Q) := Ev_callh (zrecv_of (by decide) h) rfl
theorem s_Letters_changeMason_22 : Ev sh 41 22 [a0, a1, a2, a3, a4] (.ref i :: st) σ Q = Ev sh 41 24 [a0, a1, a2, zdrop2 a3, some (.ref i)] st σ Q := Ev_step rfl
theorem s_Letters_changeMason_24 : Ev sh 41 24 [a0, a1, a2, a3, some (.ref i)] st σ Q = Ev sh 41 26 [a0, a1, a2, a3, some (.ref i)] (.ref i :: st) σ Q := Ev_step rfl
theorem s_Letters_changeMason_26 : Ev sh 41 26 [some (.ref i), a1, a2, a3, a4] st σ Q = Ev sh 41 27 [some (.ref i), a1, a2, a3, a4] (.ref i :: st) σ Q := Ev_step rfl
theorem s_Letters_changeMason_27 : Ev sh 41 27 [a0, some (.int x), a2, a3, a4] st σ Q = Ev sh 41 28 [a0, some (.int x), a2, a3, a4] (.int x :: st) σ Q := Ev_step rfl
theorem s_Letters_changeMason_28 : Ev sh 41 28 [a0, a1, a2, a3, a4] st σ Q = Ev sh 41 29 [a0, a1, a2, a3, a4] (.int 2 :: st) σ Q := Ev_step rfl
theorem s_Letters_changeMason_29 : Ev sh 41 29 [a0, a1, a2, a3, a4] (.int y :: .int x :: st) σ Q = Ev sh 41 30 [a0, a1, a2, a3, a4] (.int (x + y) :: st) σ Q := Ev_step rfl
theorem s_Letters_changeMason_30 (h : sh i1 = 3) : Ev sh 41 30 [a0, a1, a2, a3, a4] [.int x2, .ref i1, .ref i0] σ Q = Ev sh 33 0 [some (.ref i1), some (.int x2)] [] σ (fun r s => Ev sh 41 33 [a0, a1, a2, a3, a4] (zpush r [.ref i0]) s Q) := Ev_callh (zrecv_of (by decide) h) rfl
theorem s_Letters_changeMason_33 (h : sh i = 4) : Ev sh 41 33 [a0, a1, a2, a3, a4] (.int x :: .ref i :: st) σ Q = Ev sh 41 36 [a0, a1, a2, a3, a4] st (zup σ i 0 x) Q := Ev_h h rfl
theorem s_Letters_changeMason_36 : Ev sh 41 36 [a0, a1, a2, a3, some (.ref i)] st σ Q = Ev sh 41 38 [a0, a1, a2, a3, some (.ref i)] (.ref i :: st) σ Q := Ev_step rfl
theorem s_Letters_changeMason_38 : Ev sh 41 38 [some (.ref i), a1, a2, a3, a4] st σ Q = Ev sh 41 39 [some (.ref i), a1, a2, a3, a4] (.ref i :: st) σ Q := Ev_step rfl
theorem s_Letters_changeMason_39 : Ev sh 41 39 [a0, some (.int x), a2, a3, a4] st σ Q = Ev sh 41 40 [a0, some (.int x), a2, a3, a4] (.int x :: st) σ Q := Ev_step rfl
theorem s_Letters_changeMason_40 : Ev sh 41 40 [a0, a1, a2, a3, a4] st σ Q = Ev sh 41 41 [a0, a1, a2, a3, a4] (.int 3 :: st) σ Q := Ev_step rfl
theorem s_Letters_changeMason_41 : Ev sh 41 41 [a0, a1, a2, a3, a4] (.int y :: .int x :: st) σ Q = Ev sh 41 42 [a0, a1, a2, a3, a4] (.int (x + y) :: st) σ Q := Ev_step rfl
theorem s_Letters_changeMason_42 (h : sh i1 = 3) : Ev sh 41 42 [a0, a1, a2, a3, a4] [.int x2, .ref i1, .ref i0] σ Q = Ev sh 32 0 [some (.ref i1), some (.int x2)] [] σ (fun r s => Ev sh 41 45 [a0, a1, a2, a3, a4] (zpush r [.ref i0]) s Q) := Ev_callh (zrecv_of (by decide) h) rfl
theorem s_Letters_changeMason_45 (h : sh i = 4) : Ev sh 41 45 [a0, a1, a2, a3, a4] (.int x :: .ref i :: st) σ Q = Ev sh 41 48 [a0, a1, a2, a3, a4] st (zup σ i 1 x) Q := Ev_h h rfl
theorem s_Letters_changeMason_48 : Ev sh 41 48 [a0, a1, a2, a3, some (.ref i)] st σ Q = Ev sh 41 50 [a0, a1, a2, a3, some (.ref i)] (.ref i :: st) σ Q := Ev_step rfl
theorem s_Letters_changeMason_50 : Ev sh 41 50 [some (.ref i), a1, a2, a3, a4] st σ Q = Ev sh 41 51 [some (.ref i), a1, a2, a3, a4] (.ref i :: st) σ Q := Ev_step rfl
theorem s_Letters_changeMason_51 : Ev sh 41 51 [a0, some (.int x), a2, a3, a4] st σ Q = Ev sh 41 52 [a0, some (.int x), a2, a3, a4] (.int x :: st) σ Q := Ev_step rfl
theorem s_Letters_changeMason_52 : Ev sh 41 52 [a0, a1, a2, a3, a4] st σ Q = Ev sh 41 53 [a0, a1, a2, a3, a4] (.int 4 :: st) σ Q := Ev_step rfl
theorem s_Letters_changeMason_53 : Ev sh 41 53 [a0, a1, a2, a3, a4] (.int y :: .int x :: st) σ Q = Ev sh 41 54 [a0, a1, a2, a3, a4] (.int (x + y) :: st) σ Q := Ev_step rfl
theorem s_Letters_changeMason_54 (h : sh i1 = 3) : Ev sh 41 54 [a0, a1, a2, a3, a4] [.int x2, .ref i1, .ref i0] σ Q = Ev sh 32 0 [some (.ref i1), some (.int x2)] [] σ (fun r s => Ev sh 41 57 [a0, a1, a2, a3, a4] (zpush r [.ref i0]) s Q) := Ev_callh (zrecv_of (by decide) h) rfl
theorem s_Letters_changeMason_57 (h : sh i = 4) : Ev sh 41 57 [a0, a1, a2, a3, a4] (.int x :: .ref i :: st) σ Q = Ev sh 41 60 [a0, a1, a2, a3, a4] st (zup σ i 2 x) Q := Ev_h h rfl
theorem s_Letters_changeMason_60 : Ev sh 41 60 [a0, a1, a2, a3, a4] st σ Q = Ev sh 41 61 [a0, a1, a2, a3, a4] (.int 1 :: st) σ Q := Ev_step rfl
theorem s_Letters_changeMason_61 (h : x = 0 ∨ x = 1) : Ev sh 41 61 [a0, a1, a2, a3, a4] [.int x] σ Q = Q (some (.int x)) σ := Ev_rh h rfl
theorem s_Letters_takeStones_0 : Ev sh 42 0 [some (.ref i), a1, a2, a3] st σ Q = Ev sh 42 1 [some (.ref i), a1, a2, a3] (.ref i :: st) σ Q := Ev_step rfl
theorem s_Letters_takeStones_1 : Ev sh 42 1 [a0, some (.int x), a2, a3] st σ Q = Ev sh 42 2 [a0, some (.int x), a2, a3] (.int x :: st) σ Q := Ev_step rfl
theorem s_Letters_takeStones_2 : Ev sh 42 2 [a0, a1, a2, a3] st σ Q = Ev sh 42 3 [a0, a1, a2, a3] (.int 1 :: st) σ Q := Ev_step rfl
theorem s_Letters_takeStones_3 : Ev sh 42 3 [a0, a1, a2, a3] (.int y :: .int x :: st) σ Q = Ev sh 42 4 [a0, a1, a2, a3] (.int (x + y) :: st) σ Q := Ev_step rfl
theorem s_Letters_takeStones_4 (h : sh i0 = 3) : Ev sh 42 4 [a0, a1, a2, a3] [.int x1, .ref i0] σ Q = Ev sh 32 0 [some (.ref i0), some (.int x1)] [] σ (fun r s => Ev sh 42 7 [a0, a1, a2, a3] (zpush r []) s Q) := Ev_callh (zrecv_of (by decide) h) rfl
theorem s_Letters_takeStones_7 : Ev sh 42 7 [a0, a1, a2, a3] (.int x :: st) σ Q = Ev sh 42 8 [a0, a1, zdrop2 a2, some (.int x)] st σ Q := Ev_step rfl
theorem s_Letters_takeStones_8 : Ev sh 42 8 [a0, a1, a2, some (.int x)] st σ Q = Ev sh 42 9 [a0, a1, a2, some (.int x)] (.int x :: st) σ Q := Ev_step rfl
theorem s_Letters_takeStones_9 : Ev sh 42 9 [a0, a1, a2, a3] st σ Q = Ev sh 42 10 [a0, a1, a2, a3] (.int 1 :: st) σ Q := Ev_step rfl
theorem s_Letters_takeStones_10 : Ev sh 42 10 [a0, a1, some (.ref i), a3] st σ Q = Ev sh 42 11 [a0, a1, some (.ref i), a3] (.ref i :: st) σ Q := Ev_step rfl
theorem s_Letters_takeStones_11 (h : sh i2 = 7) : Ev sh 42 11 [a0, a1, a2, a3] [.ref i2, .int x1, .int x0] σ Q = Ev sh 70 0 [some (.ref i2)] [] σ (fun r s => Ev sh 42 14 [a0, a1, a2, a3] (zpush r [.int x1, .int x0]) s Q) := Ev_callh (zrecv_of (by decide) h) rfl
theorem s_Letters_takeStones_14 : Ev sh 42 14 [a0, a1, a2, a3] [.int x2, .int x1, .int x0] σ Q = Ev sh 150 0 [some (.int x0), some (.int x1), some (.int x2)] [] σ (fun r s => Ev sh 42 17 [a0, a1, a2, a3] (zpush r []) s Q) := Ev_call rfl
theorem s_Letters_takeStones_17 : Ev sh 42 17 [a0, a1, a2, a3] (.int x :: st) σ Q = if x ≠ 0 then Ev sh 42 22 [a0, a1, a2, a3] st σ Q else Ev sh 42 20 [a0, a1, a2, a3] st σ Q := Ev_if rfl
theorem s_Letters_takeStones_20 : Ev sh 42 20 [a0, a1, a2, a3] st σ Q = Ev sh 42 21 [a0, a1, a2, a3] (.int 0 :: st) σ Q := Ev_step rfl
theorem s_Letters_takeStones_21 (h : x = 0 ∨ x = 1) : Ev sh 42 21 [a0, a1, a2, a3] [.int x] σ Q = Q (some (.int x)) σ := Ev_rh h rfl
theorem s_Letters_takeStones_22 : Ev sh 42 22 [a0, a1, some (.ref i), a3] st σ Q = Ev sh 42 23 [a0, a1, some (.ref i), a3] (.ref i :: st) σ Q := Ev_step rfl
theorem s_Letters_takeStones_23 : Ev sh 42 23 [a0, a1, a2, some (.int x)] st σ Q = Ev sh 42 24 [a0, a1, a2, some (.int x)] (.int x :: st) σ Q := Ev_step rfl
theorem s_Letters_takeStones_24 (h : sh i0 = 7) : Ev sh 42 24 [a0, a1, a2, a3] [.int x1, .ref i0] σ Q = Ev sh 67 0 [some (.ref i0), some (.int x1)] [] σ (fun r s => Ev sh 42 27 [a0, a1, a2, a3] (zpush r []) s Q) := Ev_callh (zrecv_of (by decide) h) rfl
theorem s_Letters_takeStones_27 : Ev sh 42 27 [a0, a1, a2, a3] st σ Q = Ev sh 42 28 [a0, a1, a2, a3] (.int 1 :: st) σ Q := Ev_step rfl
theorem s_Letters_takeStones_28 (h : x = 0 ∨ x = 1) : Ev sh 42 28 [a0, a1, a2, a3] [.int x] σ Q = Q (some (.int x)) σ := Ev_rh h rfl
theorem s_Letters_passDays_0 : Ev sh 43 0 [a0, a1, a2, a3] st σ Q = Ev sh 43 2 [a0, a1, a2, a3] (.int 10 :: st) σ Q := Ev_step rfl
theorem s_Letters_passDays_2 : Ev sh 43 2 [some (.ref i), a1, a2, a3] st σ Q = Ev sh 43 3 [some (.ref i), a1, a2, a3] (.ref i :: st) σ Q := Ev_step rfl
theorem s_Letters_passDays_3 : Ev sh 43 3 [a0, some (.int x), a2, a3] st σ Q = Ev sh 43 4 [a0, some (.int x), a2, a3] (.int x :: st) σ Q := Ev_step rfl
theorem s_Letters_passDays_4 : Ev sh 43 4 [a0, a1, a2, a3] st σ Q = Ev sh 43 5 [a0, a1, a2, a3] (.int 1 :: st) σ Q := Ev_step rfl
theorem s_Letters_passDays_5 : Ev sh 43 5 [a0, a1, a2, a3] (.int y :: .int x :: st) σ Q = Ev sh 43 6 [a0, a1, a2, a3] (.int (x + y) :: st) σ Q := Ev_step rfl
theorem s_Letters_passDays_6 (h : sh i1 = 3) : Ev sh 43 6 [a0, a1, a2, a3] [.int x2, .ref i1, .int x0] σ Q = Ev sh 32 0 [some (.ref i1), some (.int x2)] [] σ (fun r s => Ev sh 43 9 [a0, a1, a2, a3] (zpush r [.int x0]) s Q) := Ev_callh (zrecv_of (by decide) h) rfl
theorem s_Letters_passDays_9 : Ev sh 43 9 [a0, a1, a2, a3] (.int y :: .int x :: st) σ Q = Ev sh 43 10 [a0, a1, a2, a3] (.int (x * y) :: st) σ Q := Ev_step rfl
theorem s_Letters_passDays_10 : Ev sh 43 10 [some (.ref i), a1, a2, a3] st σ Q = Ev sh 43 11 [some (.ref i), a1, a2, a3] (.ref i :: st) σ Q := Ev_step rfl
theorem s_Letters_passDays_11 : Ev sh 43 11 [a0, some (.int x), a2, a3] st σ Q = Ev sh 43 12 [a0, some (.int x), a2, a3] (.int x :: st) σ Q := Ev_step rfl
theorem s_Letters_passDays_12 : Ev sh 43 12 [a0, a1, a2, a3] st σ Q = Ev sh 43 13 [a0, a1, a2, a3] (.int 2 :: st) σ Q := Ev_step rfl
theorem s_Letters_passDays_13 : Ev sh 43 13 [a0, a1, a2, a3] (.int y :: .int x :: st) σ Q = Ev sh 43 14 [a0, a1, a2, a3] (.int (x + y) :: st) σ Q := Ev_step rfl
theorem s_Letters_passDays_14 (h : sh i1 = 3) : Ev sh 43 14 [a0, a1, a2, a3] [.int x2, .ref i1, .int x0] σ Q = Ev sh 32 0 [some (.ref i1), some (.int x2)] [] σ (fun r s => Ev sh 43 17 [a0, a1, a2, a3] (zpush r [.int x0]) s Q) := Ev_callh (zrecv_of (by decide) h) rfl
theorem s_Letters_passDays_17 : Ev sh 43 17 [a0, a1, a2, a3] (.int y :: .int x :: st) σ Q = Ev sh 43 18 [a0, a1, a2, a3] (.int (x + y) :: st) σ Q := Ev_step rfl
theorem s_Letters_passDays_18 : Ev sh 43 18 [a0, a1, a2, a3] (.int x :: st) σ Q = Ev sh 43 19 [a0, a1, zdrop2 a2, some (.int x)] st σ Q := Ev_step rfl
theorem s_Letters_passDays_19 : Ev sh 43 19 [a0, a1, a2, some (.int x)] st σ Q = Ev sh 43 20 [a0, a1, a2, some (.int x)] (.int x :: st) σ Q := Ev_step rfl
theorem s_Letters_passDays_20 : Ev sh 43 20 [a0, a1, a2, a3] st σ Q = Ev sh 43 21 [a0, a1, a2, a3] (.int 1 :: st) σ Q := Ev_step rfl
theorem s_Letters_passDays_21 : Ev sh 43 21 [a0, a1, a2, a3] st σ Q = Ev sh 43 23 [a0, a1, a2, a3] (.int 60 :: st) σ Q := Ev_step rfl
theorem s_Letters_passDays_23 : Ev sh 43 23 [a0, a1, a2, a3] [.int x2, .int x1, .int x0] σ Q = Ev sh 150 0 [some (.int x0), some (.int x1), some (.int x2)] [] σ (fun r s => Ev sh 43 26 [a0, a1, a2, a3] (zpush r []) s Q) := Ev_call rfl
theorem s_Letters_passDays_26 : Ev sh 43 26 [a0, a1, a2, a3] (.int x :: st) σ Q = if x = 0 then Ev sh 43 37 [a0, a1, a2, a3] st σ Q else Ev sh 43 29 [a0, a1, a2, a3] st σ Q := Ev_if rfl
theorem s_Letters_passDays_29 : Ev sh 43 29 [a0, a1, some (.ref i), a3] st σ Q = Ev sh 43 30 [a0, a1, some (.ref i), a3] (.ref i :: st) σ Q := Ev_step rfl
theorem s_Letters_passDays_30 : Ev sh 43 30 [a0, a1, a2, some (.int x)] st σ Q = Ev sh 43 31 [a0, a1, a2, some (.int x)] (.int x :: st) σ Q := Ev_step rfl
theorem s_Letters_passDays_31 (h : sh i0 = 0) : Ev sh 43 31 [a0, a1, a2, a3] [.int x1, .ref i0] σ Q = Ev sh 2 0 [some (.ref i0), some (.int x1)] [] σ (fun r s => Ev sh 43 34 [a0, a1, a2, a3] (zpush r []) s Q) := Ev_callh (zrecv_of (by decide) h) rfl
theorem s_Letters_passDays_34 : Ev sh 43 34 [a0, a1, a2, a3] (.int x :: st) σ Q = if x ≠ 0 then Ev sh 43 39 [a0, a1, a2, a3] st σ Q else Ev sh 43 37 [a0, a1, a2, a3] st σ Q := Ev_if rfl
theorem s_Letters_passDays_37 : Ev sh 43 37 [a0, a1, a2, a3] st σ Q = Ev sh 43 38 [a0, a1, a2, a3] (.int 0 :: st) σ Q := Ev_step rfl
theorem s_Letters_passDays_38 (h : x = 0 ∨ x = 1) : Ev sh 43 38 [a0, a1, a2, a3] [.int x] σ Q = Q (some (.int x)) σ := Ev_rh h rfl
theorem s_Letters_passDays_39 : Ev sh 43 39 [a0, a1, some (.ref i), a3] st σ Q = Ev sh 43 40 [a0, a1, some (.ref i), a3] (.ref i :: st) σ Q := Ev_step rfl
theorem s_Letters_passDays_40 : Ev sh 43 40 [a0, a1, a2, some (.int x)] st σ Q = Ev sh 43 41 [a0, a1, a2, some (.int x)] (.int x :: st) σ Q := Ev_step rfl
theorem s_Letters_passDays_41 (h : sh i0 = 0) : Ev sh 43 41 [a0, a1, a2, a3] [.int x1, .ref i0] σ Q = Ev sh 3 0 [some (.ref i0), some (.int x1), none] [] σ (fun r s => Ev sh 43 44 [a0, a1, a2, a3] (zpush r []) s Q) := Ev_callh (zrecv_of (by decide) h) rfl
theorem s_Letters_passDays_44 : Ev sh 43 44 [a0, a1, a2, a3] st σ Q = Ev sh 43 45 [a0, a1, a2, a3] (.int 1 :: st) σ Q := Ev_step rfl
theorem s_Letters_passDays_45 (h : x = 0 ∨ x = 1) : Ev sh 43 45 [a0, a1, a2, a3] [.int x] σ Q = Q (some (.int x)) σ := Ev_rh h rfl
theorem s_Mason_become_0 : Ev sh 44 0 [some (.ref i), a1] st σ Q = Ev sh 44 1 [some (.ref i), a1] (.ref i :: st) σ Q := Ev_step rfl
theorem s_Mason_become_1 : Ev sh 44 1 [a0, some (.ref i)] st σ Q = Ev sh 44 2 [a0, some (.ref i)] (.ref i :: st) σ Q := Ev_step rfl
theorem s_Mason_become_2 (h : sh i = 4) : Ev sh 44 2 [a0, a1] (.ref i :: st) σ Q = Ev sh 44 5 [a0, a1] (.int (σ i 0) :: st) σ Q := Ev_h h rfl
theorem s_Mason_become_5 (h : sh i = 4) : Ev sh 44 5 [a0, a1] (.int x :: .ref i :: st) σ Q = Ev sh 44 8 [a0, a1] st (zup σ i 0 x) Q := Ev_h h rfl
theorem s_Mason_become_8 : Ev sh 44 8 [some (.ref i), a1] st σ Q = Ev sh 44 9 [some (.ref i), a1] (.ref i :: st) σ Q := Ev_step rfl
theorem s_Mason_become_9 : Ev sh 44 9 [a0, some (.ref i)] st σ Q = Ev sh 44 10 [a0, some (.ref i)] (.ref i :: st) σ Q := Ev_step rfl
theorem s_Mason_become_10 (h : sh i = 4) : Ev sh 44 10 [a0, a1] (.ref i :: st) σ Q = Ev sh 44 13 [a0, a1] (.int (σ i 1) :: st) σ Q := Ev_h h rfl
theorem s_Mason_become_13 (h : sh i = 4) : Ev sh 44 13 [a0, a1] (.int x :: .ref i :: st) σ Q = Ev sh 44 16 [a0, a1] st (zup σ i 1 x) Q := Ev_h h rfl
theorem s_Mason_become_16 : Ev sh 44 16 [some (.ref i), a1] st σ Q = Ev sh 44 17 [some (.ref i), a1] (.ref i :: st) σ Q := Ev_step rfl
theorem s_Mason_become_17 : Ev sh 44 17 [a0, some (.ref i)] st σ Q = Ev sh 44 18 [a0, some (.ref i)] (.ref i :: st) σ Q := Ev_step rfl
theorem s_Mason_become_18 (h : sh i = 4) : Ev sh 44 18 [a0, a1] (.ref i :: st) σ Q = Ev sh 44 21 [a0, a1] (.int (σ i 2) :: st) σ Q := Ev_h h rfl
theorem s_Mason_become_21 (h : sh i = 4) : Ev sh 44 21 [a0, a1] (.int x :: .ref i :: st) σ Q = Ev sh 44 24 [a0, a1] st (zup σ i 2 x) Q := Ev_h h rfl
theorem s_Mason_become_24 : Ev sh 44 24 [a0, a1] [] σ Q = Q none σ := Ev_ret rfl
theorem s_Remedies_bestKindOfOneMore_0 : Ev sh 45 0 [a0, a1, a2, a3, a4, a5, a6] st σ Q = Ev sh 45 2 [a0, a1, a2, a3, a4, a5, a6] (.int (-9) :: st) σ Q := Ev_step rfl
theorem s_Remedies_bestKindOfOneMore_2 : Ev sh 45 2 [a0, a1, a2, a3, a4, a5, a6] (.int x :: st) σ Q = Ev sh 45 3 [a0, zdrop2 a1, some (.int x), a3, a4, a5, a6] st σ Q := Ev_step rfl
theorem s_Remedies_bestKindOfOneMore_3 : Ev sh 45 3 [a0, a1, a2, a3, a4, a5, a6] st σ Q = Ev sh 45 4 [a0, a1, a2, a3, a4, a5, a6] (.int 0 :: st) σ Q := Ev_step rfl
theorem s_Remedies_bestKindOfOneMore_4 : Ev sh 45 4 [a0, a1, a2, a3, a4, a5, a6] (.int x :: st) σ Q = Ev sh 45 5 [a0, a1, zdrop2 a2, some (.int x), a4, a5, a6] st σ Q := Ev_step rfl
theorem s_Remedies_bestKindOfOneMore_5 : Ev sh 45 5 [a0, a1, a2, a3, a4, a5, a6] st σ Q = Ev sh 45 6 [a0, a1, a2, a3, a4, a5, a6] (.int 0 :: st) σ Q := Ev_step rfl
theorem s_Remedies_bestKindOfOneMore_6 : Ev sh 45 6 [a0, a1, a2, a3, a4, a5, a6] (.int x :: st) σ Q = Ev sh 45 8 [a0, a1, a2, zdrop2 a3, some (.int x), a5, a6] st σ Q := Ev_step rfl
theorem s_Remedies_bestKindOfOneMore_8 : Ev sh 45 8 [a0, a1, a2, a3, some (.int x), a5, a6] st σ Q = Ev sh 45 10 [a0, a1, a2, a3, some (.int x), a5, a6] (.int x :: st) σ Q := Ev_step rfl
theorem s_Remedies_bestKindOfOneMore_10 : Ev sh 45 10 [a0, a1, a2, a3, a4, a5, a6] st σ Q = Ev sh 45 12 [a0, a1, a2, a3, a4, a5, a6] (.int 6 :: st) σ Q := Ev_step rfl
theorem s_Remedies_bestKindOfOneMore_12 : Ev sh 45 12 [a0, a1, a2, a3, a4, a5, a6] (.int y :: .int x :: st) σ Q = if y ≤ x then Ev sh 45 97 [a0, a1, a2, a3, a4, a5, a6] st σ Q else Ev sh 45 15 [a0, a1, a2, a3, a4, a5, a6] st σ Q := Ev_if rfl
theorem s_Remedies_bestKindOfOneMore_15 : Ev sh 45 15 [some (.ref i), a1, a2, a3, a4, a5, a6] st σ Q = Ev sh 45 16 [some (.ref i), a1, a2, a3, a4, a5, a6] (.ref i :: st) σ Q := Ev_step rfl
theorem s_Remedies_bestKindOfOneMore_16 (h : sh i = 5) : Ev sh 45 16 [a0, a1, a2, a3, a4, a5, a6] (.ref i :: st) σ Q = Ev sh 45 19 [a0, a1, a2, a3, a4, a5, a6] (.ref 37 :: st) σ Q := Ev_h h rfl
theorem s_Remedies_bestKindOfOneMore_19 : Ev sh 45 19 [some (.ref i), a1, a2, a3, a4, a5, a6] st σ Q = Ev sh 45 20 [some (.ref i), a1, a2, a3, a4, a5, a6] (.ref i :: st) σ Q := Ev_step rfl
theorem s_Remedies_bestKindOfOneMore_20 (h : sh i = 5) : Ev sh 45 20 [a0, a1, a2, a3, a4, a5, a6] (.ref i :: st) σ Q = Ev sh 45 23 [a0, a1, a2, a3, a4, a5, a6] (.ref 2 :: st) σ Q := Ev_h h rfl
theorem s_Remedies_bestKindOfOneMore_23 (h : sh i0 = 7) : Ev sh 45 23 [a0, a1, a2, a3, a4, a5, a6] [.ref i1, .ref i0] σ Q = Ev sh 63 0 [some (.ref i0), some (.ref i1), none] [] σ (fun r s => Ev sh 45 26 [a0, a1, a2, a3, a4, a5, a6] (zpush r []) s Q) := Ev_callh (zrecv_of (by decide) h) rfl
theorem s_Remedies_bestKindOfOneMore_26 : Ev sh 45 26 [some (.ref i), a1, a2, a3, a4, a5, a6] st σ Q = Ev sh 45 27 [some (.ref i), a1, a2, a3, a4, a5, a6] (.ref i :: st) σ Q := Ev_step rfl
theorem s_Remedies_bestKindOfOneMore_27 (h : sh i = 5) : Ev sh 45 27 [a0, a1, a2, a3, a4, a5, a6] (.ref i :: st) σ Q = Ev sh 45 30 [a0, a1, a2, a3, a4, a5, a6] (.ref 37 :: st) σ Q := Ev_h h rfl
theorem s_Remedies_bestKindOfOneMore_30 : Ev sh 45 30 [a0, a1, a2, a3, some (.int x), a5, a6] st σ Q = Ev sh 45 32 [a0, a1, a2, a3, some (.int x), a5, a6] (.int x :: st) σ Q := Ev_step rfl
theorem s_Remedies_bestKindOfOneMore_32 : Ev sh 45 32 [a0, a1, a2, a3, a4, a5, a6] st σ Q = Ev sh 45 33 [a0, a1, a2, a3, a4, a5, a6] (.int 5 :: st) σ Q := Ev_step rfl
theorem s_Remedies_bestKindOfOneMore_33 : Ev sh 45 33 [a0, some (.int x), a2, a3, a4, a5, a6] st σ Q = Ev sh 45 34 [a0, some (.int x), a2, a3, a4, a5, a6] (.int x :: st) σ Q := Ev_step rfl
theorem s_Remedies_bestKindOfOneMore_34 (h : sh i0 = 7) : Ev sh 45 34 [a0, a1, a2, a3, a4, a5, a6] [.int x3, .int x2, .int x1, .ref i0] σ Q = Ev sh 64 0 [some (.ref i0), some (.int x1), some (.int x2), some (.int x3)] [] σ (fun r s => Ev sh 45 37 [a0, a1, a2, a3, a4, a5, a6] (zpush r []) s Q) := Ev_callh (zrecv_of (by decide) h) rfl
theorem s_Remedies_bestKindOfOneMore_37 : Ev sh 45 37 [some (.ref i), a1, a2, a3, a4, a5, a6] st σ Q = Ev sh 45 38 [some (.ref i), a1, a2, a3, a4, a5, a6] (.ref i :: st) σ Q := Ev_step rfl
theorem s_Remedies_bestKindOfOneMore_38 (h : sh i = 5) : Ev sh 45 38 [a0, a1, a2, a3, a4, a5, a6] (.ref i :: st) σ Q = Ev sh 45 41 [a0, a1, a2, a3, a4, a5, a6] (.ref 37 :: st) σ Q := Ev_h h rfl
theorem s_Remedies_bestKindOfOneMore_41 (h : sh i0 = 7) : Ev sh 45 41 [a0, a1, a2, a3, a4, a5, a6] [.ref i0] σ Q = Ev sh 91 0 [some (.ref i0), none, none] [] σ (fun r s => Ev sh 45 44 [a0, a1, a2, a3, a4, a5, a6] (zpush r []) s Q) := Ev_callh (zrecv_of (by decide) h) rfl
theorem s_Remedies_bestKindOfOneMore_44 : Ev sh 45 44 [a0, a1, a2, a3, a4, a5, a6] (.int x :: st) σ Q = Ev sh 45 46 [a0, a1, a2, a3, zdrop2 a4, some (.int x), a6] st σ Q := Ev_step rfl
theorem s_Remedies_bestKindOfOneMore_46 : Ev sh 45 46 [some (.ref i), a1, a2, a3, a4, a5, a6] st σ Q = Ev sh 45 47 [some (.ref i), a1, a2, a3, a4, a5, a6] (.ref i :: st) σ Q := Ev_step rfl
theorem s_Remedies_bestKindOfOneMore_47 (h : sh i = 5) : Ev sh 45 47 [a0, a1, a2, a3, a4, a5, a6] (.ref i :: st) σ Q = Ev sh 45 50 [a0, a1, a2, a3, a4, a5, a6] (.ref 37 :: st) σ Q := Ev_h h rfl
theorem s_Remedies_bestKindOfOneMore_50 (h : sh i0 = 7) : Ev sh 45 50 [a0, a1, a2, a3, a4, a5, a6] [.ref i0] σ Q = Ev sh 79 0 [some (.ref i0)] [] σ (fun r s => Ev sh 45 53 [a0, a1, a2, a3, a4, a5, a6] (zpush r []) s Q) := Ev_callh (zrecv_of (by decide) h) rfl
theorem s_Remedies_bestKindOfOneMore_53 : Ev sh 45 53 [a0, a1, a2, a3, a4, a5, a6] [.int x] σ Q = Ev sh 45 56 [a0, a1, a2, a3, a4, a5, a6] [.int (if 0 ≤ x then x else 0 - x)] σ Q := Ev_step rfl
theorem s_Remedies_bestKindOfOneMore_56 : Ev sh 45 56 [a0, a1, a2, a3, a4, a5, a6] st σ Q = Ev sh 45 58 [a0, a1, a2, a3, a4, a5, a6] (.int 6 :: st) σ Q := Ev_step rfl
theorem s_Remedies_bestKindOfOneMore_58 : Ev sh 45 58 [a0, a1, a2, a3, a4, a5, a6] (.int y :: .int x :: st) σ Q = if y < x then Ev sh 45 65 [a0, a1, a2, a3, a4, a5, a6] st σ Q else Ev sh 45 61 [a0, a1, a2, a3, a4, a5, a6] st σ Q := Ev_if rfl
theorem s_Remedies_bestKindOfOneMore_61 : Ev sh 45 61 [a0, a1, a2, a3, a4, a5, a6] st σ Q = Ev sh 45 62 [a0, a1, a2, a3, a4, a5, a6] (.int 1 :: st) σ Q := Ev_step rfl
theorem s_Remedies_bestKindOfOneMore_62 : Ev sh 45 62 [a0, a1, a2, a3, a4, a5, a6] st σ Q = Ev sh 45 66 [a0, a1, a2, a3, a4, a5, a6] st σ Q := Ev_step rfl
theorem s_Remedies_bestKindOfOneMore_65 : Ev sh 45 65 [a0, a1, a2, a3, a4, a5, a6] st σ Q = Ev sh 45 66 [a0, a1, a2, a3, a4, a5, a6] (.int 0 :: st) σ Q := Ev_step rfl
theorem s_Remedies_bestKindOfOneMore_66 : Ev sh 45 66 [a0, a1, a2, a3, a4, a5, a6] (.int x :: st) σ Q = Ev sh 45 68 [a0, a1, a2, a3, a4, zdrop2 a5, some (.int x)] st σ Q := Ev_step rfl
theorem s_Remedies_bestKindOfOneMore_68 : Ev sh 45 68 [a0, a1, a2, a3, a4, a5, some (.int x)] st σ Q = Ev sh 45 70 [a0, a1, a2, a3, a4, a5, some (.int x)] (.int x :: st) σ Q := Ev_step rfl
theorem s_Remedies_bestKindOfOneMore_70 : Ev sh 45 70 [a0, a1, a2, a3, a4, a5, a6] (.int x :: st) σ Q = if x = 0 then Ev sh 45 91 [a0, a1, a2, a3, a4, a5, a6] st σ Q else Ev sh 45 73 [a0, a1, a2, a3, a4, a5, a6] st σ Q := Ev_if rfl
theorem s_Remedies_bestKindOfOneMore_73 : Ev sh 45 73 [a0, a1, some (.int x), a3, a4, a5, a6] st σ Q = Ev sh 45 74 [a0, a1, some (.int x), a3, a4, a5, a6] (.int x :: st) σ Q := Ev_step rfl
theorem s_Remedies_bestKindOfOneMore_74 : Ev sh 45 74 [a0, a1, a2, a3, a4, a5, a6] st σ Q = Ev sh 45 76 [a0, a1, a2, a3, a4, a5, a6] (.int (-9) :: st) σ Q := Ev_step rfl
theorem s_Remedies_bestKindOfOneMore_76 : Ev sh 45 76 [a0, a1, a2, a3, a4, a5, a6] (.int y :: .int x :: st) σ Q = if x = y then Ev sh 45 85 [a0, a1, a2, a3, a4, a5, a6] st σ Q else Ev sh 45 79 [a0, a1, a2, a3, a4, a5, a6] st σ Q := Ev_if rfl
theorem s_Remedies_bestKindOfOneMore_79 : Ev sh 45 79 [a0, a1, a2, a3, a4, some (.int x), a6] st σ Q = Ev sh 45 81 [a0, a1, a2, a3, a4, some (.int x), a6] (.int x :: st) σ Q := Ev_step rfl
theorem s_Remedies_bestKindOfOneMore_81 : Ev sh 45 81 [a0, a1, a2, some (.int x), a4, a5, a6] st σ Q = Ev sh 45 82 [a0, a1, a2, some (.int x), a4, a5, a6] (.int x :: st) σ Q := Ev_step rfl
theorem s_Remedies_bestKindOfOneMore_82 : Ev sh 45 82 [a0, a1, a2, a3, a4, a5, a6] (.int y :: .int x :: st) σ Q = if x ≤ y then Ev sh 45 91 [a0, a1, a2, a3, a4, a5, a6] st σ Q else Ev sh 45 85 [a0, a1, a2, a3, a4, a5, a6] st σ Q := Ev_if rfl
theorem s_Remedies_bestKindOfOneMore_85 : Ev sh 45 85 [a0, a1, a2, a3, some (.int x), a5, a6] st σ Q = Ev sh 45 87 [a0, a1, a2, a3, some (.int x), a5, a6] (.int x :: st) σ Q := Ev_step rfl
theorem s_Remedies_bestKindOfOneMore_87 : Ev sh 45 87 [a0, a1, a2, a3, a4, a5, a6] (.int x :: st) σ Q = Ev sh 45 88 [a0, zdrop2 a1, some (.int x), a3, a4, a5, a6] st σ Q := Ev_step rfl
theorem s_Remedies_bestKindOfOneMore_88 : Ev sh 45 88 [a0, a1, a2, a3, a4, some (.int x), a6] st σ Q = Ev sh 45 90 [a0, a1, a2, a3, a4, some (.int x), a6] (.int x :: st) σ Q := Ev_step rfl
theorem s_Remedies_bestKindOfOneMore_90 : Ev sh 45 90 [a0, a1, a2, a3, a4, a5, a6] (.int x :: st) σ Q = Ev sh 45 91 [a0, a1, zdrop2 a2, some (.int x), a4, a5, a6] st σ Q := Ev_step rfl
theorem s_Remedies_bestKindOfOneMore_91 : Ev sh 45 91 [a0, a1, a2, a3, some (.int x), a5, a6] st σ Q = Ev sh 45 94 [a0, a1, a2, a3, some (.int (x + 1)), a5, a6] st σ Q := Ev_step rfl
theorem s_Remedies_bestKindOfOneMore_94 : Ev sh 45 94 [a0, a1, a2, a3, a4, a5, a6] st σ Q = Ev sh 45 8 [a0, a1, a2, a3, a4, a5, a6] st σ Q := Ev_step rfl
theorem s_Remedies_bestKindOfOneMore_97 : Ev sh 45 97 [a0, a1, some (.int x), a3, a4, a5, a6] st σ Q = Ev sh 45 98 [a0, a1, some (.int x), a3, a4, a5, a6] (.int x :: st) σ Q := Ev_step rfl
theorem s_Remedies_bestKindOfOneMore_98 : Ev sh 45 98 [a0, a1, a2, a3, a4, a5, a6] [.int x] σ Q = Q (some (.int x)) σ := Ev_ret rfl
theorem s_Remedies_firstMending_0 : Ev sh 46 0 [some (.ref i), a1, a2] st σ Q = Ev sh 46 1 [some (.ref i), a1, a2] (.ref i :: st) σ Q := Ev_step rfl
theorem s_Remedies_firstMending_1 (h : sh i = 5) : Ev sh 46 1 [a0, a1, a2] (.ref i :: st) σ Q = Ev sh 46 4 [a0, a1, a2] (.ref 2 :: st) σ Q := Ev_h h rfl
theorem s_Remedies_firstMending_4 (h : sh i0 = 7) : Ev sh 46 4 [a0, a1, a2] [.ref i0] σ Q = Ev sh 90 0 [some (.ref i0)] [] σ (fun r s => Ev sh 46 7 [a0, a1, a2] (zpush r []) s Q) := Ev_callh (zrecv_of (by decide) h) rfl
theorem s_Remedies_firstMending_7 : Ev sh 46 7 [a0, a1, a2] (.int x :: st) σ Q = if x = 0 then Ev sh 46 13 [a0, a1, a2] st σ Q else Ev sh 46 10 [a0, a1, a2] st σ Q := Ev_if rfl
theorem s_Remedies_firstMending_10 : Ev sh 46 10 [a0, a1, a2] st σ Q = Ev sh 46 12 [a0, a1, a2] (.int (-9) :: st) σ Q := Ev_step rfl
theorem s_Remedies_firstMending_12 : Ev sh 46 12 [a0, a1, a2] [.int x] σ Q = Q (some (.int x)) σ := Ev_ret rfl
theorem s_Remedies_firstMending_13 : Ev sh 46 13 [a0, a1, a2] st σ Q = Ev sh 46 14 [a0, a1, a2] (.int 0 :: st) σ Q := Ev_step rfl
theorem s_Remedies_firstMending_14 : Ev sh 46 14 [a0, a1, a2] (.int x :: st) σ Q = Ev sh 46 15 [zdrop2 a0, some (.int x), a2] st σ Q := Ev_step rfl
theorem s_Remedies_firstMending_15 : Ev sh 46 15 [a0, some (.int x), a2] st σ Q = Ev sh 46 16 [a0, some (.int x), a2] (.int x :: st) σ Q := Ev_step rfl
theorem s_Remedies_firstMending_16 : Ev sh 46 16 [some (.ref i), a1, a2] st σ Q = Ev sh 46 17 [some (.ref i), a1, a2] (.ref i :: st) σ Q := Ev_step rfl
theorem s_Remedies_firstMending_17 (h : sh i = 5) : Ev sh 46 17 [a0, a1, a2] (.ref i :: st) σ Q = Ev sh 46 20 [a0, a1, a2] (.ref 2 :: st) σ Q := Ev_h h rfl
theorem s_Remedies_firstMending_20 (h : sh i1 = 7) : Ev sh 46 20 [a0, a1, a2] [.ref i1, .int x0] σ Q = Ev sh 70 0 [some (.ref i1)] [] σ (fun r s => Ev sh 46 23 [a0, a1, a2] (zpush r [.int x0]) s Q) := Ev_callh (zrecv_of (by decide) h) rfl
theorem s_Remedies_firstMending_23 : Ev sh 46 23 [a0, a1, a2] (.int y :: .int x :: st) σ Q = if y ≤ x then Ev sh 46 91 [a0, a1, a2] st σ Q else Ev sh 46 26 [a0, a1, a2] st σ Q := Ev_if rfl
theorem s_Remedies_firstMending_26 : Ev sh 46 26 [a0, a1, a2] st σ Q = Ev sh 46 27 [a0, a1, a2] (.int 0 :: st) σ Q := Ev_step rfl
theorem s_Remedies_firstMending_27 : Ev sh 46 27 [a0, a1, a2] (.int x :: st) σ Q = Ev sh 46 28 [a0, zdrop2 a1, some (.int x)] st σ Q := Ev_step rfl
theorem s_Remedies_firstMending_28 : Ev sh 46 28 [a0, a1, some (.int x)] st σ Q = Ev sh 46 29 [a0, a1, some (.int x)] (.int x :: st) σ Q := Ev_step rfl
theorem s_Remedies_firstMending_29 : Ev sh 46 29 [a0, a1, a2] st σ Q = Ev sh 46 31 [a0, a1, a2] (.int 6 :: st) σ Q := Ev_step rfl
theorem s_Remedies_firstMending_31 : Ev sh 46 31 [a0, a1, a2] (.int y :: .int x :: st) σ Q = if y ≤ x then Ev sh 46 85 [a0, a1, a2] st σ Q else Ev sh 46 34 [a0, a1, a2] st σ Q := Ev_if rfl
theorem s_Remedies_firstMending_34 : Ev sh 46 34 [some (.ref i), a1, a2] st σ Q = Ev sh 46 35 [some (.ref i), a1, a2] (.ref i :: st) σ Q := Ev_step rfl
theorem s_Remedies_firstMending_35 (h : sh i = 5) : Ev sh 46 35 [a0, a1, a2] (.ref i :: st) σ Q = Ev sh 46 38 [a0, a1, a2] (.ref 37 :: st) σ Q := Ev_h h rfl
theorem s_Remedies_firstMending_38 : Ev sh 46 38 [some (.ref i), a1, a2] st σ Q = Ev sh 46 39 [some (.ref i), a1, a2] (.ref i :: st) σ Q := Ev_step rfl
theorem s_Remedies_firstMending_39 (h : sh i = 5) : Ev sh 46 39 [a0, a1, a2] (.ref i :: st) σ Q = Ev sh 46 42 [a0, a1, a2] (.ref 2 :: st) σ Q := Ev_h h rfl
theorem s_Remedies_firstMending_42 (h : sh i0 = 7) : Ev sh 46 42 [a0, a1, a2] [.ref i1, .ref i0] σ Q = Ev sh 63 0 [some (.ref i0), some (.ref i1), none] [] σ (fun r s => Ev sh 46 45 [a0, a1, a2] (zpush r []) s Q) := Ev_callh (zrecv_of (by decide) h) rfl
theorem s_Remedies_firstMending_45 : Ev sh 46 45 [some (.ref i), a1, a2] st σ Q = Ev sh 46 46 [some (.ref i), a1, a2] (.ref i :: st) σ Q := Ev_step rfl
theorem s_Remedies_firstMending_46 (h : sh i = 5) : Ev sh 46 46 [a0, a1, a2] (.ref i :: st) σ Q = Ev sh 46 49 [a0, a1, a2] (.ref 37 :: st) σ Q := Ev_h h rfl
theorem s_Remedies_firstMending_49 : Ev sh 46 49 [a0, some (.int x), a2] st σ Q = Ev sh 46 50 [a0, some (.int x), a2] (.int x :: st) σ Q := Ev_step rfl
theorem s_Remedies_firstMending_50 : Ev sh 46 50 [a0, a1, some (.int x)] st σ Q = Ev sh 46 51 [a0, a1, some (.int x)] (.int x :: st) σ Q := Ev_step rfl
theorem s_Remedies_firstMending_51 : Ev sh 46 51 [some (.ref i), a1, a2] st σ Q = Ev sh 46 52 [some (.ref i), a1, a2] (.ref i :: st) σ Q := Ev_step rfl
theorem s_Remedies_firstMending_52 (h : sh i = 5) : Ev sh 46 52 [a0, a1, a2] (.ref i :: st) σ Q = Ev sh 46 55 [a0, a1, a2] (.ref 2 :: st) σ Q := Ev_h h rfl
theorem s_Remedies_firstMending_55 : Ev sh 46 55 [a0, some (.int x), a2] st σ Q = Ev sh 46 56 [a0, some (.int x), a2] (.int x :: st) σ Q := Ev_step rfl
theorem s_Remedies_firstMending_56 (h : sh i3 = 7) : Ev sh 46 56 [a0, a1, a2] [.int x4, .ref i3, .int x2, .int x1, .ref i0] σ Q = Ev sh 74 0 [some (.ref i3), some (.int x4)] [] σ (fun r s => Ev sh 46 59 [a0, a1, a2] (zpush r [.int x2, .int x1, .ref i0]) s Q) := Ev_callh (zrecv_of (by decide) h) rfl
theorem s_Remedies_firstMending_59 (h : sh i0 = 7) : Ev sh 46 59 [a0, a1, a2] [.int x3, .int x2, .int x1, .ref i0] σ Q = Ev sh 65 0 [some (.ref i0), some (.int x1), some (.int x2), some (.int x3)] [] σ (fun r s => Ev sh 46 62 [a0, a1, a2] (zpush r []) s Q) := Ev_callh (zrecv_of (by decide) h) rfl
theorem s_Remedies_firstMending_62 : Ev sh 46 62 [some (.ref i), a1, a2] st σ Q = Ev sh 46 63 [some (.ref i), a1, a2] (.ref i :: st) σ Q := Ev_step rfl
theorem s_Remedies_firstMending_63 (h : sh i = 5) : Ev sh 46 63 [a0, a1, a2] (.ref i :: st) σ Q = Ev sh 46 66 [a0, a1, a2] (.ref 37 :: st) σ Q := Ev_h h rfl
theorem s_Remedies_firstMending_66 (h : sh i0 = 7) : Ev sh 46 66 [a0, a1, a2] [.ref i0] σ Q = Ev sh 90 0 [some (.ref i0)] [] σ (fun r s => Ev sh 46 69 [a0, a1, a2] (zpush r []) s Q) := Ev_callh (zrecv_of (by decide) h) rfl
theorem s_Remedies_firstMending_69 : Ev sh 46 69 [a0, a1, a2] (.int x :: st) σ Q = if x = 0 then Ev sh 46 79 [a0, a1, a2] st σ Q else Ev sh 46 72 [a0, a1, a2] st σ Q := Ev_if rfl
theorem s_Remedies_firstMending_72 : Ev sh 46 72 [a0, a1, a2] st σ Q = Ev sh 46 74 [a0, a1, a2] (.int 10 :: st) σ Q := Ev_step rfl
theorem s_Remedies_firstMending_74 : Ev sh 46 74 [a0, some (.int x), a2] st σ Q = Ev sh 46 75 [a0, some (.int x), a2] (.int x :: st) σ Q := Ev_step rfl
theorem s_Remedies_firstMending_75 : Ev sh 46 75 [a0, a1, a2] (.int y :: .int x :: st) σ Q = Ev sh 46 76 [a0, a1, a2] (.int (x * y) :: st) σ Q := Ev_step rfl
theorem s_Remedies_firstMending_76 : Ev sh 46 76 [a0, a1, some (.int x)] st σ Q = Ev sh 46 77 [a0, a1, some (.int x)] (.int x :: st) σ Q := Ev_step rfl
theorem s_Remedies_firstMending_77 : Ev sh 46 77 [a0, a1, a2] (.int y :: .int x :: st) σ Q = Ev sh 46 78 [a0, a1, a2] (.int (x + y) :: st) σ Q := Ev_step rfl
theorem s_Remedies_firstMending_78 : Ev sh 46 78 [a0, a1, a2] [.int x] σ Q = Q (some (.int x)) σ := Ev_ret rfl
theorem s_Remedies_firstMending_79 : Ev sh 46 79 [a0, a1, some (.int x)] st σ Q = Ev sh 46 82 [a0, a1, some (.int (x + 1))] st σ Q := Ev_step rfl
theorem s_Remedies_firstMending_82 : Ev sh 46 82 [a0, a1, a2] st σ Q = Ev sh 46 28 [a0, a1, a2] st σ Q := Ev_step rfl
theorem s_Remedies_firstMending_85 : Ev sh 46 85 [a0, some (.int x), a2] st σ Q = Ev sh 46 88 [a0, some (.int (x + 1)), a2] st σ Q := Ev_step rfl
theorem s_Remedies_firstMending_88 : Ev sh 46 88 [a0, a1, a2] st σ Q = Ev sh 46 15 [a0, a1, a2] st σ Q := Ev_step rfl
theorem s_Remedies_firstMending_91 : Ev sh 46 91 [a0, a1, a2] st σ Q = Ev sh 46 93 [a0, a1, a2] (.int (-9) :: st) σ Q := Ev_step rfl
theorem s_Remedies_firstMending_93 : Ev sh 46 93 [a0, a1, a2] [.int x] σ Q = Q (some (.int x)) σ := Ev_ret rfl
theorem s_Remedies_fewestToPlain_0 : Ev sh 47 0 [some (.ref i), a1, a2] st σ Q = Ev sh 47 1 [some (.ref i), a1, a2] (.ref i :: st) σ Q := Ev_step rfl
theorem s_Remedies_fewestToPlain_1 (h : sh i = 5) : Ev sh 47 1 [a0, a1, a2] (.ref i :: st) σ Q = Ev sh 47 4 [a0, a1, a2] (.ref 37 :: st) σ Q := Ev_h h rfl
theorem s_Remedies_fewestToPlain_4 : Ev sh 47 4 [some (.ref i), a1, a2] st σ Q = Ev sh 47 5 [some (.ref i), a1, a2] (.ref i :: st) σ Q := Ev_step rfl
theorem s_Remedies_fewestToPlain_5 (h : sh i = 5) : Ev sh 47 5 [a0, a1, a2] (.ref i :: st) σ Q = Ev sh 47 8 [a0, a1, a2] (.ref 2 :: st) σ Q := Ev_h h rfl
theorem s_Remedies_fewestToPlain_8 (h : sh i0 = 7) : Ev sh 47 8 [a0, a1, a2] [.ref i1, .ref i0] σ Q = Ev sh 63 0 [some (.ref i0), some (.ref i1), none] [] σ (fun r s => Ev sh 47 11 [a0, a1, a2] (zpush r []) s Q) := Ev_callh (zrecv_of (by decide) h) rfl
theorem s_Remedies_fewestToPlain_11 : Ev sh 47 11 [a0, a1, a2] st σ Q = Ev sh 47 12 [a0, a1, a2] (.int 0 :: st) σ Q := Ev_step rfl
theorem s_Remedies_fewestToPlain_12 : Ev sh 47 12 [a0, a1, a2] (.int x :: st) σ Q = Ev sh 47 13 [zdrop2 a0, some (.int x), a2] st σ Q := Ev_step rfl
theorem s_Remedies_fewestToPlain_13 : Ev sh 47 13 [a0, some (.int x), a2] st σ Q = Ev sh 47 14 [a0, some (.int x), a2] (.int x :: st) σ Q := Ev_step rfl
theorem s_Remedies_fewestToPlain_14 : Ev sh 47 14 [some (.ref i), a1, a2] st σ Q = Ev sh 47 15 [some (.ref i), a1, a2] (.ref i :: st) σ Q := Ev_step rfl
theorem s_Remedies_fewestToPlain_15 (h : sh i = 5) : Ev sh 47 15 [a0, a1, a2] (.ref i :: st) σ Q = Ev sh 47 18 [a0, a1, a2] (.ref 42 :: st) σ Q := Ev_h h rfl
theorem s_Remedies_fewestToPlain_18 (h : i < 1000) (h2 : 100 ≤ sh i) : Ev sh 47 18 [a0, a1, a2] (.ref i :: st) σ Q = Ev sh 47 19 [a0, a1, a2] (.int (nI (sh i - 100)) :: st) σ Q := by rw [Ev_h (c := i < 1000 ∧ 100 ≤ sh i) ⟨h, h2⟩]; exact (if_pos h).trans ((if_pos h2).trans (if_pos ⟨h, h2⟩).symm)
theorem s_Remedies_fewestToPlain_19 : Ev sh 47 19 [a0, a1, a2] (.int y :: .int x :: st) σ Q = if y ≤ x then Ev sh 47 49 [a0, a1, a2] st σ Q else Ev sh 47 22 [a0, a1, a2] st σ Q := Ev_if rfl
theorem s_Remedies_fewestToPlain_22 : Ev sh 47 22 [some (.ref i), a1, a2] st σ Q = Ev sh 47 23 [some (.ref i), a1, a2] (.ref i :: st) σ Q := Ev_step rfl
theorem s_Remedies_fewestToPlain_23 (h : sh i = 5) : Ev sh 47 23 [a0, a1, a2] (.ref i :: st) σ Q = Ev sh 47 26 [a0, a1, a2] (.ref 42 :: st) σ Q := Ev_h h rfl
theorem s_Remedies_fewestToPlain_26 : Ev sh 47 26 [a0, some (.int x), a2] st σ Q = Ev sh 47 27 [a0, some (.int x), a2] (.int x :: st) σ Q := Ev_step rfl
theorem s_Remedies_fewestToPlain_27 : Ev sh 47 27 [a0, some (.int x), a2] st σ Q = Ev sh 47 28 [a0, some (.int x), a2] (.int x :: st) σ Q := Ev_step rfl
theorem s_Remedies_fewestToPlain_28 : Ev sh 47 28 [a0, a1, a2] st σ Q = Ev sh 47 29 [a0, a1, a2] (.int 0 :: st) σ Q := Ev_step rfl
theorem s_Remedies_fewestToPlain_29 : Ev sh 47 29 [a0, a1, a2] st σ Q = Ev sh 47 30 [a0, a1, a2] (.int 0 :: st) σ Q := Ev_step rfl
theorem s_Remedies_fewestToPlain_30 : Ev sh 47 30 [a0, a1, a2] [.int x4, .int x3, .int x2, .int x1, .ref i0] σ Q = Ev sh 51 0 [some (.int x3), some (.int x4)] [] σ (fun r s => Ev sh 47 33 [a0, a1, a2] (zpush r [.int x2, .int x1, .ref i0]) s Q) := Ev_call rfl
theorem s_Remedies_fewestToPlain_33 : Ev sh 47 33 [a0, a1, a2] (.int y :: .int x :: st) σ Q = if x ≠ y then Ev sh 47 40 [a0, a1, a2] st σ Q else Ev sh 47 36 [a0, a1, a2] st σ Q := Ev_if rfl
theorem s_Remedies_fewestToPlain_36 : Ev sh 47 36 [a0, a1, a2] st σ Q = Ev sh 47 37 [a0, a1, a2] (.int 0 :: st) σ Q := Ev_step rfl
theorem s_Remedies_fewestToPlain_37 : Ev sh 47 37 [a0, a1, a2] st σ Q = Ev sh 47 42 [a0, a1, a2] st σ Q := Ev_step rfl
theorem s_Remedies_fewestToPlain_40 : Ev sh 47 40 [a0, a1, a2] st σ Q = Ev sh 47 42 [a0, a1, a2] (.int 1073741824 :: st) σ Q := Ev_step rfl
theorem s_Remedies_fewestToPlain_42 (h : zin x (sh i) = true) : Ev sh 47 42 [a0, a1, a2] (.int y :: .int x :: .ref i :: st) σ Q = Ev sh 47 43 [a0, a1, a2] st (zup σ i x.toNatClampNeg y) Q := Ev_h h rfl
theorem s_Remedies_fewestToPlain_43 : Ev sh 47 43 [a0, some (.int x), a2] st σ Q = Ev sh 47 46 [a0, some (.int (x + 1)), a2] st σ Q := Ev_step rfl
theorem s_Remedies_fewestToPlain_46 : Ev sh 47 46 [a0, a1, a2] st σ Q = Ev sh 47 13 [a0, a1, a2] st σ Q := Ev_step rfl
theorem s_Remedies_fewestToPlain_49 : Ev sh 47 49 [a0, a1, a2] st σ Q = Ev sh 47 50 [a0, a1, a2] (.int 0 :: st) σ Q := Ev_step rfl
theorem s_Remedies_fewestToPlain_50 : Ev sh 47 50 [a0, a1, a2] (.int x :: st) σ Q = Ev sh 47 51 [zdrop2 a0, some (.int x), a2] st σ Q := Ev_step rfl
theorem s_Remedies_fewestToPlain_51 : Ev sh 47 51 [a0, some (.int x), a2] st σ Q = Ev sh 47 52 [a0, some (.int x), a2] (.int x :: st) σ Q := Ev_step rfl
theorem s_Remedies_fewestToPlain_52 : Ev sh 47 52 [some (.ref i), a1, a2] st σ Q = Ev sh 47 53 [some (.ref i), a1, a2] (.ref i :: st) σ Q := Ev_step rfl
theorem s_Remedies_fewestToPlain_53 (h : sh i = 5) : Ev sh 47 53 [a0, a1, a2] (.ref i :: st) σ Q = Ev sh 47 56 [a0, a1, a2] (.ref 2 :: st) σ Q := Ev_h h rfl
theorem s_Remedies_fewestToPlain_56 (h : sh i1 = 7) : Ev sh 47 56 [a0, a1, a2] [.ref i1, .int x0] σ Q = Ev sh 70 0 [some (.ref i1)] [] σ (fun r s => Ev sh 47 59 [a0, a1, a2] (zpush r [.int x0]) s Q) := Ev_callh (zrecv_of (by decide) h) rfl
theorem s_Remedies_fewestToPlain_59 : Ev sh 47 59 [a0, a1, a2] (.int y :: .int x :: st) σ Q = if y ≤ x then Ev sh 47 73 [a0, a1, a2] st σ Q else Ev sh 47 62 [a0, a1, a2] st σ Q := Ev_if rfl
theorem s_Remedies_fewestToPlain_62 : Ev sh 47 62 [some (.ref i), a1, a2] st σ Q = Ev sh 47 63 [some (.ref i), a1, a2] (.ref i :: st) σ Q := Ev_step rfl
theorem s_Remedies_fewestToPlain_63 : Ev sh 47 63 [a0, some (.int x), a2] st σ Q = Ev sh 47 64 [a0, some (.int x), a2] (.int x :: st) σ Q := Ev_step rfl
theorem s_Remedies_fewestToPlain_64 (h : sh i0 = 5) : Ev sh 47 64 [a0, a1, a2] [.int x1, .ref i0] σ Q = Ev sh 48 0 [some (.ref i0), some (.int x1), none, none] [] σ (fun r s => Ev sh 47 67 [a0, a1, a2] (zpush r []) s Q) := Ev_callh (zrecv_of (by decide) h) rfl
theorem s_Remedies_fewestToPlain_67 : Ev sh 47 67 [a0, some (.int x), a2] st σ Q = Ev sh 47 70 [a0, some (.int (x + 1)), a2] st σ Q := Ev_step rfl
theorem s_Remedies_fewestToPlain_70 : Ev sh 47 70 [a0, a1, a2] st σ Q = Ev sh 47 51 [a0, a1, a2] st σ Q := Ev_step rfl
theorem s_Remedies_fewestToPlain_73 : Ev sh 47 73 [a0, a1, a2] st σ Q = Ev sh 47 75 [a0, a1, a2] (.int 1073741824 :: st) σ Q := Ev_step rfl
theorem s_Remedies_fewestToPlain_75 : Ev sh 47 75 [a0, a1, a2] (.int x :: st) σ Q = Ev sh 47 76 [zdrop2 a0, some (.int x), a2] st σ Q := Ev_step rfl
theorem s_Remedies_fewestToPlain_76 : Ev sh 47 76 [a0, a1, a2] st σ Q = Ev sh 47 77 [a0, a1, a2] (.int 0 :: st) σ Q := Ev_step rfl
theorem s_Remedies_fewestToPlain_77 : Ev sh 47 77 [a0, a1, a2] (.int x :: st) σ Q = Ev sh 47 78 [a0, zdrop2 a1, some (.int x)] st σ Q := Ev_step rfl
theorem s_Remedies_fewestToPlain_78 : Ev sh 47 78 [a0, a1, some (.int x)] st σ Q = Ev sh 47 79 [a0, a1, some (.int x)] (.int x :: st) σ Q := Ev_step rfl
theorem s_Remedies_fewestToPlain_79 : Ev sh 47 79 [some (.ref i), a1, a2] st σ Q = Ev sh 47 80 [some (.ref i), a1, a2] (.ref i :: st) σ Q := Ev_step rfl
theorem s_Remedies_fewestToPlain_80 (h : sh i = 5) : Ev sh 47 80 [a0, a1, a2] (.ref i :: st) σ Q = Ev sh 47 83 [a0, a1, a2] (.ref 42 :: st) σ Q := Ev_h h rfl
theorem s_Remedies_fewestToPlain_83 (h : i < 1000) (h2 : 100 ≤ sh i) : Ev sh 47 83 [a0, a1, a2] (.ref i :: st) σ Q = Ev sh 47 84 [a0, a1, a2] (.int (nI (sh i - 100)) :: st) σ Q := by rw [Ev_h (c := i < 1000 ∧ 100 ≤ sh i) ⟨h, h2⟩]; exact (if_pos h).trans ((if_pos h2).trans (if_pos ⟨h, h2⟩).symm)
theorem s_Remedies_fewestToPlain_84 : Ev sh 47 84 [a0, a1, a2] (.int y :: .int x :: st) σ Q = if y ≤ x then Ev sh 47 104 [a0, a1, a2] st σ Q else Ev sh 47 87 [a0, a1, a2] st σ Q := Ev_if rfl
theorem s_Remedies_fewestToPlain_87 : Ev sh 47 87 [a0, some (.int x), a2] st σ Q = Ev sh 47 88 [a0, some (.int x), a2] (.int x :: st) σ Q := Ev_step rfl
theorem s_Remedies_fewestToPlain_88 : Ev sh 47 88 [some (.ref i), a1, a2] st σ Q = Ev sh 47 89 [some (.ref i), a1, a2] (.ref i :: st) σ Q := Ev_step rfl
theorem s_Remedies_fewestToPlain_89 (h : sh i = 5) : Ev sh 47 89 [a0, a1, a2] (.ref i :: st) σ Q = Ev sh 47 92 [a0, a1, a2] (.ref 42 :: st) σ Q := Ev_h h rfl
theorem s_Remedies_fewestToPlain_92 : Ev sh 47 92 [a0, a1, some (.int x)] st σ Q = Ev sh 47 93 [a0, a1, some (.int x)] (.int x :: st) σ Q := Ev_step rfl
theorem s_Remedies_fewestToPlain_93 (h : zin x (sh i) = true) : Ev sh 47 93 [a0, a1, a2] (.int x :: .ref i :: st) σ Q = Ev sh 47 94 [a0, a1, a2] (.int (σ i x.toNatClampNeg) :: st) σ Q := Ev_h h rfl
theorem s_Remedies_fewestToPlain_94 : Ev sh 47 94 [a0, a1, a2] [.int y, .int x] σ Q = Ev sh 47 97 [a0, a1, a2] [.int (if y < x then y else x)] σ Q := Ev_step rfl
theorem s_Remedies_fewestToPlain_97 : Ev sh 47 97 [a0, a1, a2] (.int x :: st) σ Q = Ev sh 47 98 [zdrop2 a0, some (.int x), a2] st σ Q := Ev_step rfl
theorem s_Remedies_fewestToPlain_98 : Ev sh 47 98 [a0, a1, some (.int x)] st σ Q = Ev sh 47 101 [a0, a1, some (.int (x + 1))] st σ Q := Ev_step rfl
theorem s_Remedies_fewestToPlain_101 : Ev sh 47 101 [a0, a1, a2] st σ Q = Ev sh 47 78 [a0, a1, a2] st σ Q := Ev_step rfl
theorem s_Remedies_fewestToPlain_104 : Ev sh 47 104 [a0, some (.int x), a2] st σ Q = Ev sh 47 105 [a0, some (.int x), a2] (.int x :: st) σ Q := Ev_step rfl
theorem s_Remedies_fewestToPlain_105 : Ev sh 47 105 [a0, a1, a2] st σ Q = Ev sh 47 107 [a0, a1, a2] (.int 1073741824 :: st) σ Q := Ev_step rfl
theorem s_Remedies_fewestToPlain_107 : Ev sh 47 107 [a0, a1, a2] (.int y :: .int x :: st) σ Q = if x ≠ y then Ev sh 47 115 [a0, a1, a2] st σ Q else Ev sh 47 110 [a0, a1, a2] st σ Q := Ev_if rfl
theorem s_Remedies_fewestToPlain_110 : Ev sh 47 110 [a0, a1, a2] st σ Q = Ev sh 47 112 [a0, a1, a2] (.int (-9) :: st) σ Q := Ev_step rfl
theorem s_Remedies_fewestToPlain_112 : Ev sh 47 112 [a0, a1, a2] st σ Q = Ev sh 47 120 [a0, a1, a2] st σ Q := Ev_step rfl
theorem s_Remedies_fewestToPlain_115 : Ev sh 47 115 [a0, some (.int x), a2] st σ Q = Ev sh 47 116 [a0, some (.int x), a2] (.int x :: st) σ Q := Ev_step rfl
theorem s_Remedies_fewestToPlain_116 : Ev sh 47 116 [a0, a1, a2] st σ Q = Ev sh 47 119 [a0, a1, a2] (.int 4096 :: st) σ Q := Ev_step rfl
theorem s_Remedies_fewestToPlain_119 (h : ¬ y = 0) : Ev sh 47 119 [a0, a1, a2] (.int y :: .int x :: st) σ Q = Ev sh 47 120 [a0, a1, a2] (.int (x - x / y * y) :: st) σ Q := Ev_h h rfl
theorem s_Remedies_fewestToPlain_120 : Ev sh 47 120 [a0, a1, a2] [.int x] σ Q = Q (some (.int x)) σ := Ev_ret rfl
theorem s_Remedies_choose_0 : Ev sh 48 0 [a0, a1, a2, a3] st σ Q = Ev sh 48 1 [a0, a1, a2, a3] (.int 0 :: st) σ Q := Ev_step rfl
theorem s_Remedies_choose_1 : Ev sh 48 1 [a0, a1, a2, a3] (.int x :: st) σ Q = Ev sh 48 2 [a0, zdrop2 a1, some (.int x), a3] st σ Q := Ev_step rfl
theorem s_Remedies_choose_2 : Ev sh 48 2 [a0, a1, some (.int x), a3] st σ Q = Ev sh 48 3 [a0, a1, some (.int x), a3] (.int x :: st) σ Q := Ev_step rfl
theorem s_Remedies_choose_3 : Ev sh 48 3 [some (.ref i), a1, a2, a3] st σ Q = Ev sh 48 4 [some (.ref i), a1, a2, a3] (.ref i :: st) σ Q := Ev_step rfl
theorem s_Remedies_choose_4 (h : sh i = 5) : Ev sh 48 4 [a0, a1, a2, a3] (.ref i :: st) σ Q = Ev sh 48 7 [a0, a1, a2, a3] (.ref 43 :: st) σ Q := Ev_h h rfl
theorem s_Remedies_choose_7 (h : i < 1000) (h2 : 100 ≤ sh i) : Ev sh 48 7 [a0, a1, a2, a3] (.ref i :: st) σ Q = Ev sh 48 8 [a0, a1, a2, a3] (.int (nI (sh i - 100)) :: st) σ Q := by rw [Ev_h (c := i < 1000 ∧ 100 ≤ sh i) ⟨h, h2⟩]; exact (if_pos h).trans ((if_pos h2).trans (if_pos ⟨h, h2⟩).symm)
theorem s_Remedies_choose_8 : Ev sh 48 8 [a0, a1, a2, a3] (.int y :: .int x :: st) σ Q = if y ≤ x then Ev sh 48 25 [a0, a1, a2, a3] st σ Q else Ev sh 48 11 [a0, a1, a2, a3] st σ Q := Ev_if rfl
theorem s_Remedies_choose_11 : Ev sh 48 11 [some (.ref i), a1, a2, a3] st σ Q = Ev sh 48 12 [some (.ref i), a1, a2, a3] (.ref i :: st) σ Q := Ev_step rfl
theorem s_Remedies_choose_12 (h : sh i = 5) : Ev sh 48 12 [a0, a1, a2, a3] (.ref i :: st) σ Q = Ev sh 48 15 [a0, a1, a2, a3] (.ref 43 :: st) σ Q := Ev_h h rfl
theorem s_Remedies_choose_15 : Ev sh 48 15 [a0, a1, some (.int x), a3] st σ Q = Ev sh 48 16 [a0, a1, some (.int x), a3] (.int x :: st) σ Q := Ev_step rfl
theorem s_Remedies_choose_16 : Ev sh 48 16 [a0, a1, a2, a3] st σ Q = Ev sh 48 18 [a0, a1, a2, a3] (.int 1073741824 :: st) σ Q := Ev_step rfl
theorem s_Remedies_choose_18 (h : zin x (sh i) = true) : Ev sh 48 18 [a0, a1, a2, a3] (.int y :: .int x :: .ref i :: st) σ Q = Ev sh 48 19 [a0, a1, a2, a3] st (zup σ i x.toNatClampNeg y) Q := Ev_h h rfl
theorem s_Remedies_choose_19 : Ev sh 48 19 [a0, a1, some (.int x), a3] st σ Q = Ev sh 48 22 [a0, a1, some (.int (x + 1)), a3] st σ Q := Ev_step rfl
theorem s_Remedies_choose_22 : Ev sh 48 22 [a0, a1, a2, a3] st σ Q = Ev sh 48 2 [a0, a1, a2, a3] st σ Q := Ev_step rfl
theorem s_Remedies_choose_25 : Ev sh 48 25 [a0, a1, a2, a3] st σ Q = Ev sh 48 26 [a0, a1, a2, a3] (.int 0 :: st) σ Q := Ev_step rfl
theorem s_Remedies_choose_26 : Ev sh 48 26 [a0, a1, a2, a3] (.int x :: st) σ Q = Ev sh 48 27 [a0, zdrop2 a1, some (.int x), a3] st σ Q := Ev_step rfl
theorem s_Remedies_choose_27 : Ev sh 48 27 [a0, a1, some (.int x), a3] st σ Q = Ev sh 48 28 [a0, a1, some (.int x), a3] (.int x :: st) σ Q := Ev_step rfl
theorem s_Remedies_choose_28 : Ev sh 48 28 [a0, a1, a2, a3] st σ Q = Ev sh 48 29 [a0, a1, a2, a3] (.int 1 :: st) σ Q := Ev_step rfl
theorem s_Remedies_choose_29 : Ev sh 48 29 [a0, a1, a2, a3] (.int y :: .int x :: st) σ Q = if y < x then Ev sh 48 89 [a0, a1, a2, a3] st σ Q else Ev sh 48 32 [a0, a1, a2, a3] st σ Q := Ev_if rfl
theorem s_Remedies_choose_32 : Ev sh 48 32 [a0, a1, a2, a3] st σ Q = Ev sh 48 33 [a0, a1, a2, a3] (.int 0 :: st) σ Q := Ev_step rfl
theorem s_Remedies_choose_33 : Ev sh 48 33 [a0, a1, a2, a3] (.int x :: st) σ Q = Ev sh 48 34 [a0, a1, zdrop2 a2, some (.int x)] st σ Q := Ev_step rfl
theorem s_Remedies_choose_34 : Ev sh 48 34 [a0, a1, a2, some (.int x)] st σ Q = Ev sh 48 35 [a0, a1, a2, some (.int x)] (.int x :: st) σ Q := Ev_step rfl
theorem s_Remedies_choose_35 : Ev sh 48 35 [a0, a1, a2, a3] st σ Q = Ev sh 48 36 [a0, a1, a2, a3] (.int 1 :: st) σ Q := Ev_step rfl
theorem s_Remedies_choose_36 : Ev sh 48 36 [a0, a1, a2, a3] (.int y :: .int x :: st) σ Q = if y < x then Ev sh 48 83 [a0, a1, a2, a3] st σ Q else Ev sh 48 39 [a0, a1, a2, a3] st σ Q := Ev_if rfl
theorem s_Remedies_choose_39 : Ev sh 48 39 [some (.ref i), a1, a2, a3] st σ Q = Ev sh 48 40 [some (.ref i), a1, a2, a3] (.ref i :: st) σ Q := Ev_step rfl
theorem s_Remedies_choose_40 : Ev sh 48 40 [a0, some (.int x), a2, a3] st σ Q = Ev sh 48 41 [a0, some (.int x), a2, a3] (.int x :: st) σ Q := Ev_step rfl
theorem s_Remedies_choose_41 : Ev sh 48 41 [a0, a1, a2, a3] st σ Q = Ev sh 48 42 [a0, a1, a2, a3] (.int 1 :: st) σ Q := Ev_step rfl
theorem s_Remedies_choose_42 : Ev sh 48 42 [a0, a1, a2, a3] (.int y :: .int x :: st) σ Q = Ev sh 48 43 [a0, a1, a2, a3] (.int (x - y) :: st) σ Q := Ev_step rfl
theorem s_Remedies_choose_43 : Ev sh 48 43 [a0, a1, some (.int x), a3] st σ Q = Ev sh 48 44 [a0, a1, some (.int x), a3] (.int x :: st) σ Q := Ev_step rfl
theorem s_Remedies_choose_44 (h : sh i0 = 5) : Ev sh 48 44 [a0, a1, a2, a3] [.int x2, .int x1, .ref i0] σ Q = Ev sh 49 0 [some (.ref i0), some (.int x1), some (.int x2)] [] σ (fun r s => Ev sh 48 47 [a0, a1, a2, a3] (zpush r []) s Q) := Ev_callh (zrecv_of (by decide) h) rfl
theorem s_Remedies_choose_47 : Ev sh 48 47 [some (.ref i), a1, a2, a3] st σ Q = Ev sh 48 48 [some (.ref i), a1, a2, a3] (.ref i :: st) σ Q := Ev_step rfl
theorem s_Remedies_choose_48 : Ev sh 48 48 [a0, some (.int x), a2, a3] st σ Q = Ev sh 48 49 [a0, some (.int x), a2, a3] (.int x :: st) σ Q := Ev_step rfl
theorem s_Remedies_choose_49 : Ev sh 48 49 [a0, a1, a2, some (.int x)] st σ Q = Ev sh 48 50 [a0, a1, a2, some (.int x)] (.int x :: st) σ Q := Ev_step rfl
theorem s_Remedies_choose_50 (h : sh i0 = 5) : Ev sh 48 50 [a0, a1, a2, a3] [.int x2, .int x1, .ref i0] σ Q = Ev sh 49 0 [some (.ref i0), some (.int x1), some (.int x2)] [] σ (fun r s => Ev sh 48 53 [a0, a1, a2, a3] (zpush r []) s Q) := Ev_callh (zrecv_of (by decide) h) rfl
theorem s_Remedies_choose_53 : Ev sh 48 53 [a0, some (.int x), a2, a3] st σ Q = Ev sh 48 54 [a0, some (.int x), a2, a3] (.int x :: st) σ Q := Ev_step rfl
theorem s_Remedies_choose_54 : Ev sh 48 54 [a0, a1, a2, a3] (.int x :: st) σ Q = if x = 0 then Ev sh 48 70 [a0, a1, a2, a3] st σ Q else Ev sh 48 57 [a0, a1, a2, a3] st σ Q := Ev_if rfl
theorem s_Remedies_choose_57 : Ev sh 48 57 [some (.ref i), a1, a2, a3] st σ Q = Ev sh 48 58 [some (.ref i), a1, a2, a3] (.ref i :: st) σ Q := Ev_step rfl
theorem s_Remedies_choose_58 (h : sh i = 5) : Ev sh 48 58 [a0, a1, a2, a3] (.ref i :: st) σ Q = Ev sh 48 61 [a0, a1, a2, a3] (.ref 37 :: st) σ Q := Ev_h h rfl
theorem s_Remedies_choose_61 : Ev sh 48 61 [a0, some (.int x), a2, a3] st σ Q = Ev sh 48 62 [a0, some (.int x), a2, a3] (.int x :: st) σ Q := Ev_step rfl
theorem s_Remedies_choose_62 : Ev sh 48 62 [a0, a1, a2, a3] st σ Q = Ev sh 48 63 [a0, a1, a2, a3] (.int 1 :: st) σ Q := Ev_step rfl
theorem s_Remedies_choose_63 : Ev sh 48 63 [a0, a1, a2, a3] (.int y :: .int x :: st) σ Q = Ev sh 48 64 [a0, a1, a2, a3] (.int (x - y) :: st) σ Q := Ev_step rfl
theorem s_Remedies_choose_64 (h : sh i0 = 7) : Ev sh 48 64 [a0, a1, a2, a3] [.int x1, .ref i0] σ Q = Ev sh 88 0 [some (.ref i0), some (.int x1)] [] σ (fun r s => Ev sh 48 67 [a0, a1, a2, a3] (zpush r []) s Q) := Ev_callh (zrecv_of (by decide) h) rfl
theorem s_Remedies_choose_67 : Ev sh 48 67 [a0, a1, a2, a3] (.int x :: st) σ Q = if x < 0 then Ev sh 48 77 [a0, a1, a2, a3] st σ Q else Ev sh 48 70 [a0, a1, a2, a3] st σ Q := Ev_if rfl
theorem s_Remedies_choose_70 : Ev sh 48 70 [some (.ref i), a1, a2, a3] st σ Q = Ev sh 48 71 [some (.ref i), a1, a2, a3] (.ref i :: st) σ Q := Ev_step rfl
theorem s_Remedies_choose_71 : Ev sh 48 71 [a0, some (.int x), a2, a3] st σ Q = Ev sh 48 72 [a0, some (.int x), a2, a3] (.int x :: st) σ Q := Ev_step rfl
theorem s_Remedies_choose_72 : Ev sh 48 72 [a0, a1, some (.int x), a3] st σ Q = Ev sh 48 73 [a0, a1, some (.int x), a3] (.int x :: st) σ Q := Ev_step rfl
theorem s_Remedies_choose_73 : Ev sh 48 73 [a0, a1, a2, some (.int x)] st σ Q = Ev sh 48 74 [a0, a1, a2, some (.int x)] (.int x :: st) σ Q := Ev_step rfl
theorem s_Remedies_choose_74 (h : sh i0 = 5) : Ev sh 48 74 [a0, a1, a2, a3] [.int x3, .int x2, .int x1, .ref i0] σ Q = Ev sh 50 0 [some (.ref i0), some (.int x1), some (.int x2), some (.int x3), none, none, none, none] [] σ (fun r s => Ev sh 48 77 [a0, a1, a2, a3] (zpush r []) s Q) := Ev_callh (zrecv_of (by decide) h) rfl
theorem s_Remedies_choose_77 : Ev sh 48 77 [a0, a1, a2, some (.int x)] st σ Q = Ev sh 48 80 [a0, a1, a2, some (.int (x + 1))] st σ Q := Ev_step rfl
theorem s_Remedies_choose_80 : Ev sh 48 80 [a0, a1, a2, a3] st σ Q = Ev sh 48 34 [a0, a1, a2, a3] st σ Q := Ev_step rfl
theorem s_Remedies_choose_83 : Ev sh 48 83 [a0, a1, some (.int x), a3] st σ Q = Ev sh 48 86 [a0, a1, some (.int (x + 1)), a3] st σ Q := Ev_step rfl
theorem s_Remedies_choose_86 : Ev sh 48 86 [a0, a1, a2, a3] st σ Q = Ev sh 48 27 [a0, a1, a2, a3] st σ Q := Ev_step rfl
theorem s_Remedies_choose_89 : Ev sh 48 89 [a0, a1, a2, a3] st σ Q = Ev sh 48 90 [a0, a1, a2, a3] (.int 0 :: st) σ Q := Ev_step rfl
theorem s_Remedies_choose_90 : Ev sh 48 90 [a0, a1, a2, a3] (.int x :: st) σ Q = Ev sh 48 91 [a0, zdrop2 a1, some (.int x), a3] st σ Q := Ev_step rfl
theorem s_Remedies_choose_91 : Ev sh 48 91 [a0, a1, some (.int x), a3] st σ Q = Ev sh 48 92 [a0, a1, some (.int x), a3] (.int x :: st) σ Q := Ev_step rfl
theorem s_Remedies_choose_92 : Ev sh 48 92 [some (.ref i), a1, a2, a3] st σ Q = Ev sh 48 93 [some (.ref i), a1, a2, a3] (.ref i :: st) σ Q := Ev_step rfl
theorem s_Remedies_choose_93 (h : sh i = 5) : Ev sh 48 93 [a0, a1, a2, a3] (.ref i :: st) σ Q = Ev sh 48 96 [a0, a1, a2, a3] (.ref 42 :: st) σ Q := Ev_h h rfl
theorem s_Remedies_choose_96 (h : i < 1000) (h2 : 100 ≤ sh i) : Ev sh 48 96 [a0, a1, a2, a3] (.ref i :: st) σ Q = Ev sh 48 97 [a0, a1, a2, a3] (.int (nI (sh i - 100)) :: st) σ Q := by rw [Ev_h (c := i < 1000 ∧ 100 ≤ sh i) ⟨h, h2⟩]; exact (if_pos h).trans ((if_pos h2).trans (if_pos ⟨h, h2⟩).symm)
theorem s_Remedies_choose_97 : Ev sh 48 97 [a0, a1, a2, a3] (.int y :: .int x :: st) σ Q = if y ≤ x then Ev sh 48 127 [a0, a1, a2, a3] st σ Q else Ev sh 48 100 [a0, a1, a2, a3] st σ Q := Ev_if rfl
theorem s_Remedies_choose_100 : Ev sh 48 100 [a0, a1, some (.int x), a3] st σ Q = Ev sh 48 101 [a0, a1, some (.int x), a3] (.int x :: st) σ Q := Ev_step rfl
theorem s_Remedies_choose_101 : Ev sh 48 101 [some (.ref i), a1, a2, a3] st σ Q = Ev sh 48 102 [some (.ref i), a1, a2, a3] (.ref i :: st) σ Q := Ev_step rfl
theorem s_Remedies_choose_102 (h : sh i = 5) : Ev sh 48 102 [a0, a1, a2, a3] (.ref i :: st) σ Q = Ev sh 48 105 [a0, a1, a2, a3] (.ref 43 :: st) σ Q := Ev_h h rfl
theorem s_Remedies_choose_105 (h : i < 1000) (h2 : 100 ≤ sh i) : Ev sh 48 105 [a0, a1, a2, a3] (.ref i :: st) σ Q = Ev sh 48 106 [a0, a1, a2, a3] (.int (nI (sh i - 100)) :: st) σ Q := by rw [Ev_h (c := i < 1000 ∧ 100 ≤ sh i) ⟨h, h2⟩]; exact (if_pos h).trans ((if_pos h2).trans (if_pos ⟨h, h2⟩).symm)
theorem s_Remedies_choose_106 : Ev sh 48 106 [a0, a1, a2, a3] (.int y :: .int x :: st) σ Q = if y ≤ x then Ev sh 48 127 [a0, a1, a2, a3] st σ Q else Ev sh 48 109 [a0, a1, a2, a3] st σ Q := Ev_if rfl
theorem s_Remedies_choose_109 : Ev sh 48 109 [some (.ref i), a1, a2, a3] st σ Q = Ev sh 48 110 [some (.ref i), a1, a2, a3] (.ref i :: st) σ Q := Ev_step rfl
theorem s_Remedies_choose_110 (h : sh i = 5) : Ev sh 48 110 [a0, a1, a2, a3] (.ref i :: st) σ Q = Ev sh 48 113 [a0, a1, a2, a3] (.ref 42 :: st) σ Q := Ev_h h rfl
theorem s_Remedies_choose_113 : Ev sh 48 113 [a0, a1, some (.int x), a3] st σ Q = Ev sh 48 114 [a0, a1, some (.int x), a3] (.int x :: st) σ Q := Ev_step rfl
theorem s_Remedies_choose_114 : Ev sh 48 114 [some (.ref i), a1, a2, a3] st σ Q = Ev sh 48 115 [some (.ref i), a1, a2, a3] (.ref i :: st) σ Q := Ev_step rfl
theorem s_Remedies_choose_115 (h : sh i = 5) : Ev sh 48 115 [a0, a1, a2, a3] (.ref i :: st) σ Q = Ev sh 48 118 [a0, a1, a2, a3] (.ref 43 :: st) σ Q := Ev_h h rfl
theorem s_Remedies_choose_118 : Ev sh 48 118 [a0, a1, some (.int x), a3] st σ Q = Ev sh 48 119 [a0, a1, some (.int x), a3] (.int x :: st) σ Q := Ev_step rfl
theorem s_Remedies_choose_119 (h : zin x (sh i) = true) : Ev sh 48 119 [a0, a1, a2, a3] (.int x :: .ref i :: st) σ Q = Ev sh 48 120 [a0, a1, a2, a3] (.int (σ i x.toNatClampNeg) :: st) σ Q := Ev_h h rfl
theorem s_Remedies_choose_120 (h : zin x (sh i) = true) : Ev sh 48 120 [a0, a1, a2, a3] (.int y :: .int x :: .ref i :: st) σ Q = Ev sh 48 121 [a0, a1, a2, a3] st (zup σ i x.toNatClampNeg y) Q := Ev_h h rfl
theorem s_Remedies_choose_121 : Ev sh 48 121 [a0, a1, some (.int x), a3] st σ Q = Ev sh 48 124 [a0, a1, some (.int (x + 1)), a3] st σ Q := Ev_step rfl
theorem s_Remedies_choose_124 : Ev sh 48 124 [a0, a1, a2, a3] st σ Q = Ev sh 48 91 [a0, a1, a2, a3] st σ Q := Ev_step rfl
theorem s_Remedies_choose_127 : Ev sh 48 127 [a0, a1, a2, a3] [] σ Q = Q none σ := Ev_ret rfl
theorem s_Remedies_makeOf_0 : Ev sh 49 0 [a0, a1, some (.int x)] st σ Q = Ev sh 49 1 [a0, a1, some (.int x)] (.int x :: st) σ Q := Ev_step rfl
theorem s_Remedies_makeOf_1 : Ev sh 49 1 [a0, a1, a2] st σ Q = Ev sh 49 2 [a0, a1, a2] (.int 1 :: st) σ Q := Ev_step rfl
theorem s_Remedies_makeOf_2 : Ev sh 49 2 [a0, a1, a2] (.int y :: .int x :: st) σ Q = if x ≠ y then Ev sh 49 19 [a0, a1, a2] st σ Q else Ev sh 49 5 [a0, a1, a2] st σ Q := Ev_if rfl
theorem s_Remedies_makeOf_5 : Ev sh 49 5 [some (.ref i), a1, a2] st σ Q = Ev sh 49 6 [some (.ref i), a1, a2] (.ref i :: st) σ Q := Ev_step rfl
theorem s_Remedies_makeOf_6 (h : sh i = 5) : Ev sh 49 6 [a0, a1, a2] (.ref i :: st) σ Q = Ev sh 49 9 [a0, a1, a2] (.ref 37 :: st) σ Q := Ev_h h rfl
theorem s_Remedies_makeOf_9 : Ev sh 49 9 [a0, some (.int x), a2] st σ Q = Ev sh 49 10 [a0, some (.int x), a2] (.int x :: st) σ Q := Ev_step rfl
theorem s_Remedies_makeOf_10 : Ev sh 49 10 [a0, a1, a2] st σ Q = Ev sh 49 11 [a0, a1, a2] (.int 0 :: st) σ Q := Ev_step rfl
theorem s_Remedies_makeOf_11 : Ev sh 49 11 [a0, a1, a2] st σ Q = Ev sh 49 13 [a0, a1, a2] (.int 9 :: st) σ Q := Ev_step rfl
theorem s_Remedies_makeOf_13 (h : sh i0 = 7) : Ev sh 49 13 [a0, a1, a2] [.int x3, .int x2, .int x1, .ref i0] σ Q = Ev sh 65 0 [some (.ref i0), some (.int x1), some (.int x2), some (.int x3)] [] σ (fun r s => Ev sh 49 16 [a0, a1, a2] (zpush r []) s Q) := Ev_callh (zrecv_of (by decide) h) rfl
theorem s_Remedies_makeOf_16 : Ev sh 49 16 [a0, a1, a2] st σ Q = Ev sh 49 43 [a0, a1, a2] st σ Q := Ev_step rfl
theorem s_Remedies_makeOf_19 : Ev sh 49 19 [some (.ref i), a1, a2] st σ Q = Ev sh 49 20 [some (.ref i), a1, a2] (.ref i :: st) σ Q := Ev_step rfl
theorem s_Remedies_makeOf_20 (h : sh i = 5) : Ev sh 49 20 [a0, a1, a2] (.ref i :: st) σ Q = Ev sh 49 23 [a0, a1, a2] (.ref 37 :: st) σ Q := Ev_h h rfl
theorem s_Remedies_makeOf_23 : Ev sh 49 23 [a0, some (.int x), a2] st σ Q = Ev sh 49 24 [a0, some (.int x), a2] (.int x :: st) σ Q := Ev_step rfl
theorem s_Remedies_makeOf_24 : Ev sh 49 24 [some (.ref i), a1, a2] st σ Q = Ev sh 49 25 [some (.ref i), a1, a2] (.ref i :: st) σ Q := Ev_step rfl
theorem s_Remedies_makeOf_25 (h : sh i = 5) : Ev sh 49 25 [a0, a1, a2] (.ref i :: st) σ Q = Ev sh 49 28 [a0, a1, a2] (.ref 2 :: st) σ Q := Ev_h h rfl
theorem s_Remedies_makeOf_28 : Ev sh 49 28 [a0, some (.int x), a2] st σ Q = Ev sh 49 29 [a0, some (.int x), a2] (.int x :: st) σ Q := Ev_step rfl
theorem s_Remedies_makeOf_29 (h : sh i2 = 7) : Ev sh 49 29 [a0, a1, a2] [.int x3, .ref i2, .int x1, .ref i0] σ Q = Ev sh 73 0 [some (.ref i2), some (.int x3)] [] σ (fun r s => Ev sh 49 32 [a0, a1, a2] (zpush r [.int x1, .ref i0]) s Q) := Ev_callh (zrecv_of (by decide) h) rfl
theorem s_Remedies_makeOf_32 : Ev sh 49 32 [some (.ref i), a1, a2] st σ Q = Ev sh 49 33 [some (.ref i), a1, a2] (.ref i :: st) σ Q := Ev_step rfl
theorem s_Remedies_makeOf_33 (h : sh i = 5) : Ev sh 49 33 [a0, a1, a2] (.ref i :: st) σ Q = Ev sh 49 36 [a0, a1, a2] (.ref 2 :: st) σ Q := Ev_h h rfl
theorem s_Remedies_makeOf_36 : Ev sh 49 36 [a0, some (.int x), a2] st σ Q = Ev sh 49 37 [a0, some (.int x), a2] (.int x :: st) σ Q := Ev_step rfl
theorem s_Remedies_makeOf_37 (h : sh i3 = 7) : Ev sh 49 37 [a0, a1, a2] [.int x4, .ref i3, .int x2, .int x1, .ref i0] σ Q = Ev sh 74 0 [some (.ref i3), some (.int x4)] [] σ (fun r s => Ev sh 49 40 [a0, a1, a2] (zpush r [.int x2, .int x1, .ref i0]) s Q) := Ev_callh (zrecv_of (by decide) h) rfl
theorem s_Remedies_makeOf_40 (h : sh i0 = 7) : Ev sh 49 40 [a0, a1, a2] [.int x3, .int x2, .int x1, .ref i0] σ Q = Ev sh 65 0 [some (.ref i0), some (.int x1), some (.int x2), some (.int x3)] [] σ (fun r s => Ev sh 49 43 [a0, a1, a2] (zpush r []) s Q) := Ev_callh (zrecv_of (by decide) h) rfl
theorem s_Remedies_makeOf_43 : Ev sh 49 43 [a0, a1, a2] [] σ Q = Q none σ := Ev_ret rfl
theorem s_Remedies_goOn_0 : Ev sh 50 0 [a0, a1, a2, some (.int x), a4, a5, a6, a7] st σ Q = Ev sh 50 1 [a0, a1, a2, some (.int x), a4, a5, a6, a7] (.int x :: st) σ Q := Ev_step rfl
theorem s_Remedies_goOn_1 : Ev sh 50 1 [a0, a1, a2, a3, a4, a5, a6, a7] st σ Q = Ev sh 50 2 [a0, a1, a2, a3, a4, a5, a6, a7] (.int 1 :: st) σ Q := Ev_step rfl
theorem s_Remedies_goOn_2 : Ev sh 50 2 [a0, a1, a2, a3, a4, a5, a6, a7] (.int y :: .int x :: st) σ Q = if x ≠ y then Ev sh 50 15 [a0, a1, a2, a3, a4, a5, a6, a7] st σ Q else Ev sh 50 5 [a0, a1, a2, a3, a4, a5, a6, a7] st σ Q := Ev_if rfl
theorem s_Remedies_goOn_5 : Ev sh 50 5 [a0, a1, a2, a3, a4, a5, a6, a7] st σ Q = Ev sh 50 8 [a0, a1, a2, a3, a4, a5, a6, a7] (.int 4096 :: st) σ Q := Ev_step rfl
theorem s_Remedies_goOn_8 : Ev sh 50 8 [a0, a1, a2, a3, a4, a5, a6, a7] st σ Q = Ev sh 50 9 [a0, a1, a2, a3, a4, a5, a6, a7] (.int 1 :: st) σ Q := Ev_step rfl
theorem s_Remedies_goOn_9 : Ev sh 50 9 [a0, some (.int x), a2, a3, a4, a5, a6, a7] st σ Q = Ev sh 50 10 [a0, some (.int x), a2, a3, a4, a5, a6, a7] (.int x :: st) σ Q := Ev_step rfl
theorem s_Remedies_goOn_10 : Ev sh 50 10 [a0, a1, a2, a3, a4, a5, a6, a7] (.int y :: .int x :: st) σ Q = Ev sh 50 11 [a0, a1, a2, a3, a4, a5, a6, a7] (.int (x <<< (y &&& 31)) :: st) σ Q := Ev_step rfl
theorem s_Remedies_goOn_11 : Ev sh 50 11 [a0, a1, a2, a3, a4, a5, a6, a7] (.int y :: .int x :: st) σ Q = Ev sh 50 12 [a0, a1, a2, a3, a4, a5, a6, a7] (.int (x + y) :: st) σ Q := Ev_step rfl
theorem s_Remedies_goOn_12 : Ev sh 50 12 [a0, a1, a2, a3, a4, a5, a6, a7] st σ Q = Ev sh 50 16 [a0, a1, a2, a3, a4, a5, a6, a7] st σ Q := Ev_step rfl
theorem s_Remedies_goOn_15 : Ev sh 50 15 [a0, a1, a2, a3, a4, a5, a6, a7] st σ Q = Ev sh 50 16 [a0, a1, a2, a3, a4, a5, a6, a7] (.int 0 :: st) σ Q := Ev_step rfl
theorem s_Remedies_goOn_16 : Ev sh 50 16 [a0, a1, a2, a3, a4, a5, a6, a7] (.int x :: st) σ Q = Ev sh 50 18 [a0, a1, a2, zdrop2 a3, some (.int x), a5, a6, a7] st σ Q := Ev_step rfl
theorem s_Remedies_goOn_18 : Ev sh 50 18 [a0, a1, a2, a3, a4, a5, a6, a7] st σ Q = Ev sh 50 20 [a0, a1, a2, a3, a4, a5, a6, a7] (.int (-6) :: st) σ Q := Ev_step rfl
theorem s_Remedies_goOn_20 : Ev sh 50 20 [a0, a1, a2, a3, a4, a5, a6, a7] (.int x :: st) σ Q = Ev sh 50 22 [a0, a1, a2, a3, zdrop2 a4, some (.int x), a6, a7] st σ Q := Ev_step rfl
theorem s_Remedies_goOn_22 : Ev sh 50 22 [a0, a1, a2, a3, a4, some (.int x), a6, a7] st σ Q = Ev sh 50 24 [a0, a1, a2, a3, a4, some (.int x), a6, a7] (.int x :: st) σ Q := Ev_step rfl
theorem s_Remedies_goOn_24 : Ev sh 50 24 [a0, a1, a2, a3, a4, a5, a6, a7] st σ Q = Ev sh 50 26 [a0, a1, a2, a3, a4, a5, a6, a7] (.int 6 :: st) σ Q := Ev_step rfl
theorem s_Remedies_goOn_26 : Ev sh 50 26 [a0, a1, a2, a3, a4, a5, a6, a7] (.int y :: .int x :: st) σ Q = if y < x then Ev sh 50 121 [a0, a1, a2, a3, a4, a5, a6, a7] st σ Q else Ev sh 50 29 [a0, a1, a2, a3, a4, a5, a6, a7] st σ Q := Ev_if rfl
theorem s_Remedies_goOn_29 : Ev sh 50 29 [a0, a1, a2, a3, a4, some (.int x), a6, a7] st σ Q = Ev sh 50 31 [a0, a1, a2, a3, a4, some (.int x), a6, a7] (.int x :: st) σ Q := Ev_step rfl
theorem s_Remedies_goOn_31 : Ev sh 50 31 [a0, a1, some (.int x), a3, a4, a5, a6, a7] st σ Q = Ev sh 50 32 [a0, a1, some (.int x), a3, a4, a5, a6, a7] (.int x :: st) σ Q := Ev_step rfl
theorem s_Remedies_goOn_32 : Ev sh 50 32 [a0, a1, a2, a3, a4, a5, a6, a7] [.int x1, .int x0] σ Q = Ev sh 51 0 [some (.int x0), some (.int x1)] [] σ (fun r s => Ev sh 50 35 [a0, a1, a2, a3, a4, a5, a6, a7] (zpush r []) s Q) := Ev_call rfl
theorem s_Remedies_goOn_35 : Ev sh 50 35 [a0, a1, a2, a3, a4, a5, a6, a7] (.int x :: st) σ Q = Ev sh 50 37 [a0, a1, a2, a3, a4, zdrop2 a5, some (.int x), a7] st σ Q := Ev_step rfl
theorem s_Remedies_goOn_37 : Ev sh 50 37 [a0, a1, a2, a3, a4, some (.int x), a6, a7] st σ Q = Ev sh 50 39 [a0, a1, a2, a3, a4, some (.int x), a6, a7] (.int x :: st) σ Q := Ev_step rfl
theorem s_Remedies_goOn_39 : Ev sh 50 39 [some (.ref i), a1, a2, a3, a4, a5, a6, a7] st σ Q = Ev sh 50 40 [some (.ref i), a1, a2, a3, a4, a5, a6, a7] (.ref i :: st) σ Q := Ev_step rfl
theorem s_Remedies_goOn_40 (h : sh i = 5) : Ev sh 50 40 [a0, a1, a2, a3, a4, a5, a6, a7] (.ref i :: st) σ Q = Ev sh 50 43 [a0, a1, a2, a3, a4, a5, a6, a7] (.ref 37 :: st) σ Q := Ev_h h rfl
theorem s_Remedies_goOn_43 : Ev sh 50 43 [a0, some (.int x), a2, a3, a4, a5, a6, a7] st σ Q = Ev sh 50 44 [a0, some (.int x), a2, a3, a4, a5, a6, a7] (.int x :: st) σ Q := Ev_step rfl
theorem s_Remedies_goOn_44 (h : sh i1 = 7) : Ev sh 50 44 [a0, a1, a2, a3, a4, a5, a6, a7] [.int x2, .ref i1, .int x0] σ Q = Ev sh 77 0 [some (.ref i1), some (.int x2), none] [] σ (fun r s => Ev sh 50 47 [a0, a1, a2, a3, a4, a5, a6, a7] (zpush r [.int x0]) s Q) := Ev_callh (zrecv_of (by decide) h) rfl
theorem s_Remedies_goOn_47 : Ev sh 50 47 [a0, a1, a2, a3, a4, a5, a6, a7] (.int y :: .int x :: st) σ Q = Ev sh 50 48 [a0, a1, a2, a3, a4, a5, a6, a7] (.int (x + y) :: st) σ Q := Ev_step rfl
theorem s_Remedies_goOn_48 : Ev sh 50 48 [a0, a1, a2, some (.int x), a4, a5, a6, a7] st σ Q = Ev sh 50 49 [a0, a1, a2, some (.int x), a4, a5, a6, a7] (.int x :: st) σ Q := Ev_step rfl
theorem s_Remedies_goOn_49 : Ev sh 50 49 [a0, a1, a2, a3, a4, a5, a6, a7] [.int x1, .int x0] σ Q = Ev sh 51 0 [some (.int x0), some (.int x1)] [] σ (fun r s => Ev sh 50 52 [a0, a1, a2, a3, a4, a5, a6, a7] (zpush r []) s Q) := Ev_call rfl
theorem s_Remedies_goOn_52 : Ev sh 50 52 [a0, a1, a2, a3, a4, a5, a6, a7] (.int x :: st) σ Q = Ev sh 50 54 [a0, a1, a2, a3, a4, a5, zdrop2 a6, some (.int x)] st σ Q := Ev_step rfl
theorem s_Remedies_goOn_54 : Ev sh 50 54 [a0, a1, a2, a3, a4, a5, some (.int x), a7] st σ Q = Ev sh 50 56 [a0, a1, a2, a3, a4, a5, some (.int x), a7] (.int x :: st) σ Q := Ev_step rfl
theorem s_Remedies_goOn_56 : Ev sh 50 56 [a0, a1, a2, a3, a4, a5, a6, a7] st σ Q = Ev sh 50 57 [a0, a1, a2, a3, a4, a5, a6, a7] (.int 0 :: st) σ Q := Ev_step rfl
theorem s_Remedies_goOn_57 : Ev sh 50 57 [a0, a1, a2, a3, a4, a5, a6, a7] st σ Q = Ev sh 50 59 [a0, a1, a2, a3, a4, a5, a6, a7] (.int 25 :: st) σ Q := Ev_step rfl
theorem s_Remedies_goOn_59 : Ev sh 50 59 [a0, a1, a2, a3, a4, a5, a6, a7] [.int x2, .int x1, .int x0] σ Q = Ev sh 150 0 [some (.int x0), some (.int x1), some (.int x2)] [] σ (fun r s => Ev sh 50 62 [a0, a1, a2, a3, a4, a5, a6, a7] (zpush r []) s Q) := Ev_call rfl
theorem s_Remedies_goOn_62 : Ev sh 50 62 [a0, a1, a2, a3, a4, a5, a6, a7] (.int x :: st) σ Q = if x = 0 then Ev sh 50 115 [a0, a1, a2, a3, a4, a5, a6, a7] st σ Q else Ev sh 50 65 [a0, a1, a2, a3, a4, a5, a6, a7] st σ Q := Ev_if rfl
theorem s_Remedies_goOn_65 : Ev sh 50 65 [a0, a1, a2, a3, a4, a5, a6, some (.int x)] st σ Q = Ev sh 50 67 [a0, a1, a2, a3, a4, a5, a6, some (.int x)] (.int x :: st) σ Q := Ev_step rfl
theorem s_Remedies_goOn_67 : Ev sh 50 67 [a0, a1, a2, a3, a4, a5, a6, a7] st σ Q = Ev sh 50 68 [a0, a1, a2, a3, a4, a5, a6, a7] (.int 0 :: st) σ Q := Ev_step rfl
theorem s_Remedies_goOn_68 : Ev sh 50 68 [a0, a1, a2, a3, a4, a5, a6, a7] st σ Q = Ev sh 50 70 [a0, a1, a2, a3, a4, a5, a6, a7] (.int 25 :: st) σ Q := Ev_step rfl
theorem s_Remedies_goOn_70 : Ev sh 50 70 [a0, a1, a2, a3, a4, a5, a6, a7] [.int x2, .int x1, .int x0] σ Q = Ev sh 150 0 [some (.int x0), some (.int x1), some (.int x2)] [] σ (fun r s => Ev sh 50 73 [a0, a1, a2, a3, a4, a5, a6, a7] (zpush r []) s Q) := Ev_call rfl
theorem s_Remedies_goOn_73 : Ev sh 50 73 [a0, a1, a2, a3, a4, a5, a6, a7] (.int x :: st) σ Q = if x = 0 then Ev sh 50 115 [a0, a1, a2, a3, a4, a5, a6, a7] st σ Q else Ev sh 50 76 [a0, a1, a2, a3, a4, a5, a6, a7] st σ Q := Ev_if rfl
theorem s_Remedies_goOn_76 : Ev sh 50 76 [some (.ref i), a1, a2, a3, a4, a5, a6, a7] st σ Q = Ev sh 50 77 [some (.ref i), a1, a2, a3, a4, a5, a6, a7] (.ref i :: st) σ Q := Ev_step rfl
theorem s_Remedies_goOn_77 (h : sh i = 5) : Ev sh 50 77 [a0, a1, a2, a3, a4, a5, a6, a7] (.ref i :: st) σ Q = Ev sh 50 80 [a0, a1, a2, a3, a4, a5, a6, a7] (.ref 42 :: st) σ Q := Ev_h h rfl
theorem s_Remedies_goOn_80 : Ev sh 50 80 [a0, a1, a2, a3, a4, a5, some (.int x), a7] st σ Q = Ev sh 50 82 [a0, a1, a2, a3, a4, a5, some (.int x), a7] (.int x :: st) σ Q := Ev_step rfl
theorem s_Remedies_goOn_82 (h : zin x (sh i) = true) : Ev sh 50 82 [a0, a1, a2, a3, a4, a5, a6, a7] (.int x :: .ref i :: st) σ Q = Ev sh 50 83 [a0, a1, a2, a3, a4, a5, a6, a7] (.int (σ i x.toNatClampNeg) :: st) σ Q := Ev_h h rfl
theorem s_Remedies_goOn_83 : Ev sh 50 83 [a0, a1, a2, a3, a4, a5, a6, a7] st σ Q = Ev sh 50 85 [a0, a1, a2, a3, a4, a5, a6, a7] (.int 1073741824 :: st) σ Q := Ev_step rfl
theorem s_Remedies_goOn_85 : Ev sh 50 85 [a0, a1, a2, a3, a4, a5, a6, a7] (.int y :: .int x :: st) σ Q = if x = y then Ev sh 50 115 [a0, a1, a2, a3, a4, a5, a6, a7] st σ Q else Ev sh 50 88 [a0, a1, a2, a3, a4, a5, a6, a7] st σ Q := Ev_if rfl
theorem s_Remedies_goOn_88 : Ev sh 50 88 [some (.ref i), a1, a2, a3, a4, a5, a6, a7] st σ Q = Ev sh 50 89 [some (.ref i), a1, a2, a3, a4, a5, a6, a7] (.ref i :: st) σ Q := Ev_step rfl
theorem s_Remedies_goOn_89 (h : sh i = 5) : Ev sh 50 89 [a0, a1, a2, a3, a4, a5, a6, a7] (.ref i :: st) σ Q = Ev sh 50 92 [a0, a1, a2, a3, a4, a5, a6, a7] (.ref 43 :: st) σ Q := Ev_h h rfl
theorem s_Remedies_goOn_92 : Ev sh 50 92 [a0, a1, a2, a3, a4, a5, a6, some (.int x)] st σ Q = Ev sh 50 94 [a0, a1, a2, a3, a4, a5, a6, some (.int x)] (.int x :: st) σ Q := Ev_step rfl
theorem s_Remedies_goOn_94 : Ev sh 50 94 [some (.ref i), a1, a2, a3, a4, a5, a6, a7] st σ Q = Ev sh 50 95 [some (.ref i), a1, a2, a3, a4, a5, a6, a7] (.ref i :: st) σ Q := Ev_step rfl
theorem s_Remedies_goOn_95 (h : sh i = 5) : Ev sh 50 95 [a0, a1, a2, a3, a4, a5, a6, a7] (.ref i :: st) σ Q = Ev sh 50 98 [a0, a1, a2, a3, a4, a5, a6, a7] (.ref 43 :: st) σ Q := Ev_h h rfl
theorem s_Remedies_goOn_98 : Ev sh 50 98 [a0, a1, a2, a3, a4, a5, a6, some (.int x)] st σ Q = Ev sh 50 100 [a0, a1, a2, a3, a4, a5, a6, some (.int x)] (.int x :: st) σ Q := Ev_step rfl
theorem s_Remedies_goOn_100 (h : zin x (sh i) = true) : Ev sh 50 100 [a0, a1, a2, a3, a4, a5, a6, a7] (.int x :: .ref i :: st) σ Q = Ev sh 50 101 [a0, a1, a2, a3, a4, a5, a6, a7] (.int (σ i x.toNatClampNeg) :: st) σ Q := Ev_h h rfl
theorem s_Remedies_goOn_101 : Ev sh 50 101 [some (.ref i), a1, a2, a3, a4, a5, a6, a7] st σ Q = Ev sh 50 102 [some (.ref i), a1, a2, a3, a4, a5, a6, a7] (.ref i :: st) σ Q := Ev_step rfl
theorem s_Remedies_goOn_102 (h : sh i = 5) : Ev sh 50 102 [a0, a1, a2, a3, a4, a5, a6, a7] (.ref i :: st) σ Q = Ev sh 50 105 [a0, a1, a2, a3, a4, a5, a6, a7] (.ref 42 :: st) σ Q := Ev_h h rfl
theorem s_Remedies_goOn_105 : Ev sh 50 105 [a0, a1, a2, a3, a4, a5, some (.int x), a7] st σ Q = Ev sh 50 107 [a0, a1, a2, a3, a4, a5, some (.int x), a7] (.int x :: st) σ Q := Ev_step rfl
theorem s_Remedies_goOn_107 (h : zin x (sh i) = true) : Ev sh 50 107 [a0, a1, a2, a3, a4, a5, a6, a7] (.int x :: .ref i :: st) σ Q = Ev sh 50 108 [a0, a1, a2, a3, a4, a5, a6, a7] (.int (σ i x.toNatClampNeg) :: st) σ Q := Ev_h h rfl
theorem s_Remedies_goOn_108 : Ev sh 50 108 [a0, a1, a2, a3, some (.int x), a5, a6, a7] st σ Q = Ev sh 50 110 [a0, a1, a2, a3, some (.int x), a5, a6, a7] (.int x :: st) σ Q := Ev_step rfl
theorem s_Remedies_goOn_110 : Ev sh 50 110 [a0, a1, a2, a3, a4, a5, a6, a7] (.int y :: .int x :: st) σ Q = Ev sh 50 111 [a0, a1, a2, a3, a4, a5, a6, a7] (.int (x + y) :: st) σ Q := Ev_step rfl
theorem s_Remedies_goOn_111 : Ev sh 50 111 [a0, a1, a2, a3, a4, a5, a6, a7] [.int y, .int x, .int x1, .ref i0] σ Q = Ev sh 50 114 [a0, a1, a2, a3, a4, a5, a6, a7] [.int (if y < x then y else x), .int x1, .ref i0] σ Q := Ev_step rfl
theorem s_Remedies_goOn_114 (h : zin x (sh i) = true) : Ev sh 50 114 [a0, a1, a2, a3, a4, a5, a6, a7] (.int y :: .int x :: .ref i :: st) σ Q = Ev sh 50 115 [a0, a1, a2, a3, a4, a5, a6, a7] st (zup σ i x.toNatClampNeg y) Q := Ev_h h rfl
theorem s_Remedies_goOn_115 : Ev sh 50 115 [a0, a1, a2, a3, a4, some (.int x), a6, a7] st σ Q = Ev sh 50 118 [a0, a1, a2, a3, a4, some (.int (x + 1)), a6, a7] st σ Q := Ev_step rfl
theorem s_Remedies_goOn_118 : Ev sh 50 118 [a0, a1, a2, a3, a4, a5, a6, a7] st σ Q = Ev sh 50 22 [a0, a1, a2, a3, a4, a5, a6, a7] st σ Q := Ev_step rfl
theorem s_Remedies_goOn_121 : Ev sh 50 121 [a0, a1, a2, a3, a4, a5, a6, a7] [] σ Q = Q none σ := Ev_ret rfl
theorem s_Remedies_placeOfWay_0 : Ev sh 51 0 [some (.int x), a1] st σ Q = Ev sh 51 1 [some (.int x), a1] (.int x :: st) σ Q := Ev_step rfl
theorem s_Remedies_placeOfWay_1 : Ev sh 51 1 [a0, a1] st σ Q = Ev sh 51 3 [a0, a1] (.int (-6) :: st) σ Q := Ev_step rfl
theorem s_Remedies_placeOfWay_3 : Ev sh 51 3 [a0, a1] st σ Q = Ev sh 51 5 [a0, a1] (.int 6 :: st) σ Q := Ev_step rfl
theorem s_Remedies_placeOfWay_5 : Ev sh 51 5 [a0, a1] [.int x2, .int x1, .int x0] σ Q = Ev sh 150 0 [some (.int x0), some (.int x1), some (.int x2)] [] σ (fun r s => Ev sh 51 8 [a0, a1] (zpush r []) s Q) := Ev_call rfl
theorem s_Remedies_placeOfWay_8 : Ev sh 51 8 [a0, a1] (.int x :: st) σ Q = if x = 0 then Ev sh 51 31 [a0, a1] st σ Q else Ev sh 51 11 [a0, a1] st σ Q := Ev_if rfl
theorem s_Remedies_placeOfWay_11 : Ev sh 51 11 [a0, some (.int x)] st σ Q = Ev sh 51 12 [a0, some (.int x)] (.int x :: st) σ Q := Ev_step rfl
theorem s_Remedies_placeOfWay_12 : Ev sh 51 12 [a0, a1] st σ Q = Ev sh 51 13 [a0, a1] (.int 0 :: st) σ Q := Ev_step rfl
theorem s_Remedies_placeOfWay_13 : Ev sh 51 13 [a0, a1] st σ Q = Ev sh 51 14 [a0, a1] (.int 1 :: st) σ Q := Ev_step rfl
theorem s_Remedies_placeOfWay_14 : Ev sh 51 14 [a0, a1] [.int x2, .int x1, .int x0] σ Q = Ev sh 150 0 [some (.int x0), some (.int x1), some (.int x2)] [] σ (fun r s => Ev sh 51 17 [a0, a1] (zpush r []) s Q) := Ev_call rfl
theorem s_Remedies_placeOfWay_17 : Ev sh 51 17 [a0, a1] (.int x :: st) σ Q = if x = 0 then Ev sh 51 31 [a0, a1] st σ Q else Ev sh 51 20 [a0, a1] st σ Q := Ev_if rfl
theorem s_Remedies_placeOfWay_20 : Ev sh 51 20 [a0, a1] st σ Q = Ev sh 51 21 [a0, a1] (.int 2 :: st) σ Q := Ev_step rfl
theorem s_Remedies_placeOfWay_21 : Ev sh 51 21 [some (.int x), a1] st σ Q = Ev sh 51 22 [some (.int x), a1] (.int x :: st) σ Q := Ev_step rfl
theorem s_Remedies_placeOfWay_22 : Ev sh 51 22 [a0, a1] st σ Q = Ev sh 51 24 [a0, a1] (.int 6 :: st) σ Q := Ev_step rfl
theorem s_Remedies_placeOfWay_24 : Ev sh 51 24 [a0, a1] (.int y :: .int x :: st) σ Q = Ev sh 51 25 [a0, a1] (.int (x + y) :: st) σ Q := Ev_step rfl
theorem s_Remedies_placeOfWay_25 : Ev sh 51 25 [a0, a1] (.int y :: .int x :: st) σ Q = Ev sh 51 26 [a0, a1] (.int (x * y) :: st) σ Q := Ev_step rfl
theorem s_Remedies_placeOfWay_26 : Ev sh 51 26 [a0, some (.int x)] st σ Q = Ev sh 51 27 [a0, some (.int x)] (.int x :: st) σ Q := Ev_step rfl
theorem s_Remedies_placeOfWay_27 : Ev sh 51 27 [a0, a1] (.int y :: .int x :: st) σ Q = Ev sh 51 28 [a0, a1] (.int (x + y) :: st) σ Q := Ev_step rfl
theorem s_Remedies_placeOfWay_28 : Ev sh 51 28 [a0, a1] st σ Q = Ev sh 51 33 [a0, a1] st σ Q := Ev_step rfl
theorem s_Remedies_placeOfWay_31 : Ev sh 51 31 [a0, a1] st σ Q = Ev sh 51 33 [a0, a1] (.int (-9) :: st) σ Q := Ev_step rfl
theorem s_Remedies_placeOfWay_33 : Ev sh 51 33 [a0, a1] [.int x] σ Q = Q (some (.int x)) σ := Ev_ret rfl
theorem s_Remedies_fewestToTake_0 : Ev sh 52 0 [some (.ref i), a1] st σ Q = Ev sh 52 1 [some (.ref i), a1] (.ref i :: st) σ Q := Ev_step rfl
theorem s_Remedies_fewestToTake_1 (h : sh i = 5) : Ev sh 52 1 [a0, a1] (.ref i :: st) σ Q = Ev sh 52 4 [a0, a1] (.ref 37 :: st) σ Q := Ev_h h rfl
theorem s_Remedies_fewestToTake_4 : Ev sh 52 4 [some (.ref i), a1] st σ Q = Ev sh 52 5 [some (.ref i), a1] (.ref i :: st) σ Q := Ev_step rfl
theorem s_Remedies_fewestToTake_5 (h : sh i = 5) : Ev sh 52 5 [a0, a1] (.ref i :: st) σ Q = Ev sh 52 8 [a0, a1] (.ref 2 :: st) σ Q := Ev_h h rfl
theorem s_Remedies_fewestToTake_8 (h : sh i0 = 7) : Ev sh 52 8 [a0, a1] [.ref i1, .ref i0] σ Q = Ev sh 63 0 [some (.ref i0), some (.ref i1), none] [] σ (fun r s => Ev sh 52 11 [a0, a1] (zpush r []) s Q) := Ev_callh (zrecv_of (by decide) h) rfl
theorem s_Remedies_fewestToTake_11 : Ev sh 52 11 [a0, a1] st σ Q = Ev sh 52 12 [a0, a1] (.int 0 :: st) σ Q := Ev_step rfl
theorem s_Remedies_fewestToTake_12 : Ev sh 52 12 [a0, a1] (.int x :: st) σ Q = Ev sh 52 13 [zdrop2 a0, some (.int x)] st σ Q := Ev_step rfl
theorem s_Remedies_fewestToTake_13 : Ev sh 52 13 [a0, some (.int x)] st σ Q = Ev sh 52 14 [a0, some (.int x)] (.int x :: st) σ Q := Ev_step rfl
theorem s_Remedies_fewestToTake_14 : Ev sh 52 14 [some (.ref i), a1] st σ Q = Ev sh 52 15 [some (.ref i), a1] (.ref i :: st) σ Q := Ev_step rfl
theorem s_Remedies_fewestToTake_15 (h : sh i = 5) : Ev sh 52 15 [a0, a1] (.ref i :: st) σ Q = Ev sh 52 18 [a0, a1] (.ref 2 :: st) σ Q := Ev_h h rfl
theorem s_Remedies_fewestToTake_18 (h : sh i1 = 7) : Ev sh 52 18 [a0, a1] [.ref i1, .int x0] σ Q = Ev sh 70 0 [some (.ref i1)] [] σ (fun r s => Ev sh 52 21 [a0, a1] (zpush r [.int x0]) s Q) := Ev_callh (zrecv_of (by decide) h) rfl
theorem s_Remedies_fewestToTake_21 : Ev sh 52 21 [a0, a1] (.int y :: .int x :: st) σ Q = if y ≤ x then Ev sh 52 50 [a0, a1] st σ Q else Ev sh 52 24 [a0, a1] st σ Q := Ev_if rfl
theorem s_Remedies_fewestToTake_24 : Ev sh 52 24 [some (.ref i), a1] st σ Q = Ev sh 52 25 [some (.ref i), a1] (.ref i :: st) σ Q := Ev_step rfl
theorem s_Remedies_fewestToTake_25 (h : sh i = 5) : Ev sh 52 25 [a0, a1] (.ref i :: st) σ Q = Ev sh 52 28 [a0, a1] (.ref 37 :: st) σ Q := Ev_h h rfl
theorem s_Remedies_fewestToTake_28 (h : sh i0 = 7) : Ev sh 52 28 [a0, a1] [.ref i0] σ Q = Ev sh 90 0 [some (.ref i0)] [] σ (fun r s => Ev sh 52 31 [a0, a1] (zpush r []) s Q) := Ev_callh (zrecv_of (by decide) h) rfl
theorem s_Remedies_fewestToTake_31 : Ev sh 52 31 [a0, a1] (.int x :: st) σ Q = if x = 0 then Ev sh 52 36 [a0, a1] st σ Q else Ev sh 52 34 [a0, a1] st σ Q := Ev_if rfl
theorem s_Remedies_fewestToTake_34 : Ev sh 52 34 [a0, some (.int x)] st σ Q = Ev sh 52 35 [a0, some (.int x)] (.int x :: st) σ Q := Ev_step rfl
theorem s_Remedies_fewestToTake_35 : Ev sh 52 35 [a0, a1] [.int x] σ Q = Q (some (.int x)) σ := Ev_ret rfl
theorem s_Remedies_fewestToTake_36 : Ev sh 52 36 [some (.ref i), a1] st σ Q = Ev sh 52 37 [some (.ref i), a1] (.ref i :: st) σ Q := Ev_step rfl
theorem s_Remedies_fewestToTake_37 (h : sh i = 5) : Ev sh 52 37 [a0, a1] (.ref i :: st) σ Q = Ev sh 52 40 [a0, a1] (.ref 37 :: st) σ Q := Ev_h h rfl
theorem s_Remedies_fewestToTake_40 : Ev sh 52 40 [a0, a1] st σ Q = Ev sh 52 41 [a0, a1] (.int 1 :: st) σ Q := Ev_step rfl
theorem s_Remedies_fewestToTake_41 (h : sh i0 = 7) : Ev sh 52 41 [a0, a1] [.int x1, .ref i0] σ Q = Ev sh 67 0 [some (.ref i0), some (.int x1)] [] σ (fun r s => Ev sh 52 44 [a0, a1] (zpush r []) s Q) := Ev_callh (zrecv_of (by decide) h) rfl
theorem s_Remedies_fewestToTake_44 : Ev sh 52 44 [a0, some (.int x)] st σ Q = Ev sh 52 47 [a0, some (.int (x + 1))] st σ Q := Ev_step rfl
theorem s_Remedies_fewestToTake_47 : Ev sh 52 47 [a0, a1] st σ Q = Ev sh 52 13 [a0, a1] st σ Q := Ev_step rfl
theorem s_Remedies_fewestToTake_50 : Ev sh 52 50 [some (.ref i), a1] st σ Q = Ev sh 52 51 [some (.ref i), a1] (.ref i :: st) σ Q := Ev_step rfl
theorem s_Remedies_fewestToTake_51 (h : sh i = 5) : Ev sh 52 51 [a0, a1] (.ref i :: st) σ Q = Ev sh 52 54 [a0, a1] (.ref 2 :: st) σ Q := Ev_h h rfl
theorem s_Remedies_fewestToTake_54 (h : sh i0 = 7) : Ev sh 52 54 [a0, a1] [.ref i0] σ Q = Ev sh 70 0 [some (.ref i0)] [] σ (fun r s => Ev sh 52 57 [a0, a1] (zpush r []) s Q) := Ev_callh (zrecv_of (by decide) h) rfl
theorem s_Remedies_fewestToTake_57 : Ev sh 52 57 [a0, a1] [.int x] σ Q = Q (some (.int x)) σ := Ev_ret rfl
theorem s_Remedies_bestToTurn_0 : Ev sh 53 0 [a0, a1, a2, a3, a4] st σ Q = Ev sh 53 2 [a0, a1, a2, a3, a4] (.int (-9) :: st) σ Q := Ev_step rfl
theorem s_Remedies_bestToTurn_2 : Ev sh 53 2 [a0, a1, a2, a3, a4] (.int x :: st) σ Q = Ev sh 53 3 [zdrop2 a0, some (.int x), a2, a3, a4] st σ Q := Ev_step rfl
theorem s_Remedies_bestToTurn_3 : Ev sh 53 3 [some (.ref i), a1, a2, a3, a4] st σ Q = Ev sh 53 4 [some (.ref i), a1, a2, a3, a4] (.ref i :: st) σ Q := Ev_step rfl
theorem s_Remedies_bestToTurn_4 (h : sh i = 5) : Ev sh 53 4 [a0, a1, a2, a3, a4] (.ref i :: st) σ Q = Ev sh 53 7 [a0, a1, a2, a3, a4] (.ref 2 :: st) σ Q := Ev_h h rfl
theorem s_Remedies_bestToTurn_7 (h : sh i0 = 7) : Ev sh 53 7 [a0, a1, a2, a3, a4] [.ref i0] σ Q = Ev sh 91 0 [some (.ref i0), none, none] [] σ (fun r s => Ev sh 53 10 [a0, a1, a2, a3, a4] (zpush r []) s Q) := Ev_callh (zrecv_of (by decide) h) rfl
theorem s_Remedies_bestToTurn_10 : Ev sh 53 10 [a0, a1, a2, a3, a4] (.int x :: st) σ Q = Ev sh 53 11 [a0, zdrop2 a1, some (.int x), a3, a4] st σ Q := Ev_step rfl
theorem s_Remedies_bestToTurn_11 : Ev sh 53 11 [a0, a1, a2, a3, a4] st σ Q = Ev sh 53 12 [a0, a1, a2, a3, a4] (.int 0 :: st) σ Q := Ev_step rfl
theorem s_Remedies_bestToTurn_12 : Ev sh 53 12 [a0, a1, a2, a3, a4] (.int x :: st) σ Q = Ev sh 53 13 [a0, a1, zdrop2 a2, some (.int x), a4] st σ Q := Ev_step rfl
theorem s_Remedies_bestToTurn_13 : Ev sh 53 13 [a0, a1, a2, some (.int x), a4] st σ Q = Ev sh 53 14 [a0, a1, a2, some (.int x), a4] (.int x :: st) σ Q := Ev_step rfl
theorem s_Remedies_bestToTurn_14 : Ev sh 53 14 [some (.ref i), a1, a2, a3, a4] st σ Q = Ev sh 53 15 [some (.ref i), a1, a2, a3, a4] (.ref i :: st) σ Q := Ev_step rfl
theorem s_Remedies_bestToTurn_15 (h : sh i = 5) : Ev sh 53 15 [a0, a1, a2, a3, a4] (.ref i :: st) σ Q = Ev sh 53 18 [a0, a1, a2, a3, a4] (.ref 2 :: st) σ Q := Ev_h h rfl
theorem s_Remedies_bestToTurn_18 (h : sh i1 = 7) : Ev sh 53 18 [a0, a1, a2, a3, a4] [.ref i1, .int x0] σ Q = Ev sh 70 0 [some (.ref i1)] [] σ (fun r s => Ev sh 53 21 [a0, a1, a2, a3, a4] (zpush r [.int x0]) s Q) := Ev_callh (zrecv_of (by decide) h) rfl
theorem s_Remedies_bestToTurn_21 : Ev sh 53 21 [a0, a1, a2, a3, a4] (.int y :: .int x :: st) σ Q = if y ≤ x then Ev sh 53 80 [a0, a1, a2, a3, a4] st σ Q else Ev sh 53 24 [a0, a1, a2, a3, a4] st σ Q := Ev_if rfl
theorem s_Remedies_bestToTurn_24 : Ev sh 53 24 [some (.ref i), a1, a2, a3, a4] st σ Q = Ev sh 53 25 [some (.ref i), a1, a2, a3, a4] (.ref i :: st) σ Q := Ev_step rfl
theorem s_Remedies_bestToTurn_25 (h : sh i = 5) : Ev sh 53 25 [a0, a1, a2, a3, a4] (.ref i :: st) σ Q = Ev sh 53 28 [a0, a1, a2, a3, a4] (.ref 37 :: st) σ Q := Ev_h h rfl
theorem s_Remedies_bestToTurn_28 : Ev sh 53 28 [some (.ref i), a1, a2, a3, a4] st σ Q = Ev sh 53 29 [some (.ref i), a1, a2, a3, a4] (.ref i :: st) σ Q := Ev_step rfl
theorem s_Remedies_bestToTurn_29 (h : sh i = 5) : Ev sh 53 29 [a0, a1, a2, a3, a4] (.ref i :: st) σ Q = Ev sh 53 32 [a0, a1, a2, a3, a4] (.ref 2 :: st) σ Q := Ev_h h rfl
theorem s_Remedies_bestToTurn_32 (h : sh i0 = 7) : Ev sh 53 32 [a0, a1, a2, a3, a4] [.ref i1, .ref i0] σ Q = Ev sh 63 0 [some (.ref i0), some (.ref i1), none] [] σ (fun r s => Ev sh 53 35 [a0, a1, a2, a3, a4] (zpush r []) s Q) := Ev_callh (zrecv_of (by decide) h) rfl
theorem s_Remedies_bestToTurn_35 : Ev sh 53 35 [some (.ref i), a1, a2, a3, a4] st σ Q = Ev sh 53 36 [some (.ref i), a1, a2, a3, a4] (.ref i :: st) σ Q := Ev_step rfl
theorem s_Remedies_bestToTurn_36 (h : sh i = 5) : Ev sh 53 36 [a0, a1, a2, a3, a4] (.ref i :: st) σ Q = Ev sh 53 39 [a0, a1, a2, a3, a4] (.ref 37 :: st) σ Q := Ev_h h rfl
theorem s_Remedies_bestToTurn_39 : Ev sh 53 39 [a0, a1, a2, some (.int x), a4] st σ Q = Ev sh 53 40 [a0, a1, a2, some (.int x), a4] (.int x :: st) σ Q := Ev_step rfl
theorem s_Remedies_bestToTurn_40 : Ev sh 53 40 [some (.ref i), a1, a2, a3, a4] st σ Q = Ev sh 53 41 [some (.ref i), a1, a2, a3, a4] (.ref i :: st) σ Q := Ev_step rfl
theorem s_Remedies_bestToTurn_41 (h : sh i = 5) : Ev sh 53 41 [a0, a1, a2, a3, a4] (.ref i :: st) σ Q = Ev sh 53 44 [a0, a1, a2, a3, a4] (.ref 2 :: st) σ Q := Ev_h h rfl
theorem s_Remedies_bestToTurn_44 : Ev sh 53 44 [a0, a1, a2, some (.int x), a4] st σ Q = Ev sh 53 45 [a0, a1, a2, some (.int x), a4] (.int x :: st) σ Q := Ev_step rfl
theorem s_Remedies_bestToTurn_45 (h : sh i2 = 7) : Ev sh 53 45 [a0, a1, a2, a3, a4] [.int x3, .ref i2, .int x1, .ref i0] σ Q = Ev sh 75 0 [some (.ref i2), some (.int x3)] [] σ (fun r s => Ev sh 53 48 [a0, a1, a2, a3, a4] (zpush r [.int x1, .ref i0]) s Q) := Ev_callh (zrecv_of (by decide) h) rfl
theorem s_Remedies_bestToTurn_48 : Ev sh 53 48 [a0, a1, a2, a3, a4] [.int x2, .int x1, .ref i0] σ Q = Ev sh 154 0 [some (.int x2)] [] σ (fun r s => Ev sh 53 51 [a0, a1, a2, a3, a4] (zpush r [.int x1, .ref i0]) s Q) := Ev_call rfl
theorem s_Remedies_bestToTurn_51 (h : sh i0 = 7) : Ev sh 53 51 [a0, a1, a2, a3, a4] [.int x2, .int x1, .ref i0] σ Q = Ev sh 66 0 [some (.ref i0), some (.int x1), some (.int x2)] [] σ (fun r s => Ev sh 53 54 [a0, a1, a2, a3, a4] (zpush r []) s Q) := Ev_callh (zrecv_of (by decide) h) rfl
theorem s_Remedies_bestToTurn_54 : Ev sh 53 54 [some (.ref i), a1, a2, a3, a4] st σ Q = Ev sh 53 55 [some (.ref i), a1, a2, a3, a4] (.ref i :: st) σ Q := Ev_step rfl
theorem s_Remedies_bestToTurn_55 (h : sh i = 5) : Ev sh 53 55 [a0, a1, a2, a3, a4] (.ref i :: st) σ Q = Ev sh 53 58 [a0, a1, a2, a3, a4] (.ref 37 :: st) σ Q := Ev_h h rfl
theorem s_Remedies_bestToTurn_58 (h : sh i0 = 7) : Ev sh 53 58 [a0, a1, a2, a3, a4] [.ref i0] σ Q = Ev sh 91 0 [some (.ref i0), none, none] [] σ (fun r s => Ev sh 53 61 [a0, a1, a2, a3, a4] (zpush r []) s Q) := Ev_callh (zrecv_of (by decide) h) rfl
theorem s_Remedies_bestToTurn_61 : Ev sh 53 61 [a0, a1, a2, a3, a4] (.int x :: st) σ Q = Ev sh 53 63 [a0, a1, a2, zdrop2 a3, some (.int x)] st σ Q := Ev_step rfl
theorem s_Remedies_bestToTurn_63 : Ev sh 53 63 [a0, a1, a2, a3, some (.int x)] st σ Q = Ev sh 53 65 [a0, a1, a2, a3, some (.int x)] (.int x :: st) σ Q := Ev_step rfl
theorem s_Remedies_bestToTurn_65 : Ev sh 53 65 [a0, a1, some (.int x), a3, a4] st σ Q = Ev sh 53 66 [a0, a1, some (.int x), a3, a4] (.int x :: st) σ Q := Ev_step rfl
theorem s_Remedies_bestToTurn_66 : Ev sh 53 66 [a0, a1, a2, a3, a4] (.int y :: .int x :: st) σ Q = if x ≤ y then Ev sh 53 74 [a0, a1, a2, a3, a4] st σ Q else Ev sh 53 69 [a0, a1, a2, a3, a4] st σ Q := Ev_if rfl
theorem s_Remedies_bestToTurn_69 : Ev sh 53 69 [a0, a1, a2, some (.int x), a4] st σ Q = Ev sh 53 70 [a0, a1, a2, some (.int x), a4] (.int x :: st) σ Q := Ev_step rfl
theorem s_Remedies_bestToTurn_70 : Ev sh 53 70 [a0, a1, a2, a3, a4] (.int x :: st) σ Q = Ev sh 53 71 [zdrop2 a0, some (.int x), a2, a3, a4] st σ Q := Ev_step rfl
theorem s_Remedies_bestToTurn_71 : Ev sh 53 71 [a0, a1, a2, a3, some (.int x)] st σ Q = Ev sh 53 73 [a0, a1, a2, a3, some (.int x)] (.int x :: st) σ Q := Ev_step rfl
theorem s_Remedies_bestToTurn_73 : Ev sh 53 73 [a0, a1, a2, a3, a4] (.int x :: st) σ Q = Ev sh 53 74 [a0, zdrop2 a1, some (.int x), a3, a4] st σ Q := Ev_step rfl
theorem s_Remedies_bestToTurn_74 : Ev sh 53 74 [a0, a1, a2, some (.int x), a4] st σ Q = Ev sh 53 77 [a0, a1, a2, some (.int (x + 1)), a4] st σ Q := Ev_step rfl
theorem s_Remedies_bestToTurn_77 : Ev sh 53 77 [a0, a1, a2, a3, a4] st σ Q = Ev sh 53 13 [a0, a1, a2, a3, a4] st σ Q := Ev_step rfl
theorem s_Remedies_bestToTurn_80 : Ev sh 53 80 [a0, some (.int x), a2, a3, a4] st σ Q = Ev sh 53 81 [a0, some (.int x), a2, a3, a4] (.int x :: st) σ Q := Ev_step rfl
theorem s_Remedies_bestToTurn_81 : Ev sh 53 81 [a0, a1, a2, a3, a4] [.int x] σ Q = Q (some (.int x)) σ := Ev_ret rfl
theorem s_Remedies_layersThatFit_0 : Ev sh 54 0 [a0, a1, a2, a3, a4] st σ Q = Ev sh 54 1 [a0, a1, a2, a3, a4] (.int 0 :: st) σ Q := Ev_step rfl
theorem s_Remedies_layersThatFit_1 : Ev sh 54 1 [a0, a1, a2, a3, a4] (.int x :: st) σ Q = Ev sh 54 2 [a0, a1, zdrop2 a2, some (.int x), a4] st σ Q := Ev_step rfl
theorem s_Remedies_layersThatFit_2 : Ev sh 54 2 [a0, a1, a2, a3, a4] st σ Q = Ev sh 54 3 [a0, a1, a2, a3, a4] (.int 0 :: st) σ Q := Ev_step rfl
theorem s_Remedies_layersThatFit_3 : Ev sh 54 3 [a0, a1, a2, a3, a4] (.int x :: st) σ Q = Ev sh 54 5 [a0, a1, a2, zdrop2 a3, some (.int x)] st σ Q := Ev_step rfl
theorem s_Remedies_layersThatFit_5 : Ev sh 54 5 [a0, a1, a2, a3, some (.int x)] st σ Q = Ev sh 54 7 [a0, a1, a2, a3, some (.int x)] (.int x :: st) σ Q := Ev_step rfl
theorem s_Remedies_layersThatFit_7 : Ev sh 54 7 [a0, a1, a2, a3, a4] st σ Q = Ev sh 54 8 [a0, a1, a2, a3, a4] (.int 1 :: st) σ Q := Ev_step rfl
theorem s_Remedies_layersThatFit_8 : Ev sh 54 8 [a0, a1, a2, a3, a4] (.int y :: .int x :: st) σ Q = if y < x then Ev sh 54 55 [a0, a1, a2, a3, a4] st σ Q else Ev sh 54 11 [a0, a1, a2, a3, a4] st σ Q := Ev_if rfl
theorem s_Remedies_layersThatFit_11 : Ev sh 54 11 [some (.ref i), a1, a2, a3, a4] st σ Q = Ev sh 54 12 [some (.ref i), a1, a2, a3, a4] (.ref i :: st) σ Q := Ev_step rfl
theorem s_Remedies_layersThatFit_12 (h : sh i = 5) : Ev sh 54 12 [a0, a1, a2, a3, a4] (.ref i :: st) σ Q = Ev sh 54 15 [a0, a1, a2, a3, a4] (.ref 37 :: st) σ Q := Ev_h h rfl
theorem s_Remedies_layersThatFit_15 : Ev sh 54 15 [some (.ref i), a1, a2, a3, a4] st σ Q = Ev sh 54 16 [some (.ref i), a1, a2, a3, a4] (.ref i :: st) σ Q := Ev_step rfl
theorem s_Remedies_layersThatFit_16 (h : sh i = 5) : Ev sh 54 16 [a0, a1, a2, a3, a4] (.ref i :: st) σ Q = Ev sh 54 19 [a0, a1, a2, a3, a4] (.ref 2 :: st) σ Q := Ev_h h rfl
theorem s_Remedies_layersThatFit_19 (h : sh i0 = 7) : Ev sh 54 19 [a0, a1, a2, a3, a4] [.ref i1, .ref i0] σ Q = Ev sh 63 0 [some (.ref i0), some (.ref i1), none] [] σ (fun r s => Ev sh 54 22 [a0, a1, a2, a3, a4] (zpush r []) s Q) := Ev_callh (zrecv_of (by decide) h) rfl
theorem s_Remedies_layersThatFit_22 : Ev sh 54 22 [some (.ref i), a1, a2, a3, a4] st σ Q = Ev sh 54 23 [some (.ref i), a1, a2, a3, a4] (.ref i :: st) σ Q := Ev_step rfl
theorem s_Remedies_layersThatFit_23 (h : sh i = 5) : Ev sh 54 23 [a0, a1, a2, a3, a4] (.ref i :: st) σ Q = Ev sh 54 26 [a0, a1, a2, a3, a4] (.ref 37 :: st) σ Q := Ev_h h rfl
theorem s_Remedies_layersThatFit_26 : Ev sh 54 26 [a0, some (.int x), a2, a3, a4] st σ Q = Ev sh 54 27 [a0, some (.int x), a2, a3, a4] (.int x :: st) σ Q := Ev_step rfl
theorem s_Remedies_layersThatFit_27 : Ev sh 54 27 [a0, a1, a2, a3, some (.int x)] st σ Q = Ev sh 54 29 [a0, a1, a2, a3, some (.int x)] (.int x :: st) σ Q := Ev_step rfl
theorem s_Remedies_layersThatFit_29 (h : sh i0 = 7) : Ev sh 54 29 [a0, a1, a2, a3, a4] [.int x2, .int x1, .ref i0] σ Q = Ev sh 66 0 [some (.ref i0), some (.int x1), some (.int x2)] [] σ (fun r s => Ev sh 54 32 [a0, a1, a2, a3, a4] (zpush r []) s Q) := Ev_callh (zrecv_of (by decide) h) rfl
theorem s_Remedies_layersThatFit_32 : Ev sh 54 32 [a0, a1, a2, some (.int x), a4] st σ Q = Ev sh 54 33 [a0, a1, a2, some (.int x), a4] (.int x :: st) σ Q := Ev_step rfl
theorem s_Remedies_layersThatFit_33 : Ev sh 54 33 [a0, a1, some (.ref i), a3, a4] st σ Q = Ev sh 54 34 [a0, a1, some (.ref i), a3, a4] (.ref i :: st) σ Q := Ev_step rfl
theorem s_Remedies_layersThatFit_34 : Ev sh 54 34 [some (.ref i), a1, a2, a3, a4] st σ Q = Ev sh 54 35 [some (.ref i), a1, a2, a3, a4] (.ref i :: st) σ Q := Ev_step rfl
theorem s_Remedies_layersThatFit_35 (h : sh i = 5) : Ev sh 54 35 [a0, a1, a2, a3, a4] (.ref i :: st) σ Q = Ev sh 54 38 [a0, a1, a2, a3, a4] (.ref 37 :: st) σ Q := Ev_h h rfl
theorem s_Remedies_layersThatFit_38 (h : sh i1 = 6) : Ev sh 54 38 [a0, a1, a2, a3, a4] [.ref i2, .ref i1, .int x0] σ Q = Ev sh 61 0 [some (.ref i1), some (.ref i2), none] [] σ (fun r s => Ev sh 54 41 [a0, a1, a2, a3, a4] (zpush r [.int x0]) s Q) := Ev_callh (zrecv_of (by decide) h) rfl
theorem s_Remedies_layersThatFit_41 : Ev sh 54 41 [a0, a1, a2, a3, a4] [.int x1, .int x0] σ Q = Ev sh 155 0 [some (.int x1)] [] σ (fun r s => Ev sh 54 44 [a0, a1, a2, a3, a4] (zpush r [.int x0]) s Q) := Ev_call rfl
theorem s_Remedies_layersThatFit_44 : Ev sh 54 44 [a0, a1, a2, a3, some (.int x)] st σ Q = Ev sh 54 46 [a0, a1, a2, a3, some (.int x)] (.int x :: st) σ Q := Ev_step rfl
theorem s_Remedies_layersThatFit_46 : Ev sh 54 46 [a0, a1, a2, a3, a4] (.int y :: .int x :: st) σ Q = Ev sh 54 47 [a0, a1, a2, a3, a4] (.int (x <<< (y &&& 31)) :: st) σ Q := Ev_step rfl
theorem s_Remedies_layersThatFit_47 : Ev sh 54 47 [a0, a1, a2, a3, a4] (.int y :: .int x :: st) σ Q = Ev sh 54 48 [a0, a1, a2, a3, a4] (.int (x ||| y) :: st) σ Q := Ev_step rfl
theorem s_Remedies_layersThatFit_48 : Ev sh 54 48 [a0, a1, a2, a3, a4] (.int x :: st) σ Q = Ev sh 54 49 [a0, a1, zdrop2 a2, some (.int x), a4] st σ Q := Ev_step rfl
theorem s_Remedies_layersThatFit_49 : Ev sh 54 49 [a0, a1, a2, a3, some (.int x)] st σ Q = Ev sh 54 52 [a0, a1, a2, a3, some (.int (x + 1))] st σ Q := Ev_step rfl
theorem s_Remedies_layersThatFit_52 : Ev sh 54 52 [a0, a1, a2, a3, a4] st σ Q = Ev sh 54 5 [a0, a1, a2, a3, a4] st σ Q := Ev_step rfl
theorem s_Remedies_layersThatFit_55 : Ev sh 54 55 [a0, a1, a2, some (.int x), a4] st σ Q = Ev sh 54 56 [a0, a1, a2, some (.int x), a4] (.int x :: st) σ Q := Ev_step rfl
theorem s_Remedies_layersThatFit_56 : Ev sh 54 56 [a0, a1, a2, a3, a4] [.int x] σ Q = Q (some (.int x)) σ := Ev_ret rfl
theorem s_Remedies_kindsThatFit_0 : Ev sh 55 0 [a0, a1, a2, a3, a4] st σ Q = Ev sh 55 1 [a0, a1, a2, a3, a4] (.int 0 :: st) σ Q := Ev_step rfl
theorem s_Remedies_kindsThatFit_1 : Ev sh 55 1 [a0, a1, a2, a3, a4] (.int x :: st) σ Q = Ev sh 55 2 [a0, a1, zdrop2 a2, some (.int x), a4] st σ Q := Ev_step rfl
theorem s_Remedies_kindsThatFit_2 : Ev sh 55 2 [a0, a1, a2, a3, a4] st σ Q = Ev sh 55 3 [a0, a1, a2, a3, a4] (.int 0 :: st) σ Q := Ev_step rfl
theorem s_Remedies_kindsThatFit_3 : Ev sh 55 3 [a0, a1, a2, a3, a4] (.int x :: st) σ Q = Ev sh 55 5 [a0, a1, a2, zdrop2 a3, some (.int x)] st σ Q := Ev_step rfl
theorem s_Remedies_kindsThatFit_5 : Ev sh 55 5 [a0, a1, a2, a3, some (.int x)] st σ Q = Ev sh 55 7 [a0, a1, a2, a3, some (.int x)] (.int x :: st) σ Q := Ev_step rfl
theorem s_Remedies_kindsThatFit_7 : Ev sh 55 7 [a0, a1, a2, a3, a4] st σ Q = Ev sh 55 9 [a0, a1, a2, a3, a4] (.int 6 :: st) σ Q := Ev_step rfl
theorem s_Remedies_kindsThatFit_9 : Ev sh 55 9 [a0, a1, a2, a3, a4] (.int y :: .int x :: st) σ Q = if y ≤ x then Ev sh 55 64 [a0, a1, a2, a3, a4] st σ Q else Ev sh 55 12 [a0, a1, a2, a3, a4] st σ Q := Ev_if rfl
theorem s_Remedies_kindsThatFit_12 : Ev sh 55 12 [some (.ref i), a1, a2, a3, a4] st σ Q = Ev sh 55 13 [some (.ref i), a1, a2, a3, a4] (.ref i :: st) σ Q := Ev_step rfl
theorem s_Remedies_kindsThatFit_13 (h : sh i = 5) : Ev sh 55 13 [a0, a1, a2, a3, a4] (.ref i :: st) σ Q = Ev sh 55 16 [a0, a1, a2, a3, a4] (.ref 37 :: st) σ Q := Ev_h h rfl
theorem s_Remedies_kindsThatFit_16 : Ev sh 55 16 [some (.ref i), a1, a2, a3, a4] st σ Q = Ev sh 55 17 [some (.ref i), a1, a2, a3, a4] (.ref i :: st) σ Q := Ev_step rfl
theorem s_Remedies_kindsThatFit_17 (h : sh i = 5) : Ev sh 55 17 [a0, a1, a2, a3, a4] (.ref i :: st) σ Q = Ev sh 55 20 [a0, a1, a2, a3, a4] (.ref 2 :: st) σ Q := Ev_h h rfl
theorem s_Remedies_kindsThatFit_20 (h : sh i0 = 7) : Ev sh 55 20 [a0, a1, a2, a3, a4] [.ref i1, .ref i0] σ Q = Ev sh 63 0 [some (.ref i0), some (.ref i1), none] [] σ (fun r s => Ev sh 55 23 [a0, a1, a2, a3, a4] (zpush r []) s Q) := Ev_callh (zrecv_of (by decide) h) rfl
theorem s_Remedies_kindsThatFit_23 : Ev sh 55 23 [some (.ref i), a1, a2, a3, a4] st σ Q = Ev sh 55 24 [some (.ref i), a1, a2, a3, a4] (.ref i :: st) σ Q := Ev_step rfl
theorem s_Remedies_kindsThatFit_24 (h : sh i = 5) : Ev sh 55 24 [a0, a1, a2, a3, a4] (.ref i :: st) σ Q = Ev sh 55 27 [a0, a1, a2, a3, a4] (.ref 37 :: st) σ Q := Ev_h h rfl
theorem s_Remedies_kindsThatFit_27 : Ev sh 55 27 [a0, some (.int x), a2, a3, a4] st σ Q = Ev sh 55 28 [a0, some (.int x), a2, a3, a4] (.int x :: st) σ Q := Ev_step rfl
theorem s_Remedies_kindsThatFit_28 : Ev sh 55 28 [a0, a1, a2, a3, some (.int x)] st σ Q = Ev sh 55 30 [a0, a1, a2, a3, some (.int x)] (.int x :: st) σ Q := Ev_step rfl
theorem s_Remedies_kindsThatFit_30 : Ev sh 55 30 [some (.ref i), a1, a2, a3, a4] st σ Q = Ev sh 55 31 [some (.ref i), a1, a2, a3, a4] (.ref i :: st) σ Q := Ev_step rfl
theorem s_Remedies_kindsThatFit_31 (h : sh i = 5) : Ev sh 55 31 [a0, a1, a2, a3, a4] (.ref i :: st) σ Q = Ev sh 55 34 [a0, a1, a2, a3, a4] (.ref 2 :: st) σ Q := Ev_h h rfl
theorem s_Remedies_kindsThatFit_34 : Ev sh 55 34 [a0, some (.int x), a2, a3, a4] st σ Q = Ev sh 55 35 [a0, some (.int x), a2, a3, a4] (.int x :: st) σ Q := Ev_step rfl
theorem s_Remedies_kindsThatFit_35 (h : sh i3 = 7) : Ev sh 55 35 [a0, a1, a2, a3, a4] [.int x4, .ref i3, .int x2, .int x1, .ref i0] σ Q = Ev sh 74 0 [some (.ref i3), some (.int x4)] [] σ (fun r s => Ev sh 55 38 [a0, a1, a2, a3, a4] (zpush r [.int x2, .int x1, .ref i0]) s Q) := Ev_callh (zrecv_of (by decide) h) rfl
theorem s_Remedies_kindsThatFit_38 (h : sh i0 = 7) : Ev sh 55 38 [a0, a1, a2, a3, a4] [.int x3, .int x2, .int x1, .ref i0] σ Q = Ev sh 65 0 [some (.ref i0), some (.int x1), some (.int x2), some (.int x3)] [] σ (fun r s => Ev sh 55 41 [a0, a1, a2, a3, a4] (zpush r []) s Q) := Ev_callh (zrecv_of (by decide) h) rfl
theorem s_Remedies_kindsThatFit_41 : Ev sh 55 41 [a0, a1, a2, some (.int x), a4] st σ Q = Ev sh 55 42 [a0, a1, a2, some (.int x), a4] (.int x :: st) σ Q := Ev_step rfl
theorem s_Remedies_kindsThatFit_42 : Ev sh 55 42 [a0, a1, some (.ref i), a3, a4] st σ Q = Ev sh 55 43 [a0, a1, some (.ref i), a3, a4] (.ref i :: st) σ Q := Ev_step rfl
theorem s_Remedies_kindsThatFit_43 : Ev sh 55 43 [some (.ref i), a1, a2, a3, a4] st σ Q = Ev sh 55 44 [some (.ref i), a1, a2, a3, a4] (.ref i :: st) σ Q := Ev_step rfl
theorem s_Remedies_kindsThatFit_44 (h : sh i = 5) : Ev sh 55 44 [a0, a1, a2, a3, a4] (.ref i :: st) σ Q = Ev sh 55 47 [a0, a1, a2, a3, a4] (.ref 37 :: st) σ Q := Ev_h h rfl
theorem s_Remedies_kindsThatFit_47 (h : sh i1 = 6) : Ev sh 55 47 [a0, a1, a2, a3, a4] [.ref i2, .ref i1, .int x0] σ Q = Ev sh 61 0 [some (.ref i1), some (.ref i2), none] [] σ (fun r s => Ev sh 55 50 [a0, a1, a2, a3, a4] (zpush r [.int x0]) s Q) := Ev_callh (zrecv_of (by decide) h) rfl
theorem s_Remedies_kindsThatFit_50 : Ev sh 55 50 [a0, a1, a2, a3, a4] [.int x1, .int x0] σ Q = Ev sh 155 0 [some (.int x1)] [] σ (fun r s => Ev sh 55 53 [a0, a1, a2, a3, a4] (zpush r [.int x0]) s Q) := Ev_call rfl
theorem s_Remedies_kindsThatFit_53 : Ev sh 55 53 [a0, a1, a2, a3, some (.int x)] st σ Q = Ev sh 55 55 [a0, a1, a2, a3, some (.int x)] (.int x :: st) σ Q := Ev_step rfl
theorem s_Remedies_kindsThatFit_55 : Ev sh 55 55 [a0, a1, a2, a3, a4] (.int y :: .int x :: st) σ Q = Ev sh 55 56 [a0, a1, a2, a3, a4] (.int (x <<< (y &&& 31)) :: st) σ Q := Ev_step rfl
theorem s_Remedies_kindsThatFit_56 : Ev sh 55 56 [a0, a1, a2, a3, a4] (.int y :: .int x :: st) σ Q = Ev sh 55 57 [a0, a1, a2, a3, a4] (.int (x ||| y) :: st) σ Q := Ev_step rfl
theorem s_Remedies_kindsThatFit_57 : Ev sh 55 57 [a0, a1, a2, a3, a4] (.int x :: st) σ Q = Ev sh 55 58 [a0, a1, zdrop2 a2, some (.int x), a4] st σ Q := Ev_step rfl
theorem s_Remedies_kindsThatFit_58 : Ev sh 55 58 [a0, a1, a2, a3, some (.int x)] st σ Q = Ev sh 55 61 [a0, a1, a2, a3, some (.int (x + 1))] st σ Q := Ev_step rfl
theorem s_Remedies_kindsThatFit_61 : Ev sh 55 61 [a0, a1, a2, a3, a4] st σ Q = Ev sh 55 5 [a0, a1, a2, a3, a4] st σ Q := Ev_step rfl
theorem s_Remedies_kindsThatFit_64 : Ev sh 55 64 [a0, a1, a2, some (.int x), a4] st σ Q = Ev sh 55 65 [a0, a1, a2, some (.int x), a4] (.int x :: st) σ Q := Ev_step rfl
theorem s_Remedies_kindsThatFit_65 : Ev sh 55 65 [a0, a1, a2, a3, a4] [.int x] σ Q = Q (some (.int x)) σ := Ev_ret rfl
theorem s_Remedies_figuresThatFit_0 : Ev sh 56 0 [a0, a1, a2, a3, a4] st σ Q = Ev sh 56 1 [a0, a1, a2, a3, a4] (.int 0 :: st) σ Q := Ev_step rfl
theorem s_Remedies_figuresThatFit_1 : Ev sh 56 1 [a0, a1, a2, a3, a4] (.int x :: st) σ Q = Ev sh 56 2 [a0, a1, zdrop2 a2, some (.int x), a4] st σ Q := Ev_step rfl
theorem s_Remedies_figuresThatFit_2 : Ev sh 56 2 [a0, a1, a2, a3, a4] st σ Q = Ev sh 56 3 [a0, a1, a2, a3, a4] (.int 0 :: st) σ Q := Ev_step rfl
theorem s_Remedies_figuresThatFit_3 : Ev sh 56 3 [a0, a1, a2, a3, a4] (.int x :: st) σ Q = Ev sh 56 5 [a0, a1, a2, zdrop2 a3, some (.int x)] st σ Q := Ev_step rfl
theorem s_Remedies_figuresThatFit_5 : Ev sh 56 5 [a0, a1, a2, a3, some (.int x)] st σ Q = Ev sh 56 7 [a0, a1, a2, a3, some (.int x)] (.int x :: st) σ Q := Ev_step rfl
theorem s_Remedies_figuresThatFit_7 : Ev sh 56 7 [a0, a1, a2, a3, a4] st σ Q = Ev sh 56 9 [a0, a1, a2, a3, a4] (.int 10 :: st) σ Q := Ev_step rfl
theorem s_Remedies_figuresThatFit_9 : Ev sh 56 9 [a0, a1, a2, a3, a4] (.int y :: .int x :: st) σ Q = if y ≤ x then Ev sh 56 64 [a0, a1, a2, a3, a4] st σ Q else Ev sh 56 12 [a0, a1, a2, a3, a4] st σ Q := Ev_if rfl
theorem s_Remedies_figuresThatFit_12 : Ev sh 56 12 [some (.ref i), a1, a2, a3, a4] st σ Q = Ev sh 56 13 [some (.ref i), a1, a2, a3, a4] (.ref i :: st) σ Q := Ev_step rfl
theorem s_Remedies_figuresThatFit_13 (h : sh i = 5) : Ev sh 56 13 [a0, a1, a2, a3, a4] (.ref i :: st) σ Q = Ev sh 56 16 [a0, a1, a2, a3, a4] (.ref 37 :: st) σ Q := Ev_h h rfl
theorem s_Remedies_figuresThatFit_16 : Ev sh 56 16 [some (.ref i), a1, a2, a3, a4] st σ Q = Ev sh 56 17 [some (.ref i), a1, a2, a3, a4] (.ref i :: st) σ Q := Ev_step rfl
theorem s_Remedies_figuresThatFit_17 (h : sh i = 5) : Ev sh 56 17 [a0, a1, a2, a3, a4] (.ref i :: st) σ Q = Ev sh 56 20 [a0, a1, a2, a3, a4] (.ref 2 :: st) σ Q := Ev_h h rfl
theorem s_Remedies_figuresThatFit_20 (h : sh i0 = 7) : Ev sh 56 20 [a0, a1, a2, a3, a4] [.ref i1, .ref i0] σ Q = Ev sh 63 0 [some (.ref i0), some (.ref i1), none] [] σ (fun r s => Ev sh 56 23 [a0, a1, a2, a3, a4] (zpush r []) s Q) := Ev_callh (zrecv_of (by decide) h) rfl
theorem s_Remedies_figuresThatFit_23 : Ev sh 56 23 [some (.ref i), a1, a2, a3, a4] st σ Q = Ev sh 56 24 [some (.ref i), a1, a2, a3, a4] (.ref i :: st) σ Q := Ev_step rfl
theorem s_Remedies_figuresThatFit_24 (h : sh i = 5) : Ev sh 56 24 [a0, a1, a2, a3, a4] (.ref i :: st) σ Q = Ev sh 56 27 [a0, a1, a2, a3, a4] (.ref 37 :: st) σ Q := Ev_h h rfl
theorem s_Remedies_figuresThatFit_27 : Ev sh 56 27 [a0, some (.int x), a2, a3, a4] st σ Q = Ev sh 56 28 [a0, some (.int x), a2, a3, a4] (.int x :: st) σ Q := Ev_step rfl
theorem s_Remedies_figuresThatFit_28 : Ev sh 56 28 [some (.ref i), a1, a2, a3, a4] st σ Q = Ev sh 56 29 [some (.ref i), a1, a2, a3, a4] (.ref i :: st) σ Q := Ev_step rfl
theorem s_Remedies_figuresThatFit_29 (h : sh i = 5) : Ev sh 56 29 [a0, a1, a2, a3, a4] (.ref i :: st) σ Q = Ev sh 56 32 [a0, a1, a2, a3, a4] (.ref 2 :: st) σ Q := Ev_h h rfl
theorem s_Remedies_figuresThatFit_32 : Ev sh 56 32 [a0, some (.int x), a2, a3, a4] st σ Q = Ev sh 56 33 [a0, some (.int x), a2, a3, a4] (.int x :: st) σ Q := Ev_step rfl
theorem s_Remedies_figuresThatFit_33 (h : sh i2 = 7) : Ev sh 56 33 [a0, a1, a2, a3, a4] [.int x3, .ref i2, .int x1, .ref i0] σ Q = Ev sh 73 0 [some (.ref i2), some (.int x3)] [] σ (fun r s => Ev sh 56 36 [a0, a1, a2, a3, a4] (zpush r [.int x1, .ref i0]) s Q) := Ev_callh (zrecv_of (by decide) h) rfl
theorem s_Remedies_figuresThatFit_36 : Ev sh 56 36 [a0, a1, a2, a3, some (.int x)] st σ Q = Ev sh 56 38 [a0, a1, a2, a3, some (.int x)] (.int x :: st) σ Q := Ev_step rfl
theorem s_Remedies_figuresThatFit_38 (h : sh i0 = 7) : Ev sh 56 38 [a0, a1, a2, a3, a4] [.int x3, .int x2, .int x1, .ref i0] σ Q = Ev sh 65 0 [some (.ref i0), some (.int x1), some (.int x2), some (.int x3)] [] σ (fun r s => Ev sh 56 41 [a0, a1, a2, a3, a4] (zpush r []) s Q) := Ev_callh (zrecv_of (by decide) h) rfl
theorem s_Remedies_figuresThatFit_41 : Ev sh 56 41 [a0, a1, a2, some (.int x), a4] st σ Q = Ev sh 56 42 [a0, a1, a2, some (.int x), a4] (.int x :: st) σ Q := Ev_step rfl
theorem s_Remedies_figuresThatFit_42 : Ev sh 56 42 [a0, a1, some (.ref i), a3, a4] st σ Q = Ev sh 56 43 [a0, a1, some (.ref i), a3, a4] (.ref i :: st) σ Q := Ev_step rfl
theorem s_Remedies_figuresThatFit_43 : Ev sh 56 43 [some (.ref i), a1, a2, a3, a4] st σ Q = Ev sh 56 44 [some (.ref i), a1, a2, a3, a4] (.ref i :: st) σ Q := Ev_step rfl
theorem s_Remedies_figuresThatFit_44 (h : sh i = 5) : Ev sh 56 44 [a0, a1, a2, a3, a4] (.ref i :: st) σ Q = Ev sh 56 47 [a0, a1, a2, a3, a4] (.ref 37 :: st) σ Q := Ev_h h rfl
theorem s_Remedies_figuresThatFit_47 (h : sh i1 = 6) : Ev sh 56 47 [a0, a1, a2, a3, a4] [.ref i2, .ref i1, .int x0] σ Q = Ev sh 61 0 [some (.ref i1), some (.ref i2), none] [] σ (fun r s => Ev sh 56 50 [a0, a1, a2, a3, a4] (zpush r [.int x0]) s Q) := Ev_callh (zrecv_of (by decide) h) rfl
theorem s_Remedies_figuresThatFit_50 : Ev sh 56 50 [a0, a1, a2, a3, a4] [.int x1, .int x0] σ Q = Ev sh 155 0 [some (.int x1)] [] σ (fun r s => Ev sh 56 53 [a0, a1, a2, a3, a4] (zpush r [.int x0]) s Q) := Ev_call rfl
theorem s_Remedies_figuresThatFit_53 : Ev sh 56 53 [a0, a1, a2, a3, some (.int x)] st σ Q = Ev sh 56 55 [a0, a1, a2, a3, some (.int x)] (.int x :: st) σ Q := Ev_step rfl
theorem s_Remedies_figuresThatFit_55 : Ev sh 56 55 [a0, a1, a2, a3, a4] (.int y :: .int x :: st) σ Q = Ev sh 56 56 [a0, a1, a2, a3, a4] (.int (x <<< (y &&& 31)) :: st) σ Q := Ev_step rfl
theorem s_Remedies_figuresThatFit_56 : Ev sh 56 56 [a0, a1, a2, a3, a4] (.int y :: .int x :: st) σ Q = Ev sh 56 57 [a0, a1, a2, a3, a4] (.int (x ||| y) :: st) σ Q := Ev_step rfl
theorem s_Remedies_figuresThatFit_57 : Ev sh 56 57 [a0, a1, a2, a3, a4] (.int x :: st) σ Q = Ev sh 56 58 [a0, a1, zdrop2 a2, some (.int x), a4] st σ Q := Ev_step rfl
theorem s_Remedies_figuresThatFit_58 : Ev sh 56 58 [a0, a1, a2, a3, some (.int x)] st σ Q = Ev sh 56 61 [a0, a1, a2, a3, some (.int (x + 1))] st σ Q := Ev_step rfl
theorem s_Remedies_figuresThatFit_61 : Ev sh 56 61 [a0, a1, a2, a3, a4] st σ Q = Ev sh 56 5 [a0, a1, a2, a3, a4] st σ Q := Ev_step rfl
theorem s_Remedies_figuresThatFit_64 : Ev sh 56 64 [a0, a1, a2, some (.int x), a4] st σ Q = Ev sh 56 65 [a0, a1, a2, some (.int x), a4] (.int x :: st) σ Q := Ev_step rfl
theorem s_Remedies_figuresThatFit_65 : Ev sh 56 65 [a0, a1, a2, a3, a4] [.int x] σ Q = Q (some (.int x)) σ := Ev_ret rfl
theorem s_Row_number_0 : Ev sh 57 0 [some (.ref i)] st σ Q = Ev sh 57 1 [some (.ref i)] (.ref i :: st) σ Q := Ev_step rfl
theorem s_Row_number_1 (h : sh i = 6) : Ev sh 57 1 [a0] (.ref i :: st) σ Q = Ev sh 57 4 [a0] (.int (σ i 1) :: st) σ Q := Ev_h h rfl
theorem s_Row_number_4 : Ev sh 57 4 [a0] [.int x] σ Q = Q (some (.int x)) σ := Ev_ret rfl
theorem s_Row_isFull_0 : Ev sh 58 0 [some (.ref i)] st σ Q = Ev sh 58 1 [some (.ref i)] (.ref i :: st) σ Q := Ev_step rfl
theorem s_Row_isFull_1 (h : sh i = 6) : Ev sh 58 1 [a0] (.ref i :: st) σ Q = Ev sh 58 4 [a0] (.int (σ i 1) :: st) σ Q := Ev_h h rfl
theorem s_Row_isFull_4 : Ev sh 58 4 [a0] st σ Q = Ev sh 58 6 [a0] (.int 16 :: st) σ Q := Ev_step rfl
theorem s_Row_isFull_6 : Ev sh 58 6 [a0] (.int y :: .int x :: st) σ Q = if x < y then Ev sh 58 13 [a0] st σ Q else Ev sh 58 9 [a0] st σ Q := Ev_if rfl
theorem s_Row_isFull_9 : Ev sh 58 9 [a0] st σ Q = Ev sh 58 10 [a0] (.int 1 :: st) σ Q := Ev_step rfl
theorem s_Row_isFull_10 : Ev sh 58 10 [a0] st σ Q = Ev sh 58 14 [a0] st σ Q := Ev_step rfl
theorem s_Row_isFull_13 : Ev sh 58 13 [a0] st σ Q = Ev sh 58 14 [a0] (.int 0 :: st) σ Q := Ev_step rfl
theorem s_Row_isFull_14 (h : x = 0 ∨ x = 1) : Ev sh 58 14 [a0] [.int x] σ Q = Q (some (.int x)) σ := Ev_rh h rfl
theorem s_Row_add_0 : Ev sh 59 0 [some (.ref i), a1] st σ Q = Ev sh 59 1 [some (.ref i), a1] (.ref i :: st) σ Q := Ev_step rfl
theorem s_Row_add_1 (h : sh i = 6) : Ev sh 59 1 [a0, a1] (.ref i :: st) σ Q = Ev sh 59 4 [a0, a1] (.int (σ i 1) :: st) σ Q := Ev_h h rfl
theorem s_Row_add_4 : Ev sh 59 4 [a0, a1] (.int x :: st) σ Q = if x < 0 then Ev sh 59 36 [a0, a1] st σ Q else Ev sh 59 7 [a0, a1] st σ Q := Ev_if rfl
theorem s_Row_add_7 : Ev sh 59 7 [some (.ref i), a1] st σ Q = Ev sh 59 8 [some (.ref i), a1] (.ref i :: st) σ Q := Ev_step rfl
theorem s_Row_add_8 (h : sh i = 6) : Ev sh 59 8 [a0, a1] (.ref i :: st) σ Q = Ev sh 59 11 [a0, a1] (.int (σ i 1) :: st) σ Q := Ev_h h rfl
theorem s_Row_add_11 : Ev sh 59 11 [a0, a1] st σ Q = Ev sh 59 13 [a0, a1] (.int 16 :: st) σ Q := Ev_step rfl
theorem s_Row_add_13 : Ev sh 59 13 [a0, a1] (.int y :: .int x :: st) σ Q = if y ≤ x then Ev sh 59 36 [a0, a1] st σ Q else Ev sh 59 16 [a0, a1] st σ Q := Ev_if rfl
theorem s_Row_add_16 : Ev sh 59 16 [some (.ref i), a1] st σ Q = Ev sh 59 17 [some (.ref i), a1] (.ref i :: st) σ Q := Ev_step rfl
theorem s_Row_add_17 (h : sh i = 6) : Ev sh 59 17 [a0, a1] (.ref i :: st) σ Q = Ev sh 59 20 [a0, a1] (.ref 25 :: st) σ Q := Ev_h h rfl
theorem s_Row_add_20 : Ev sh 59 20 [some (.ref i), a1] st σ Q = Ev sh 59 21 [some (.ref i), a1] (.ref i :: st) σ Q := Ev_step rfl
theorem s_Row_add_21 (h : sh i = 6) : Ev sh 59 21 [a0, a1] (.ref i :: st) σ Q = Ev sh 59 24 [a0, a1] (.int (σ i 1) :: st) σ Q := Ev_h h rfl
theorem s_Row_add_24 : Ev sh 59 24 [a0, some (.int x)] st σ Q = Ev sh 59 25 [a0, some (.int x)] (.int x :: st) σ Q := Ev_step rfl
theorem s_Row_add_25 (h : zin x (sh i) = true) : Ev sh 59 25 [a0, a1] (.int y :: .int x :: .ref i :: st) σ Q = Ev sh 59 26 [a0, a1] st (zup σ i x.toNatClampNeg y) Q := Ev_h h rfl
theorem s_Row_add_26 : Ev sh 59 26 [some (.ref i), a1] st σ Q = Ev sh 59 27 [some (.ref i), a1] (.ref i :: st) σ Q := Ev_step rfl
theorem s_Row_add_27 : Ev sh 59 27 [a0, a1] (.ref i :: st) σ Q = Ev sh 59 28 [a0, a1] (.ref i :: .ref i :: st) σ Q := Ev_step rfl
theorem s_Row_add_28 (h : sh i = 6) : Ev sh 59 28 [a0, a1] (.ref i :: st) σ Q = Ev sh 59 31 [a0, a1] (.int (σ i 1) :: st) σ Q := Ev_h h rfl
theorem s_Row_add_31 : Ev sh 59 31 [a0, a1] st σ Q = Ev sh 59 32 [a0, a1] (.int 1 :: st) σ Q := Ev_step rfl
theorem s_Row_add_32 : Ev sh 59 32 [a0, a1] (.int y :: .int x :: st) σ Q = Ev sh 59 33 [a0, a1] (.int (x + y) :: st) σ Q := Ev_step rfl
theorem s_Row_add_33 (h : sh i = 6) : Ev sh 59 33 [a0, a1] (.int x :: .ref i :: st) σ Q = Ev sh 59 36 [a0, a1] st (zup σ i 1 x) Q := Ev_h h rfl
theorem s_Row_add_36 : Ev sh 59 36 [a0, a1] [] σ Q = Q none σ := Ev_ret rfl
theorem s_Row_forget_0 : Ev sh 60 0 [some (.ref i)] st σ Q = Ev sh 60 1 [some (.ref i)] (.ref i :: st) σ Q := Ev_step rfl
theorem s_Row_forget_1 : Ev sh 60 1 [a0] st σ Q = Ev sh 60 2 [a0] (.int 0 :: st) σ Q := Ev_step rfl
theorem s_Row_forget_2 (h : sh i = 6) : Ev sh 60 2 [a0] (.int x :: .ref i :: st) σ Q = Ev sh 60 5 [a0] st (zup σ i 1 x) Q := Ev_h h rfl
theorem s_Row_forget_5 : Ev sh 60 5 [a0] [] σ Q = Q none σ := Ev_ret rfl
theorem s_Row_tellsWhatHolds_0 : Ev sh 61 0 [a0, a1, a2] st σ Q = Ev sh 61 1 [a0, a1, a2] (.int 0 :: st) σ Q := Ev_step rfl
theorem s_Row_tellsWhatHolds_1 : Ev sh 61 1 [a0, a1, a2] (.int x :: st) σ Q = Ev sh 61 2 [a0, zdrop2 a1, some (.int x)] st σ Q := Ev_step rfl
theorem s_Row_tellsWhatHolds_2 : Ev sh 61 2 [a0, a1, some (.int x)] st σ Q = Ev sh 61 3 [a0, a1, some (.int x)] (.int x :: st) σ Q := Ev_step rfl
theorem s_Row_tellsWhatHolds_3 : Ev sh 61 3 [some (.ref i), a1, a2] st σ Q = Ev sh 61 4 [some (.ref i), a1, a2] (.ref i :: st) σ Q := Ev_step rfl
theorem s_Row_tellsWhatHolds_4 (h : sh i = 6) : Ev sh 61 4 [a0, a1, a2] (.ref i :: st) σ Q = Ev sh 61 7 [a0, a1, a2] (.int (σ i 1) :: st) σ Q := Ev_h h rfl
theorem s_Row_tellsWhatHolds_7 : Ev sh 61 7 [a0, a1, a2] (.int y :: .int x :: st) σ Q = if y ≤ x then Ev sh 61 46 [a0, a1, a2] st σ Q else Ev sh 61 10 [a0, a1, a2] st σ Q := Ev_if rfl
theorem s_Row_tellsWhatHolds_10 : Ev sh 61 10 [a0, a1, some (.int x)] st σ Q = Ev sh 61 11 [a0, a1, some (.int x)] (.int x :: st) σ Q := Ev_step rfl
theorem s_Row_tellsWhatHolds_11 : Ev sh 61 11 [a0, a1, a2] st σ Q = Ev sh 61 13 [a0, a1, a2] (.int 16 :: st) σ Q := Ev_step rfl
theorem s_Row_tellsWhatHolds_13 : Ev sh 61 13 [a0, a1, a2] (.int y :: .int x :: st) σ Q = if y ≤ x then Ev sh 61 46 [a0, a1, a2] st σ Q else Ev sh 61 16 [a0, a1, a2] st σ Q := Ev_if rfl
theorem s_Row_tellsWhatHolds_16 : Ev sh 61 16 [a0, some (.ref i), a2] st σ Q = Ev sh 61 17 [a0, some (.ref i), a2] (.ref i :: st) σ Q := Ev_step rfl
theorem s_Row_tellsWhatHolds_17 : Ev sh 61 17 [a0, a1, some (.int x)] st σ Q = Ev sh 61 18 [a0, a1, some (.int x)] (.int x :: st) σ Q := Ev_step rfl
theorem s_Row_tellsWhatHolds_18 (h : sh i0 = 7) : Ev sh 61 18 [a0, a1, a2] [.int x1, .ref i0] σ Q = Ev sh 83 0 [some (.ref i0), some (.int x1)] [] σ (fun r s => Ev sh 61 21 [a0, a1, a2] (zpush r []) s Q) := Ev_callh (zrecv_of (by decide) h) rfl
theorem s_Row_tellsWhatHolds_21 : Ev sh 61 21 [a0, a1, a2] (.int x :: st) σ Q = if x = 0 then Ev sh 61 38 [a0, a1, a2] st σ Q else Ev sh 61 24 [a0, a1, a2] st σ Q := Ev_if rfl
theorem s_Row_tellsWhatHolds_24 : Ev sh 61 24 [a0, some (.ref i), a2] st σ Q = Ev sh 61 25 [a0, some (.ref i), a2] (.ref i :: st) σ Q := Ev_step rfl
theorem s_Row_tellsWhatHolds_25 : Ev sh 61 25 [a0, a1, some (.int x)] st σ Q = Ev sh 61 26 [a0, a1, some (.int x)] (.int x :: st) σ Q := Ev_step rfl
theorem s_Row_tellsWhatHolds_26 (h : sh i0 = 7) : Ev sh 61 26 [a0, a1, a2] [.int x1, .ref i0] σ Q = Ev sh 86 0 [some (.ref i0), some (.int x1), none] [] σ (fun r s => Ev sh 61 29 [a0, a1, a2] (zpush r []) s Q) := Ev_callh (zrecv_of (by decide) h) rfl
theorem s_Row_tellsWhatHolds_29 : Ev sh 61 29 [some (.ref i), a1, a2] st σ Q = Ev sh 61 30 [some (.ref i), a1, a2] (.ref i :: st) σ Q := Ev_step rfl
theorem s_Row_tellsWhatHolds_30 (h : sh i = 6) : Ev sh 61 30 [a0, a1, a2] (.ref i :: st) σ Q = Ev sh 61 33 [a0, a1, a2] (.ref 25 :: st) σ Q := Ev_h h rfl
theorem s_Row_tellsWhatHolds_33 : Ev sh 61 33 [a0, a1, some (.int x)] st σ Q = Ev sh 61 34 [a0, a1, some (.int x)] (.int x :: st) σ Q := Ev_step rfl
theorem s_Row_tellsWhatHolds_34 (h : zin x (sh i) = true) : Ev sh 61 34 [a0, a1, a2] (.int x :: .ref i :: st) σ Q = Ev sh 61 35 [a0, a1, a2] (.int (σ i x.toNatClampNeg) :: st) σ Q := Ev_h h rfl
theorem s_Row_tellsWhatHolds_35 : Ev sh 61 35 [a0, a1, a2] (.int y :: .int x :: st) σ Q = if x = y then Ev sh 61 40 [a0, a1, a2] st σ Q else Ev sh 61 38 [a0, a1, a2] st σ Q := Ev_if rfl
theorem s_Row_tellsWhatHolds_38 : Ev sh 61 38 [a0, a1, a2] st σ Q = Ev sh 61 39 [a0, a1, a2] (.int 0 :: st) σ Q := Ev_step rfl
theorem s_Row_tellsWhatHolds_39 (h : x = 0 ∨ x = 1) : Ev sh 61 39 [a0, a1, a2] [.int x] σ Q = Q (some (.int x)) σ := Ev_rh h rfl
theorem s_Row_tellsWhatHolds_40 : Ev sh 61 40 [a0, a1, some (.int x)] st σ Q = Ev sh 61 43 [a0, a1, some (.int (x + 1))] st σ Q := Ev_step rfl
theorem s_Row_tellsWhatHolds_43 : Ev sh 61 43 [a0, a1, a2] st σ Q = Ev sh 61 2 [a0, a1, a2] st σ Q := Ev_step rfl
theorem s_Row_tellsWhatHolds_46 : Ev sh 61 46 [a0, a1, a2] st σ Q = Ev sh 61 47 [a0, a1, a2] (.int 1 :: st) σ Q := Ev_step rfl
theorem s_Row_tellsWhatHolds_47 (h : x = 0 ∨ x = 1) : Ev sh 61 47 [a0, a1, a2] [.int x] σ Q = Q (some (.int x)) σ := Ev_rh h rfl
theorem s_Row_firstFalseLean_0 : Ev sh 62 0 [a0, a1, a2, a3] st σ Q = Ev sh 62 1 [a0, a1, a2, a3] (.int 0 :: st) σ Q := Ev_step rfl
theorem s_Row_firstFalseLean_1 : Ev sh 62 1 [a0, a1, a2, a3] (.int x :: st) σ Q = Ev sh 62 2 [a0, zdrop2 a1, some (.int x), a3] st σ Q := Ev_step rfl
theorem s_Row_firstFalseLean_2 : Ev sh 62 2 [a0, a1, a2, a3] st σ Q = Ev sh 62 3 [a0, a1, a2, a3] (.int 0 :: st) σ Q := Ev_step rfl
theorem s_Row_firstFalseLean_3 : Ev sh 62 3 [a0, a1, a2, a3] (.int x :: st) σ Q = Ev sh 62 4 [a0, a1, zdrop2 a2, some (.int x)] st σ Q := Ev_step rfl
theorem s_Row_firstFalseLean_4 : Ev sh 62 4 [a0, a1, a2, some (.int x)] st σ Q = Ev sh 62 5 [a0, a1, a2, some (.int x)] (.int x :: st) σ Q := Ev_step rfl
theorem s_Row_firstFalseLean_5 : Ev sh 62 5 [some (.ref i), a1, a2, a3] st σ Q = Ev sh 62 6 [some (.ref i), a1, a2, a3] (.ref i :: st) σ Q := Ev_step rfl
theorem s_Row_firstFalseLean_6 (h : sh i = 6) : Ev sh 62 6 [a0, a1, a2, a3] (.ref i :: st) σ Q = Ev sh 62 9 [a0, a1, a2, a3] (.int (σ i 1) :: st) σ Q := Ev_h h rfl
theorem s_Row_firstFalseLean_9 : Ev sh 62 9 [a0, a1, a2, a3] (.int y :: .int x :: st) σ Q = if y ≤ x then Ev sh 62 55 [a0, a1, a2, a3] st σ Q else Ev sh 62 12 [a0, a1, a2, a3] st σ Q := Ev_if rfl
theorem s_Row_firstFalseLean_12 : Ev sh 62 12 [a0, a1, a2, some (.int x)] st σ Q = Ev sh 62 13 [a0, a1, a2, some (.int x)] (.int x :: st) σ Q := Ev_step rfl
theorem s_Row_firstFalseLean_13 : Ev sh 62 13 [a0, a1, a2, a3] st σ Q = Ev sh 62 15 [a0, a1, a2, a3] (.int 16 :: st) σ Q := Ev_step rfl
theorem s_Row_firstFalseLean_15 : Ev sh 62 15 [a0, a1, a2, a3] (.int y :: .int x :: st) σ Q = if y ≤ x then Ev sh 62 55 [a0, a1, a2, a3] st σ Q else Ev sh 62 18 [a0, a1, a2, a3] st σ Q := Ev_if rfl
theorem s_Row_firstFalseLean_18 : Ev sh 62 18 [a0, a1, some (.int x), a3] st σ Q = Ev sh 62 19 [a0, a1, some (.int x), a3] (.int x :: st) σ Q := Ev_step rfl
theorem s_Row_firstFalseLean_19 : Ev sh 62 19 [a0, some (.ref i), a2, a3] st σ Q = Ev sh 62 20 [a0, some (.ref i), a2, a3] (.ref i :: st) σ Q := Ev_step rfl
theorem s_Row_firstFalseLean_20 : Ev sh 62 20 [a0, a1, a2, some (.int x)] st σ Q = Ev sh 62 21 [a0, a1, a2, some (.int x)] (.int x :: st) σ Q := Ev_step rfl
theorem s_Row_firstFalseLean_21 (h : sh i1 = 7) : Ev sh 62 21 [a0, a1, a2, a3] [.int x2, .ref i1, .int x0] σ Q = Ev sh 77 0 [some (.ref i1), some (.int x2), none] [] σ (fun r s => Ev sh 62 24 [a0, a1, a2, a3] (zpush r [.int x0]) s Q) := Ev_callh (zrecv_of (by decide) h) rfl
theorem s_Row_firstFalseLean_24 : Ev sh 62 24 [a0, a1, a2, a3] (.int y :: .int x :: st) σ Q = Ev sh 62 25 [a0, a1, a2, a3] (.int (x + y) :: st) σ Q := Ev_step rfl
theorem s_Row_firstFalseLean_25 : Ev sh 62 25 [a0, a1, a2, a3] (.int x :: st) σ Q = Ev sh 62 26 [a0, zdrop2 a1, some (.int x), a3] st σ Q := Ev_step rfl
theorem s_Row_firstFalseLean_26 : Ev sh 62 26 [a0, some (.ref i), a2, a3] st σ Q = Ev sh 62 27 [a0, some (.ref i), a2, a3] (.ref i :: st) σ Q := Ev_step rfl
theorem s_Row_firstFalseLean_27 : Ev sh 62 27 [a0, a1, a2, some (.int x)] st σ Q = Ev sh 62 28 [a0, a1, a2, some (.int x)] (.int x :: st) σ Q := Ev_step rfl
theorem s_Row_firstFalseLean_28 (h : sh i0 = 7) : Ev sh 62 28 [a0, a1, a2, a3] [.int x1, .ref i0] σ Q = Ev sh 72 0 [some (.ref i0), some (.int x1)] [] σ (fun r s => Ev sh 62 31 [a0, a1, a2, a3] (zpush r []) s Q) := Ev_callh (zrecv_of (by decide) h) rfl
theorem s_Row_firstFalseLean_31 : Ev sh 62 31 [a0, a1, a2, a3] (.int x :: st) σ Q = if x = 0 then Ev sh 62 47 [a0, a1, a2, a3] st σ Q else Ev sh 62 34 [a0, a1, a2, a3] st σ Q := Ev_if rfl
theorem s_Row_firstFalseLean_34 : Ev sh 62 34 [a0, a1, some (.int x), a3] st σ Q = Ev sh 62 35 [a0, a1, some (.int x), a3] (.int x :: st) σ Q := Ev_step rfl
theorem s_Row_firstFalseLean_35 : Ev sh 62 35 [a0, a1, a2, a3] st σ Q = Ev sh 62 37 [a0, a1, a2, a3] (.int 50 :: st) σ Q := Ev_step rfl
theorem s_Row_firstFalseLean_37 : Ev sh 62 37 [a0, a1, a2, a3] (.int y :: .int x :: st) σ Q = Ev sh 62 38 [a0, a1, a2, a3] (.int (x + y) :: st) σ Q := Ev_step rfl
theorem s_Row_firstFalseLean_38 : Ev sh 62 38 [some (.ref i), a1, a2, a3] st σ Q = Ev sh 62 39 [some (.ref i), a1, a2, a3] (.ref i :: st) σ Q := Ev_step rfl
theorem s_Row_firstFalseLean_39 (h : sh i = 6) : Ev sh 62 39 [a0, a1, a2, a3] (.ref i :: st) σ Q = Ev sh 62 42 [a0, a1, a2, a3] (.ref 25 :: st) σ Q := Ev_h h rfl
theorem s_Row_firstFalseLean_42 : Ev sh 62 42 [a0, a1, a2, some (.int x)] st σ Q = Ev sh 62 43 [a0, a1, a2, some (.int x)] (.int x :: st) σ Q := Ev_step rfl
theorem s_Row_firstFalseLean_43 (h : zin x (sh i) = true) : Ev sh 62 43 [a0, a1, a2, a3] (.int x :: .ref i :: st) σ Q = Ev sh 62 44 [a0, a1, a2, a3] (.int (σ i x.toNatClampNeg) :: st) σ Q := Ev_h h rfl
theorem s_Row_firstFalseLean_44 : Ev sh 62 44 [a0, a1, a2, a3] (.int y :: .int x :: st) σ Q = if x = y then Ev sh 62 49 [a0, a1, a2, a3] st σ Q else Ev sh 62 47 [a0, a1, a2, a3] st σ Q := Ev_if rfl
theorem s_Row_firstFalseLean_47 : Ev sh 62 47 [a0, a1, a2, some (.int x)] st σ Q = Ev sh 62 48 [a0, a1, a2, some (.int x)] (.int x :: st) σ Q := Ev_step rfl
theorem s_Row_firstFalseLean_48 : Ev sh 62 48 [a0, a1, a2, a3] [.int x] σ Q = Q (some (.int x)) σ := Ev_ret rfl
theorem s_Row_firstFalseLean_49 : Ev sh 62 49 [a0, a1, a2, some (.int x)] st σ Q = Ev sh 62 52 [a0, a1, a2, some (.int (x + 1))] st σ Q := Ev_step rfl
theorem s_Row_firstFalseLean_52 : Ev sh 62 52 [a0, a1, a2, a3] st σ Q = Ev sh 62 4 [a0, a1, a2, a3] st σ Q := Ev_step rfl
theorem s_Row_firstFalseLean_55 : Ev sh 62 55 [a0, a1, a2, a3] st σ Q = Ev sh 62 57 [a0, a1, a2, a3] (.int (-9) :: st) σ Q := Ev_step rfl
theorem s_Row_firstFalseLean_57 : Ev sh 62 57 [a0, a1, a2, a3] [.int x] σ Q = Q (some (.int x)) σ := Ev_ret rfl
end
