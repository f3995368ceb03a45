/-! a number beside a written one -/
theorem zlL_0 {a : Nat} (h : a < 2147483648) : (nI a < (0 : Int32)) = (a < 0) := zlt h (by decide)
theorem zlR_0 {a : Nat} (h : a < 2147483648) : ((0 : Int32) < nI a) = (0 < a) := zlt (by decide) h
theorem zeL_0 {a : Nat} (h : a < 2147483648) : (nI a ≤ (0 : Int32)) = (a ≤ 0) := zle h (by decide)
theorem zeR_0 {a : Nat} (h : a < 2147483648) : ((0 : Int32) ≤ nI a) = (0 ≤ a) := zle (by decide) h
theorem zqL_0 {a : Nat} (h : a < 2147483648) : (nI a = (0 : Int32)) = (a = 0) := zeq h (by decide)
theorem zcl_0 : (0 : Int32).toNatClampNeg = 0 := rfl
theorem zlL_1 {a : Nat} (h : a < 2147483648) : (nI a < (1 : Int32)) = (a < 1) := zlt h (by decide)
theorem zlR_1 {a : Nat} (h : a < 2147483648) : ((1 : Int32) < nI a) = (1 < a) := zlt (by decide) h
theorem zeL_1 {a : Nat} (h : a < 2147483648) : (nI a ≤ (1 : Int32)) = (a ≤ 1) := zle h (by decide)
theorem zeR_1 {a : Nat} (h : a < 2147483648) : ((1 : Int32) ≤ nI a) = (1 ≤ a) := zle (by decide) h
theorem zqL_1 {a : Nat} (h : a < 2147483648) : (nI a = (1 : Int32)) = (a = 1) := zeq h (by decide)
theorem zcl_1 : (1 : Int32).toNatClampNeg = 1 := rfl
theorem zlL_2 {a : Nat} (h : a < 2147483648) : (nI a < (2 : Int32)) = (a < 2) := zlt h (by decide)
theorem zlR_2 {a : Nat} (h : a < 2147483648) : ((2 : Int32) < nI a) = (2 < a) := zlt (by decide) h
theorem zeL_2 {a : Nat} (h : a < 2147483648) : (nI a ≤ (2 : Int32)) = (a ≤ 2) := zle h (by decide)
theorem zeR_2 {a : Nat} (h : a < 2147483648) : ((2 : Int32) ≤ nI a) = (2 ≤ a) := zle (by decide) h
theorem zqL_2 {a : Nat} (h : a < 2147483648) : (nI a = (2 : Int32)) = (a = 2) := zeq h (by decide)
theorem zcl_2 : (2 : Int32).toNatClampNeg = 2 := rfl
theorem zlL_3 {a : Nat} (h : a < 2147483648) : (nI a < (3 : Int32)) = (a < 3) := zlt h (by decide)
theorem zlR_3 {a : Nat} (h : a < 2147483648) : ((3 : Int32) < nI a) = (3 < a) := zlt (by decide) h
theorem zeL_3 {a : Nat} (h : a < 2147483648) : (nI a ≤ (3 : Int32)) = (a ≤ 3) := zle h (by decide)
theorem zeR_3 {a : Nat} (h : a < 2147483648) : ((3 : Int32) ≤ nI a) = (3 ≤ a) := zle (by decide) h
theorem zqL_3 {a : Nat} (h : a < 2147483648) : (nI a = (3 : Int32)) = (a = 3) := zeq h (by decide)
theorem zcl_3 : (3 : Int32).toNatClampNeg = 3 := rfl
theorem zlL_4 {a : Nat} (h : a < 2147483648) : (nI a < (4 : Int32)) = (a < 4) := zlt h (by decide)
theorem zlR_4 {a : Nat} (h : a < 2147483648) : ((4 : Int32) < nI a) = (4 < a) := zlt (by decide) h
theorem zeL_4 {a : Nat} (h : a < 2147483648) : (nI a ≤ (4 : Int32)) = (a ≤ 4) := zle h (by decide)
theorem zeR_4 {a : Nat} (h : a < 2147483648) : ((4 : Int32) ≤ nI a) = (4 ≤ a) := zle (by decide) h
theorem zqL_4 {a : Nat} (h : a < 2147483648) : (nI a = (4 : Int32)) = (a = 4) := zeq h (by decide)
theorem zcl_4 : (4 : Int32).toNatClampNeg = 4 := rfl
theorem zlL_5 {a : Nat} (h : a < 2147483648) : (nI a < (5 : Int32)) = (a < 5) := zlt h (by decide)
theorem zlR_5 {a : Nat} (h : a < 2147483648) : ((5 : Int32) < nI a) = (5 < a) := zlt (by decide) h
theorem zeL_5 {a : Nat} (h : a < 2147483648) : (nI a ≤ (5 : Int32)) = (a ≤ 5) := zle h (by decide)
theorem zeR_5 {a : Nat} (h : a < 2147483648) : ((5 : Int32) ≤ nI a) = (5 ≤ a) := zle (by decide) h
theorem zqL_5 {a : Nat} (h : a < 2147483648) : (nI a = (5 : Int32)) = (a = 5) := zeq h (by decide)
theorem zcl_5 : (5 : Int32).toNatClampNeg = 5 := rfl
theorem zlL_6 {a : Nat} (h : a < 2147483648) : (nI a < (6 : Int32)) = (a < 6) := zlt h (by decide)
theorem zlR_6 {a : Nat} (h : a < 2147483648) : ((6 : Int32) < nI a) = (6 < a) := zlt (by decide) h
theorem zeL_6 {a : Nat} (h : a < 2147483648) : (nI a ≤ (6 : Int32)) = (a ≤ 6) := zle h (by decide)
theorem zeR_6 {a : Nat} (h : a < 2147483648) : ((6 : Int32) ≤ nI a) = (6 ≤ a) := zle (by decide) h
theorem zqL_6 {a : Nat} (h : a < 2147483648) : (nI a = (6 : Int32)) = (a = 6) := zeq h (by decide)
theorem zcl_6 : (6 : Int32).toNatClampNeg = 6 := rfl
theorem zlL_7 {a : Nat} (h : a < 2147483648) : (nI a < (7 : Int32)) = (a < 7) := zlt h (by decide)
theorem zlR_7 {a : Nat} (h : a < 2147483648) : ((7 : Int32) < nI a) = (7 < a) := zlt (by decide) h
theorem zeL_7 {a : Nat} (h : a < 2147483648) : (nI a ≤ (7 : Int32)) = (a ≤ 7) := zle h (by decide)
theorem zeR_7 {a : Nat} (h : a < 2147483648) : ((7 : Int32) ≤ nI a) = (7 ≤ a) := zle (by decide) h
theorem zqL_7 {a : Nat} (h : a < 2147483648) : (nI a = (7 : Int32)) = (a = 7) := zeq h (by decide)
theorem zcl_7 : (7 : Int32).toNatClampNeg = 7 := rfl
theorem zlL_8 {a : Nat} (h : a < 2147483648) : (nI a < (8 : Int32)) = (a < 8) := zlt h (by decide)
theorem zlR_8 {a : Nat} (h : a < 2147483648) : ((8 : Int32) < nI a) = (8 < a) := zlt (by decide) h
theorem zeL_8 {a : Nat} (h : a < 2147483648) : (nI a ≤ (8 : Int32)) = (a ≤ 8) := zle h (by decide)
theorem zeR_8 {a : Nat} (h : a < 2147483648) : ((8 : Int32) ≤ nI a) = (8 ≤ a) := zle (by decide) h
theorem zqL_8 {a : Nat} (h : a < 2147483648) : (nI a = (8 : Int32)) = (a = 8) := zeq h (by decide)
theorem zcl_8 : (8 : Int32).toNatClampNeg = 8 := rfl
theorem zlL_9 {a : Nat} (h : a < 2147483648) : (nI a < (9 : Int32)) = (a < 9) := zlt h (by decide)
theorem zlR_9 {a : Nat} (h : a < 2147483648) : ((9 : Int32) < nI a) = (9 < a) := zlt (by decide) h
theorem zeL_9 {a : Nat} (h : a < 2147483648) : (nI a ≤ (9 : Int32)) = (a ≤ 9) := zle h (by decide)
theorem zeR_9 {a : Nat} (h : a < 2147483648) : ((9 : Int32) ≤ nI a) = (9 ≤ a) := zle (by decide) h
theorem zqL_9 {a : Nat} (h : a < 2147483648) : (nI a = (9 : Int32)) = (a = 9) := zeq h (by decide)
theorem zcl_9 : (9 : Int32).toNatClampNeg = 9 := rfl
theorem zlL_10 {a : Nat} (h : a < 2147483648) : (nI a < (10 : Int32)) = (a < 10) := zlt h (by decide)
theorem zlR_10 {a : Nat} (h : a < 2147483648) : ((10 : Int32) < nI a) = (10 < a) := zlt (by decide) h
theorem zeL_10 {a : Nat} (h : a < 2147483648) : (nI a ≤ (10 : Int32)) = (a ≤ 10) := zle h (by decide)
theorem zeR_10 {a : Nat} (h : a < 2147483648) : ((10 : Int32) ≤ nI a) = (10 ≤ a) := zle (by decide) h
theorem zqL_10 {a : Nat} (h : a < 2147483648) : (nI a = (10 : Int32)) = (a = 10) := zeq h (by decide)
theorem zcl_10 : (10 : Int32).toNatClampNeg = 10 := rfl
theorem zlL_11 {a : Nat} (h : a < 2147483648) : (nI a < (11 : Int32)) = (a < 11) := zlt h (by decide)
theorem zlR_11 {a : Nat} (h : a < 2147483648) : ((11 : Int32) < nI a) = (11 < a) := zlt (by decide) h
theorem zeL_11 {a : Nat} (h : a < 2147483648) : (nI a ≤ (11 : Int32)) = (a ≤ 11) := zle h (by decide)
theorem zeR_11 {a : Nat} (h : a < 2147483648) : ((11 : Int32) ≤ nI a) = (11 ≤ a) := zle (by decide) h
theorem zqL_11 {a : Nat} (h : a < 2147483648) : (nI a = (11 : Int32)) = (a = 11) := zeq h (by decide)
theorem zcl_11 : (11 : Int32).toNatClampNeg = 11 := rfl
theorem zlL_12 {a : Nat} (h : a < 2147483648) : (nI a < (12 : Int32)) = (a < 12) := zlt h (by decide)
theorem zlR_12 {a : Nat} (h : a < 2147483648) : ((12 : Int32) < nI a) = (12 < a) := zlt (by decide) h
theorem zeL_12 {a : Nat} (h : a < 2147483648) : (nI a ≤ (12 : Int32)) = (a ≤ 12) := zle h (by decide)
theorem zeR_12 {a : Nat} (h : a < 2147483648) : ((12 : Int32) ≤ nI a) = (12 ≤ a) := zle (by decide) h
theorem zqL_12 {a : Nat} (h : a < 2147483648) : (nI a = (12 : Int32)) = (a = 12) := zeq h (by decide)
theorem zcl_12 : (12 : Int32).toNatClampNeg = 12 := rfl
theorem zlL_13 {a : Nat} (h : a < 2147483648) : (nI a < (13 : Int32)) = (a < 13) := zlt h (by decide)
theorem zlR_13 {a : Nat} (h : a < 2147483648) : ((13 : Int32) < nI a) = (13 < a) := zlt (by decide) h
theorem zeL_13 {a : Nat} (h : a < 2147483648) : (nI a ≤ (13 : Int32)) = (a ≤ 13) := zle h (by decide)
theorem zeR_13 {a : Nat} (h : a < 2147483648) : ((13 : Int32) ≤ nI a) = (13 ≤ a) := zle (by decide) h
theorem zqL_13 {a : Nat} (h : a < 2147483648) : (nI a = (13 : Int32)) = (a = 13) := zeq h (by decide)
theorem zcl_13 : (13 : Int32).toNatClampNeg = 13 := rfl
theorem zlL_16 {a : Nat} (h : a < 2147483648) : (nI a < (16 : Int32)) = (a < 16) := zlt h (by decide)
theorem zlR_16 {a : Nat} (h : a < 2147483648) : ((16 : Int32) < nI a) = (16 < a) := zlt (by decide) h
theorem zeL_16 {a : Nat} (h : a < 2147483648) : (nI a ≤ (16 : Int32)) = (a ≤ 16) := zle h (by decide)
theorem zeR_16 {a : Nat} (h : a < 2147483648) : ((16 : Int32) ≤ nI a) = (16 ≤ a) := zle (by decide) h
theorem zqL_16 {a : Nat} (h : a < 2147483648) : (nI a = (16 : Int32)) = (a = 16) := zeq h (by decide)
theorem zcl_16 : (16 : Int32).toNatClampNeg = 16 := rfl
theorem zlL_20 {a : Nat} (h : a < 2147483648) : (nI a < (20 : Int32)) = (a < 20) := zlt h (by decide)
theorem zlR_20 {a : Nat} (h : a < 2147483648) : ((20 : Int32) < nI a) = (20 < a) := zlt (by decide) h
theorem zeL_20 {a : Nat} (h : a < 2147483648) : (nI a ≤ (20 : Int32)) = (a ≤ 20) := zle h (by decide)
theorem zeR_20 {a : Nat} (h : a < 2147483648) : ((20 : Int32) ≤ nI a) = (20 ≤ a) := zle (by decide) h
theorem zqL_20 {a : Nat} (h : a < 2147483648) : (nI a = (20 : Int32)) = (a = 20) := zeq h (by decide)
theorem zcl_20 : (20 : Int32).toNatClampNeg = 20 := rfl
theorem zlL_30 {a : Nat} (h : a < 2147483648) : (nI a < (30 : Int32)) = (a < 30) := zlt h (by decide)
theorem zlR_30 {a : Nat} (h : a < 2147483648) : ((30 : Int32) < nI a) = (30 < a) := zlt (by decide) h
theorem zeL_30 {a : Nat} (h : a < 2147483648) : (nI a ≤ (30 : Int32)) = (a ≤ 30) := zle h (by decide)
theorem zeR_30 {a : Nat} (h : a < 2147483648) : ((30 : Int32) ≤ nI a) = (30 ≤ a) := zle (by decide) h
theorem zqL_30 {a : Nat} (h : a < 2147483648) : (nI a = (30 : Int32)) = (a = 30) := zeq h (by decide)
theorem zcl_30 : (30 : Int32).toNatClampNeg = 30 := rfl
theorem zlL_48 {a : Nat} (h : a < 2147483648) : (nI a < (48 : Int32)) = (a < 48) := zlt h (by decide)
theorem zlR_48 {a : Nat} (h : a < 2147483648) : ((48 : Int32) < nI a) = (48 < a) := zlt (by decide) h
theorem zeL_48 {a : Nat} (h : a < 2147483648) : (nI a ≤ (48 : Int32)) = (a ≤ 48) := zle h (by decide)
theorem zeR_48 {a : Nat} (h : a < 2147483648) : ((48 : Int32) ≤ nI a) = (48 ≤ a) := zle (by decide) h
theorem zqL_48 {a : Nat} (h : a < 2147483648) : (nI a = (48 : Int32)) = (a = 48) := zeq h (by decide)
theorem zcl_48 : (48 : Int32).toNatClampNeg = 48 := rfl
theorem zlL_50 {a : Nat} (h : a < 2147483648) : (nI a < (50 : Int32)) = (a < 50) := zlt h (by decide)
theorem zlR_50 {a : Nat} (h : a < 2147483648) : ((50 : Int32) < nI a) = (50 < a) := zlt (by decide) h
theorem zeL_50 {a : Nat} (h : a < 2147483648) : (nI a ≤ (50 : Int32)) = (a ≤ 50) := zle h (by decide)
theorem zeR_50 {a : Nat} (h : a < 2147483648) : ((50 : Int32) ≤ nI a) = (50 ≤ a) := zle (by decide) h
theorem zqL_50 {a : Nat} (h : a < 2147483648) : (nI a = (50 : Int32)) = (a = 50) := zeq h (by decide)
theorem zcl_50 : (50 : Int32).toNatClampNeg = 50 := rfl
theorem zlL_57 {a : Nat} (h : a < 2147483648) : (nI a < (57 : Int32)) = (a < 57) := zlt h (by decide)
theorem zlR_57 {a : Nat} (h : a < 2147483648) : ((57 : Int32) < nI a) = (57 < a) := zlt (by decide) h
theorem zeL_57 {a : Nat} (h : a < 2147483648) : (nI a ≤ (57 : Int32)) = (a ≤ 57) := zle h (by decide)
theorem zeR_57 {a : Nat} (h : a < 2147483648) : ((57 : Int32) ≤ nI a) = (57 ≤ a) := zle (by decide) h
theorem zqL_57 {a : Nat} (h : a < 2147483648) : (nI a = (57 : Int32)) = (a = 57) := zeq h (by decide)
theorem zcl_57 : (57 : Int32).toNatClampNeg = 57 := rfl
theorem zlL_59 {a : Nat} (h : a < 2147483648) : (nI a < (59 : Int32)) = (a < 59) := zlt h (by decide)
theorem zlR_59 {a : Nat} (h : a < 2147483648) : ((59 : Int32) < nI a) = (59 < a) := zlt (by decide) h
theorem zeL_59 {a : Nat} (h : a < 2147483648) : (nI a ≤ (59 : Int32)) = (a ≤ 59) := zle h (by decide)
theorem zeR_59 {a : Nat} (h : a < 2147483648) : ((59 : Int32) ≤ nI a) = (59 ≤ a) := zle (by decide) h
theorem zqL_59 {a : Nat} (h : a < 2147483648) : (nI a = (59 : Int32)) = (a = 59) := zeq h (by decide)
theorem zcl_59 : (59 : Int32).toNatClampNeg = 59 := rfl
theorem zlL_60 {a : Nat} (h : a < 2147483648) : (nI a < (60 : Int32)) = (a < 60) := zlt h (by decide)
theorem zlR_60 {a : Nat} (h : a < 2147483648) : ((60 : Int32) < nI a) = (60 < a) := zlt (by decide) h
theorem zeL_60 {a : Nat} (h : a < 2147483648) : (nI a ≤ (60 : Int32)) = (a ≤ 60) := zle h (by decide)
theorem zeR_60 {a : Nat} (h : a < 2147483648) : ((60 : Int32) ≤ nI a) = (60 ≤ a) := zle (by decide) h
theorem zqL_60 {a : Nat} (h : a < 2147483648) : (nI a = (60 : Int32)) = (a = 60) := zeq h (by decide)
theorem zcl_60 : (60 : Int32).toNatClampNeg = 60 := rfl
theorem zlL_61 {a : Nat} (h : a < 2147483648) : (nI a < (61 : Int32)) = (a < 61) := zlt h (by decide)
theorem zlR_61 {a : Nat} (h : a < 2147483648) : ((61 : Int32) < nI a) = (61 < a) := zlt (by decide) h
theorem zeL_61 {a : Nat} (h : a < 2147483648) : (nI a ≤ (61 : Int32)) = (a ≤ 61) := zle h (by decide)
theorem zeR_61 {a : Nat} (h : a < 2147483648) : ((61 : Int32) ≤ nI a) = (61 ≤ a) := zle (by decide) h
theorem zqL_61 {a : Nat} (h : a < 2147483648) : (nI a = (61 : Int32)) = (a = 61) := zeq h (by decide)
theorem zcl_61 : (61 : Int32).toNatClampNeg = 61 := rfl
theorem zlL_71 {a : Nat} (h : a < 2147483648) : (nI a < (71 : Int32)) = (a < 71) := zlt h (by decide)
theorem zlR_71 {a : Nat} (h : a < 2147483648) : ((71 : Int32) < nI a) = (71 < a) := zlt (by decide) h
theorem zeL_71 {a : Nat} (h : a < 2147483648) : (nI a ≤ (71 : Int32)) = (a ≤ 71) := zle h (by decide)
theorem zeR_71 {a : Nat} (h : a < 2147483648) : ((71 : Int32) ≤ nI a) = (71 ≤ a) := zle (by decide) h
theorem zqL_71 {a : Nat} (h : a < 2147483648) : (nI a = (71 : Int32)) = (a = 71) := zeq h (by decide)
theorem zcl_71 : (71 : Int32).toNatClampNeg = 71 := rfl
theorem zlL_96 {a : Nat} (h : a < 2147483648) : (nI a < (96 : Int32)) = (a < 96) := zlt h (by decide)
theorem zlR_96 {a : Nat} (h : a < 2147483648) : ((96 : Int32) < nI a) = (96 < a) := zlt (by decide) h
theorem zeL_96 {a : Nat} (h : a < 2147483648) : (nI a ≤ (96 : Int32)) = (a ≤ 96) := zle h (by decide)
theorem zeR_96 {a : Nat} (h : a < 2147483648) : ((96 : Int32) ≤ nI a) = (96 ≤ a) := zle (by decide) h
theorem zqL_96 {a : Nat} (h : a < 2147483648) : (nI a = (96 : Int32)) = (a = 96) := zeq h (by decide)
theorem zcl_96 : (96 : Int32).toNatClampNeg = 96 := rfl
theorem zlL_98 {a : Nat} (h : a < 2147483648) : (nI a < (98 : Int32)) = (a < 98) := zlt h (by decide)
theorem zlR_98 {a : Nat} (h : a < 2147483648) : ((98 : Int32) < nI a) = (98 < a) := zlt (by decide) h
theorem zeL_98 {a : Nat} (h : a < 2147483648) : (nI a ≤ (98 : Int32)) = (a ≤ 98) := zle h (by decide)
theorem zeR_98 {a : Nat} (h : a < 2147483648) : ((98 : Int32) ≤ nI a) = (98 ≤ a) := zle (by decide) h
theorem zqL_98 {a : Nat} (h : a < 2147483648) : (nI a = (98 : Int32)) = (a = 98) := zeq h (by decide)
theorem zcl_98 : (98 : Int32).toNatClampNeg = 98 := rfl
theorem zlL_99 {a : Nat} (h : a < 2147483648) : (nI a < (99 : Int32)) = (a < 99) := zlt h (by decide)
theorem zlR_99 {a : Nat} (h : a < 2147483648) : ((99 : Int32) < nI a) = (99 < a) := zlt (by decide) h
theorem zeL_99 {a : Nat} (h : a < 2147483648) : (nI a ≤ (99 : Int32)) = (a ≤ 99) := zle h (by decide)
theorem zeR_99 {a : Nat} (h : a < 2147483648) : ((99 : Int32) ≤ nI a) = (99 ≤ a) := zle (by decide) h
theorem zqL_99 {a : Nat} (h : a < 2147483648) : (nI a = (99 : Int32)) = (a = 99) := zeq h (by decide)
theorem zcl_99 : (99 : Int32).toNatClampNeg = 99 := rfl
theorem zlL_100 {a : Nat} (h : a < 2147483648) : (nI a < (100 : Int32)) = (a < 100) := zlt h (by decide)
theorem zlR_100 {a : Nat} (h : a < 2147483648) : ((100 : Int32) < nI a) = (100 < a) := zlt (by decide) h
theorem zeL_100 {a : Nat} (h : a < 2147483648) : (nI a ≤ (100 : Int32)) = (a ≤ 100) := zle h (by decide)
theorem zeR_100 {a : Nat} (h : a < 2147483648) : ((100 : Int32) ≤ nI a) = (100 ≤ a) := zle (by decide) h
theorem zqL_100 {a : Nat} (h : a < 2147483648) : (nI a = (100 : Int32)) = (a = 100) := zeq h (by decide)
theorem zcl_100 : (100 : Int32).toNatClampNeg = 100 := rfl
theorem zlL_101 {a : Nat} (h : a < 2147483648) : (nI a < (101 : Int32)) = (a < 101) := zlt h (by decide)
theorem zlR_101 {a : Nat} (h : a < 2147483648) : ((101 : Int32) < nI a) = (101 < a) := zlt (by decide) h
theorem zeL_101 {a : Nat} (h : a < 2147483648) : (nI a ≤ (101 : Int32)) = (a ≤ 101) := zle h (by decide)
theorem zeR_101 {a : Nat} (h : a < 2147483648) : ((101 : Int32) ≤ nI a) = (101 ≤ a) := zle (by decide) h
theorem zqL_101 {a : Nat} (h : a < 2147483648) : (nI a = (101 : Int32)) = (a = 101) := zeq h (by decide)
theorem zcl_101 : (101 : Int32).toNatClampNeg = 101 := rfl
theorem zlL_104 {a : Nat} (h : a < 2147483648) : (nI a < (104 : Int32)) = (a < 104) := zlt h (by decide)
theorem zlR_104 {a : Nat} (h : a < 2147483648) : ((104 : Int32) < nI a) = (104 < a) := zlt (by decide) h
theorem zeL_104 {a : Nat} (h : a < 2147483648) : (nI a ≤ (104 : Int32)) = (a ≤ 104) := zle h (by decide)
theorem zeR_104 {a : Nat} (h : a < 2147483648) : ((104 : Int32) ≤ nI a) = (104 ≤ a) := zle (by decide) h
theorem zqL_104 {a : Nat} (h : a < 2147483648) : (nI a = (104 : Int32)) = (a = 104) := zeq h (by decide)
theorem zcl_104 : (104 : Int32).toNatClampNeg = 104 := rfl
theorem zlL_107 {a : Nat} (h : a < 2147483648) : (nI a < (107 : Int32)) = (a < 107) := zlt h (by decide)
theorem zlR_107 {a : Nat} (h : a < 2147483648) : ((107 : Int32) < nI a) = (107 < a) := zlt (by decide) h
theorem zeL_107 {a : Nat} (h : a < 2147483648) : (nI a ≤ (107 : Int32)) = (a ≤ 107) := zle h (by decide)
theorem zeR_107 {a : Nat} (h : a < 2147483648) : ((107 : Int32) ≤ nI a) = (107 ≤ a) := zle (by decide) h
theorem zqL_107 {a : Nat} (h : a < 2147483648) : (nI a = (107 : Int32)) = (a = 107) := zeq h (by decide)
theorem zcl_107 : (107 : Int32).toNatClampNeg = 107 := rfl
theorem zlL_109 {a : Nat} (h : a < 2147483648) : (nI a < (109 : Int32)) = (a < 109) := zlt h (by decide)
theorem zlR_109 {a : Nat} (h : a < 2147483648) : ((109 : Int32) < nI a) = (109 < a) := zlt (by decide) h
theorem zeL_109 {a : Nat} (h : a < 2147483648) : (nI a ≤ (109 : Int32)) = (a ≤ 109) := zle h (by decide)
theorem zeR_109 {a : Nat} (h : a < 2147483648) : ((109 : Int32) ≤ nI a) = (109 ≤ a) := zle (by decide) h
theorem zqL_109 {a : Nat} (h : a < 2147483648) : (nI a = (109 : Int32)) = (a = 109) := zeq h (by decide)
theorem zcl_109 : (109 : Int32).toNatClampNeg = 109 := rfl
theorem zlL_112 {a : Nat} (h : a < 2147483648) : (nI a < (112 : Int32)) = (a < 112) := zlt h (by decide)
theorem zlR_112 {a : Nat} (h : a < 2147483648) : ((112 : Int32) < nI a) = (112 < a) := zlt (by decide) h
theorem zeL_112 {a : Nat} (h : a < 2147483648) : (nI a ≤ (112 : Int32)) = (a ≤ 112) := zle h (by decide)
theorem zeR_112 {a : Nat} (h : a < 2147483648) : ((112 : Int32) ≤ nI a) = (112 ≤ a) := zle (by decide) h
theorem zqL_112 {a : Nat} (h : a < 2147483648) : (nI a = (112 : Int32)) = (a = 112) := zeq h (by decide)
theorem zcl_112 : (112 : Int32).toNatClampNeg = 112 := rfl
theorem zlL_114 {a : Nat} (h : a < 2147483648) : (nI a < (114 : Int32)) = (a < 114) := zlt h (by decide)
theorem zlR_114 {a : Nat} (h : a < 2147483648) : ((114 : Int32) < nI a) = (114 < a) := zlt (by decide) h
theorem zeL_114 {a : Nat} (h : a < 2147483648) : (nI a ≤ (114 : Int32)) = (a ≤ 114) := zle h (by decide)
theorem zeR_114 {a : Nat} (h : a < 2147483648) : ((114 : Int32) ≤ nI a) = (114 ≤ a) := zle (by decide) h
theorem zqL_114 {a : Nat} (h : a < 2147483648) : (nI a = (114 : Int32)) = (a = 114) := zeq h (by decide)
theorem zcl_114 : (114 : Int32).toNatClampNeg = 114 := rfl
theorem zlL_115 {a : Nat} (h : a < 2147483648) : (nI a < (115 : Int32)) = (a < 115) := zlt h (by decide)
theorem zlR_115 {a : Nat} (h : a < 2147483648) : ((115 : Int32) < nI a) = (115 < a) := zlt (by decide) h
theorem zeL_115 {a : Nat} (h : a < 2147483648) : (nI a ≤ (115 : Int32)) = (a ≤ 115) := zle h (by decide)
theorem zeR_115 {a : Nat} (h : a < 2147483648) : ((115 : Int32) ≤ nI a) = (115 ≤ a) := zle (by decide) h
theorem zqL_115 {a : Nat} (h : a < 2147483648) : (nI a = (115 : Int32)) = (a = 115) := zeq h (by decide)
theorem zcl_115 : (115 : Int32).toNatClampNeg = 115 := rfl
theorem zlL_117 {a : Nat} (h : a < 2147483648) : (nI a < (117 : Int32)) = (a < 117) := zlt h (by decide)
theorem zlR_117 {a : Nat} (h : a < 2147483648) : ((117 : Int32) < nI a) = (117 < a) := zlt (by decide) h
theorem zeL_117 {a : Nat} (h : a < 2147483648) : (nI a ≤ (117 : Int32)) = (a ≤ 117) := zle h (by decide)
theorem zeR_117 {a : Nat} (h : a < 2147483648) : ((117 : Int32) ≤ nI a) = (117 ≤ a) := zle (by decide) h
theorem zqL_117 {a : Nat} (h : a < 2147483648) : (nI a = (117 : Int32)) = (a = 117) := zeq h (by decide)
theorem zcl_117 : (117 : Int32).toNatClampNeg = 117 := rfl
theorem zlL_119 {a : Nat} (h : a < 2147483648) : (nI a < (119 : Int32)) = (a < 119) := zlt h (by decide)
theorem zlR_119 {a : Nat} (h : a < 2147483648) : ((119 : Int32) < nI a) = (119 < a) := zlt (by decide) h
theorem zeL_119 {a : Nat} (h : a < 2147483648) : (nI a ≤ (119 : Int32)) = (a ≤ 119) := zle h (by decide)
theorem zeR_119 {a : Nat} (h : a < 2147483648) : ((119 : Int32) ≤ nI a) = (119 ≤ a) := zle (by decide) h
theorem zqL_119 {a : Nat} (h : a < 2147483648) : (nI a = (119 : Int32)) = (a = 119) := zeq h (by decide)
theorem zcl_119 : (119 : Int32).toNatClampNeg = 119 := rfl
theorem zlL_255 {a : Nat} (h : a < 2147483648) : (nI a < (255 : Int32)) = (a < 255) := zlt h (by decide)
theorem zlR_255 {a : Nat} (h : a < 2147483648) : ((255 : Int32) < nI a) = (255 < a) := zlt (by decide) h
theorem zeL_255 {a : Nat} (h : a < 2147483648) : (nI a ≤ (255 : Int32)) = (a ≤ 255) := zle h (by decide)
theorem zeR_255 {a : Nat} (h : a < 2147483648) : ((255 : Int32) ≤ nI a) = (255 ≤ a) := zle (by decide) h
theorem zqL_255 {a : Nat} (h : a < 2147483648) : (nI a = (255 : Int32)) = (a = 255) := zeq h (by decide)
theorem zcl_255 : (255 : Int32).toNatClampNeg = 255 := rfl
theorem zlL_999 {a : Nat} (h : a < 2147483648) : (nI a < (999 : Int32)) = (a < 999) := zlt h (by decide)
theorem zlR_999 {a : Nat} (h : a < 2147483648) : ((999 : Int32) < nI a) = (999 < a) := zlt (by decide) h
theorem zeL_999 {a : Nat} (h : a < 2147483648) : (nI a ≤ (999 : Int32)) = (a ≤ 999) := zle h (by decide)
theorem zeR_999 {a : Nat} (h : a < 2147483648) : ((999 : Int32) ≤ nI a) = (999 ≤ a) := zle (by decide) h
theorem zqL_999 {a : Nat} (h : a < 2147483648) : (nI a = (999 : Int32)) = (a = 999) := zeq h (by decide)
theorem zcl_999 : (999 : Int32).toNatClampNeg = 999 := rfl
