/-! the shape behind the constructors: cells in the order in which they are made -/
def SH0 : SH := [.inr (10, [some (some 1), none, some (some 2), some (some 3), some (some 6), some (some 10), some (some 15), some (some 19), some (some 24), some (some 27), some (some 33), some (some 36), some (some 41)]), .inl (0, 80), .inl (0, 12), .inr (7, [some (some 4), some (some 5)]), .inl (0, 9), .inl (1, 676), .inr (2, [some (some 7), some (some 8), some (some 9), none]), .inl (0, 1080), .inl (0, 90), .inl (0, 90), .inr (9, [some (some 11), some (some 12), some (some 13), some (some 14), none]), .inl (0, 60), .inl (0, 60), .inl (1, 60), .inl (1, 60), .inr (6, [some (some 16), some (some 17), some (some 18), none]), .inl (0, 40), .inl (0, 40), .inl (0, 160), .inr (0, [some (some 20), some (some 21), some (some 22), some (some 23), none, none, none]), .inl (0, 92), .inl (0, 92), .inl (0, 10), .inl (0, 10), .inr (5, [some (some 19), some (some 6), some (some 10), some (some 15), some (some 25), some (some 26), none, none, none, none, none]), .inl (0, 10), .inl (0, 10), .inr (4, [some (some 24), some (some 28), some (some 30), some (some 31), some (some 32), none]), .inr (8, [some (some 3), some (some 6), some (some 29), none, none, none]), .inl (0, 1209), .inl (0, 60), .inl (0, 60), .inl (1, 60), .inr (3, [some (some 24), some (some 34), some (some 35), none, none, none]), .inl (0, 4), .inl (0, 55), .inr (1, [some (some 37), some (some 38), some (some 39), some (some 40), none]), .inl (0, 480), .inl (0, 40), .inl (0, 40), .inl (0, 40), .inr (8, [some (some 3), some (some 6), some (some 42), none, none, none]), .inl (0, 1209), .inr (11, [none, none, some (some 44), some (some 45), some (some 46), some (some 47), none, some (some 48), some (some 49), some (some 50), none, some (some 51), some (some 52), some (some 53), some (some 54), some (some 55), none, some (some 56), none, some (some 57), some (some 58), none, none, some (some 59), some (some 60), some (some 61), none, some (some 62), some (some 63), none, none, some (some 64), some (some 65), none, none, none, some (some 66), some (some 67), some (some 68), none, some (some 69), some (some 70), some (some 71), some (some 72), some (some 73), none, none, some (some 74), none, none, some (some 75), some (some 76), none, none]), .inl (0, 60), .inl (1, 60), .inl (1, 60), .inl (0, 60), .inl (0, 1080), .inl (0, 90), .inl (0, 90), .inl (0, 40), .inl (0, 160), .inl (0, 40), .inl (0, 9), .inl (1, 676), .inl (0, 80), .inl (0, 300), .inl (0, 300), .inl (0, 10), .inl (0, 10), .inl (0, 10), .inl (0, 10), .inl (0, 10), .inl (0, 1053), .inl (0, 1053), .inl (0, 60), .inl (0, 60), .inl (1, 60), .inl (0, 480), .inl (0, 40), .inl (0, 40), .inl (0, 40), .inl (0, 60), .inl (0, 4), .inl (0, 60), .inl (0, 1053), .inl (2, 1)]
theorem SH0_len : SH0.length = 78 := rfl
theorem ob_0 : objAt SH0 0 = some 10 := rfl
theorem fl_0_0 : fldAt SH0 0 10 0 = some (some 1) := rfl
theorem fl_0_1 : fldAt SH0 0 10 1 = some none := rfl
theorem fl_0_2 : fldAt SH0 0 10 2 = some (some 2) := rfl
theorem fl_0_3 : fldAt SH0 0 10 3 = some (some 3) := rfl
theorem fl_0_4 : fldAt SH0 0 10 4 = some (some 6) := rfl
theorem fl_0_5 : fldAt SH0 0 10 5 = some (some 10) := rfl
theorem fl_0_6 : fldAt SH0 0 10 6 = some (some 15) := rfl
theorem fl_0_7 : fldAt SH0 0 10 7 = some (some 19) := rfl
theorem fl_0_8 : fldAt SH0 0 10 8 = some (some 24) := rfl
theorem fl_0_9 : fldAt SH0 0 10 9 = some (some 27) := rfl
theorem fl_0_10 : fldAt SH0 0 10 10 = some (some 33) := rfl
theorem fl_0_11 : fldAt SH0 0 10 11 = some (some 36) := rfl
theorem fl_0_12 : fldAt SH0 0 10 12 = some (some 41) := rfl
theorem ar_1 : arrAt SH0 1 = some (0, 80) ∧ rdAt SH0 1 = some (0, 80) := ⟨rfl, rfl⟩
theorem ar_2 : arrAt SH0 2 = some (0, 12) ∧ rdAt SH0 2 = some (0, 12) := ⟨rfl, rfl⟩
theorem ob_3 : objAt SH0 3 = some 7 := rfl
theorem fl_3_0 : fldAt SH0 3 7 0 = some (some 4) := rfl
theorem fl_3_1 : fldAt SH0 3 7 1 = some (some 5) := rfl
theorem ar_4 : arrAt SH0 4 = some (0, 9) ∧ rdAt SH0 4 = some (0, 9) := ⟨rfl, rfl⟩
theorem ar_5 : arrAt SH0 5 = some (1, 676) ∧ rdAt SH0 5 = some (1, 676) := ⟨rfl, rfl⟩
theorem ob_6 : objAt SH0 6 = some 2 := rfl
theorem fl_6_0 : fldAt SH0 6 2 0 = some (some 7) := rfl
theorem fl_6_1 : fldAt SH0 6 2 1 = some (some 8) := rfl
theorem fl_6_2 : fldAt SH0 6 2 2 = some (some 9) := rfl
theorem fl_6_3 : fldAt SH0 6 2 3 = some none := rfl
theorem ar_7 : arrAt SH0 7 = some (0, 1080) ∧ rdAt SH0 7 = some (0, 1080) := ⟨rfl, rfl⟩
theorem ar_8 : arrAt SH0 8 = some (0, 90) ∧ rdAt SH0 8 = some (0, 90) := ⟨rfl, rfl⟩
theorem ar_9 : arrAt SH0 9 = some (0, 90) ∧ rdAt SH0 9 = some (0, 90) := ⟨rfl, rfl⟩
theorem ob_10 : objAt SH0 10 = some 9 := rfl
theorem fl_10_0 : fldAt SH0 10 9 0 = some (some 11) := rfl
theorem fl_10_1 : fldAt SH0 10 9 1 = some (some 12) := rfl
theorem fl_10_2 : fldAt SH0 10 9 2 = some (some 13) := rfl
theorem fl_10_3 : fldAt SH0 10 9 3 = some (some 14) := rfl
theorem fl_10_4 : fldAt SH0 10 9 4 = some none := rfl
theorem ar_11 : arrAt SH0 11 = some (0, 60) ∧ rdAt SH0 11 = some (0, 60) := ⟨rfl, rfl⟩
theorem ar_12 : arrAt SH0 12 = some (0, 60) ∧ rdAt SH0 12 = some (0, 60) := ⟨rfl, rfl⟩
theorem ar_13 : arrAt SH0 13 = some (1, 60) ∧ rdAt SH0 13 = some (1, 60) := ⟨rfl, rfl⟩
theorem ar_14 : arrAt SH0 14 = some (1, 60) ∧ rdAt SH0 14 = some (1, 60) := ⟨rfl, rfl⟩
theorem ob_15 : objAt SH0 15 = some 6 := rfl
theorem fl_15_0 : fldAt SH0 15 6 0 = some (some 16) := rfl
theorem fl_15_1 : fldAt SH0 15 6 1 = some (some 17) := rfl
theorem fl_15_2 : fldAt SH0 15 6 2 = some (some 18) := rfl
theorem fl_15_3 : fldAt SH0 15 6 3 = some none := rfl
theorem ar_16 : arrAt SH0 16 = some (0, 40) ∧ rdAt SH0 16 = some (0, 40) := ⟨rfl, rfl⟩
theorem ar_17 : arrAt SH0 17 = some (0, 40) ∧ rdAt SH0 17 = some (0, 40) := ⟨rfl, rfl⟩
theorem ar_18 : arrAt SH0 18 = some (0, 160) ∧ rdAt SH0 18 = some (0, 160) := ⟨rfl, rfl⟩
theorem ob_19 : objAt SH0 19 = some 0 := rfl
theorem fl_19_0 : fldAt SH0 19 0 0 = some (some 20) := rfl
theorem fl_19_1 : fldAt SH0 19 0 1 = some (some 21) := rfl
theorem fl_19_2 : fldAt SH0 19 0 2 = some (some 22) := rfl
theorem fl_19_3 : fldAt SH0 19 0 3 = some (some 23) := rfl
theorem fl_19_4 : fldAt SH0 19 0 4 = some none := rfl
theorem fl_19_5 : fldAt SH0 19 0 5 = some none := rfl
theorem fl_19_6 : fldAt SH0 19 0 6 = some none := rfl
theorem ar_20 : arrAt SH0 20 = some (0, 92) ∧ rdAt SH0 20 = some (0, 92) := ⟨rfl, rfl⟩
theorem ar_21 : arrAt SH0 21 = some (0, 92) ∧ rdAt SH0 21 = some (0, 92) := ⟨rfl, rfl⟩
theorem ar_22 : arrAt SH0 22 = some (0, 10) ∧ rdAt SH0 22 = some (0, 10) := ⟨rfl, rfl⟩
theorem ar_23 : arrAt SH0 23 = some (0, 10) ∧ rdAt SH0 23 = some (0, 10) := ⟨rfl, rfl⟩
theorem ob_24 : objAt SH0 24 = some 5 := rfl
theorem fl_24_0 : fldAt SH0 24 5 0 = some (some 19) := rfl
theorem fl_24_1 : fldAt SH0 24 5 1 = some (some 6) := rfl
theorem fl_24_2 : fldAt SH0 24 5 2 = some (some 10) := rfl
theorem fl_24_3 : fldAt SH0 24 5 3 = some (some 15) := rfl
theorem fl_24_4 : fldAt SH0 24 5 4 = some (some 25) := rfl
theorem fl_24_5 : fldAt SH0 24 5 5 = some (some 26) := rfl
theorem fl_24_6 : fldAt SH0 24 5 6 = some none := rfl
theorem fl_24_7 : fldAt SH0 24 5 7 = some none := rfl
theorem fl_24_8 : fldAt SH0 24 5 8 = some none := rfl
theorem fl_24_9 : fldAt SH0 24 5 9 = some none := rfl
theorem fl_24_10 : fldAt SH0 24 5 10 = some none := rfl
theorem ar_25 : arrAt SH0 25 = some (0, 10) ∧ rdAt SH0 25 = some (0, 10) := ⟨rfl, rfl⟩
theorem ar_26 : arrAt SH0 26 = some (0, 10) ∧ rdAt SH0 26 = some (0, 10) := ⟨rfl, rfl⟩
theorem ob_27 : objAt SH0 27 = some 4 := rfl
theorem fl_27_0 : fldAt SH0 27 4 0 = some (some 24) := rfl
theorem fl_27_1 : fldAt SH0 27 4 1 = some (some 28) := rfl
theorem fl_27_2 : fldAt SH0 27 4 2 = some (some 30) := rfl
theorem fl_27_3 : fldAt SH0 27 4 3 = some (some 31) := rfl
theorem fl_27_4 : fldAt SH0 27 4 4 = some (some 32) := rfl
theorem fl_27_5 : fldAt SH0 27 4 5 = some none := rfl
theorem ob_28 : objAt SH0 28 = some 8 := rfl
theorem fl_28_0 : fldAt SH0 28 8 0 = some (some 3) := rfl
theorem fl_28_1 : fldAt SH0 28 8 1 = some (some 6) := rfl
theorem fl_28_2 : fldAt SH0 28 8 2 = some (some 29) := rfl
theorem fl_28_3 : fldAt SH0 28 8 3 = some none := rfl
theorem fl_28_4 : fldAt SH0 28 8 4 = some none := rfl
theorem fl_28_5 : fldAt SH0 28 8 5 = some none := rfl
theorem ar_29 : arrAt SH0 29 = some (0, 1209) ∧ rdAt SH0 29 = some (0, 1209) := ⟨rfl, rfl⟩
theorem ar_30 : arrAt SH0 30 = some (0, 60) ∧ rdAt SH0 30 = some (0, 60) := ⟨rfl, rfl⟩
theorem ar_31 : arrAt SH0 31 = some (0, 60) ∧ rdAt SH0 31 = some (0, 60) := ⟨rfl, rfl⟩
theorem ar_32 : arrAt SH0 32 = some (1, 60) ∧ rdAt SH0 32 = some (1, 60) := ⟨rfl, rfl⟩
theorem ob_33 : objAt SH0 33 = some 3 := rfl
theorem fl_33_0 : fldAt SH0 33 3 0 = some (some 24) := rfl
theorem fl_33_1 : fldAt SH0 33 3 1 = some (some 34) := rfl
theorem fl_33_2 : fldAt SH0 33 3 2 = some (some 35) := rfl
theorem fl_33_3 : fldAt SH0 33 3 3 = some none := rfl
theorem fl_33_4 : fldAt SH0 33 3 4 = some none := rfl
theorem fl_33_5 : fldAt SH0 33 3 5 = some none := rfl
theorem ar_34 : arrAt SH0 34 = some (0, 4) ∧ rdAt SH0 34 = some (0, 4) := ⟨rfl, rfl⟩
theorem ar_35 : arrAt SH0 35 = some (0, 55) ∧ rdAt SH0 35 = some (0, 55) := ⟨rfl, rfl⟩
theorem ob_36 : objAt SH0 36 = some 1 := rfl
theorem fl_36_0 : fldAt SH0 36 1 0 = some (some 37) := rfl
theorem fl_36_1 : fldAt SH0 36 1 1 = some (some 38) := rfl
theorem fl_36_2 : fldAt SH0 36 1 2 = some (some 39) := rfl
theorem fl_36_3 : fldAt SH0 36 1 3 = some (some 40) := rfl
theorem fl_36_4 : fldAt SH0 36 1 4 = some none := rfl
theorem ar_37 : arrAt SH0 37 = some (0, 480) ∧ rdAt SH0 37 = some (0, 480) := ⟨rfl, rfl⟩
theorem ar_38 : arrAt SH0 38 = some (0, 40) ∧ rdAt SH0 38 = some (0, 40) := ⟨rfl, rfl⟩
theorem ar_39 : arrAt SH0 39 = some (0, 40) ∧ rdAt SH0 39 = some (0, 40) := ⟨rfl, rfl⟩
theorem ar_40 : arrAt SH0 40 = some (0, 40) ∧ rdAt SH0 40 = some (0, 40) := ⟨rfl, rfl⟩
theorem ob_41 : objAt SH0 41 = some 8 := rfl
theorem fl_41_0 : fldAt SH0 41 8 0 = some (some 3) := rfl
theorem fl_41_1 : fldAt SH0 41 8 1 = some (some 6) := rfl
theorem fl_41_2 : fldAt SH0 41 8 2 = some (some 42) := rfl
theorem fl_41_3 : fldAt SH0 41 8 3 = some none := rfl
theorem fl_41_4 : fldAt SH0 41 8 4 = some none := rfl
theorem fl_41_5 : fldAt SH0 41 8 5 = some none := rfl
theorem ar_42 : arrAt SH0 42 = some (0, 1209) ∧ rdAt SH0 42 = some (0, 1209) := ⟨rfl, rfl⟩
theorem ob_43 : objAt SH0 43 = some 11 := rfl
theorem fl_43_0 : fldAt SH0 43 11 0 = some none := rfl
theorem fl_43_1 : fldAt SH0 43 11 1 = some none := rfl
theorem fl_43_2 : fldAt SH0 43 11 2 = some (some 44) := rfl
theorem fl_43_3 : fldAt SH0 43 11 3 = some (some 45) := rfl
theorem fl_43_4 : fldAt SH0 43 11 4 = some (some 46) := rfl
theorem fl_43_5 : fldAt SH0 43 11 5 = some (some 47) := rfl
theorem fl_43_6 : fldAt SH0 43 11 6 = some none := rfl
theorem fl_43_7 : fldAt SH0 43 11 7 = some (some 48) := rfl
theorem fl_43_8 : fldAt SH0 43 11 8 = some (some 49) := rfl
theorem fl_43_9 : fldAt SH0 43 11 9 = some (some 50) := rfl
theorem fl_43_10 : fldAt SH0 43 11 10 = some none := rfl
theorem fl_43_11 : fldAt SH0 43 11 11 = some (some 51) := rfl
theorem fl_43_12 : fldAt SH0 43 11 12 = some (some 52) := rfl
theorem fl_43_13 : fldAt SH0 43 11 13 = some (some 53) := rfl
theorem fl_43_14 : fldAt SH0 43 11 14 = some (some 54) := rfl
theorem fl_43_15 : fldAt SH0 43 11 15 = some (some 55) := rfl
theorem fl_43_16 : fldAt SH0 43 11 16 = some none := rfl
theorem fl_43_17 : fldAt SH0 43 11 17 = some (some 56) := rfl
theorem fl_43_18 : fldAt SH0 43 11 18 = some none := rfl
theorem fl_43_19 : fldAt SH0 43 11 19 = some (some 57) := rfl
theorem fl_43_20 : fldAt SH0 43 11 20 = some (some 58) := rfl
theorem fl_43_21 : fldAt SH0 43 11 21 = some none := rfl
theorem fl_43_22 : fldAt SH0 43 11 22 = some none := rfl
theorem fl_43_23 : fldAt SH0 43 11 23 = some (some 59) := rfl
theorem fl_43_24 : fldAt SH0 43 11 24 = some (some 60) := rfl
theorem fl_43_25 : fldAt SH0 43 11 25 = some (some 61) := rfl
theorem fl_43_26 : fldAt SH0 43 11 26 = some none := rfl
theorem fl_43_27 : fldAt SH0 43 11 27 = some (some 62) := rfl
theorem fl_43_28 : fldAt SH0 43 11 28 = some (some 63) := rfl
theorem fl_43_29 : fldAt SH0 43 11 29 = some none := rfl
theorem fl_43_30 : fldAt SH0 43 11 30 = some none := rfl
theorem fl_43_31 : fldAt SH0 43 11 31 = some (some 64) := rfl
theorem fl_43_32 : fldAt SH0 43 11 32 = some (some 65) := rfl
theorem fl_43_33 : fldAt SH0 43 11 33 = some none := rfl
theorem fl_43_34 : fldAt SH0 43 11 34 = some none := rfl
theorem fl_43_35 : fldAt SH0 43 11 35 = some none := rfl
theorem fl_43_36 : fldAt SH0 43 11 36 = some (some 66) := rfl
theorem fl_43_37 : fldAt SH0 43 11 37 = some (some 67) := rfl
theorem fl_43_38 : fldAt SH0 43 11 38 = some (some 68) := rfl
theorem fl_43_39 : fldAt SH0 43 11 39 = some none := rfl
theorem fl_43_40 : fldAt SH0 43 11 40 = some (some 69) := rfl
theorem fl_43_41 : fldAt SH0 43 11 41 = some (some 70) := rfl
theorem fl_43_42 : fldAt SH0 43 11 42 = some (some 71) := rfl
theorem fl_43_43 : fldAt SH0 43 11 43 = some (some 72) := rfl
theorem fl_43_44 : fldAt SH0 43 11 44 = some (some 73) := rfl
theorem fl_43_45 : fldAt SH0 43 11 45 = some none := rfl
theorem fl_43_46 : fldAt SH0 43 11 46 = some none := rfl
theorem fl_43_47 : fldAt SH0 43 11 47 = some (some 74) := rfl
theorem fl_43_48 : fldAt SH0 43 11 48 = some none := rfl
theorem fl_43_49 : fldAt SH0 43 11 49 = some none := rfl
theorem fl_43_50 : fldAt SH0 43 11 50 = some (some 75) := rfl
theorem fl_43_51 : fldAt SH0 43 11 51 = some (some 76) := rfl
theorem fl_43_52 : fldAt SH0 43 11 52 = some none := rfl
theorem fl_43_53 : fldAt SH0 43 11 53 = some none := rfl
theorem ar_44 : arrAt SH0 44 = some (0, 60) ∧ rdAt SH0 44 = some (0, 60) := ⟨rfl, rfl⟩
theorem ar_45 : arrAt SH0 45 = some (1, 60) ∧ rdAt SH0 45 = some (1, 60) := ⟨rfl, rfl⟩
theorem ar_46 : arrAt SH0 46 = some (1, 60) ∧ rdAt SH0 46 = some (1, 60) := ⟨rfl, rfl⟩
theorem ar_47 : arrAt SH0 47 = some (0, 60) ∧ rdAt SH0 47 = some (0, 60) := ⟨rfl, rfl⟩
theorem ar_48 : arrAt SH0 48 = some (0, 1080) ∧ rdAt SH0 48 = some (0, 1080) := ⟨rfl, rfl⟩
theorem ar_49 : arrAt SH0 49 = some (0, 90) ∧ rdAt SH0 49 = some (0, 90) := ⟨rfl, rfl⟩
theorem ar_50 : arrAt SH0 50 = some (0, 90) ∧ rdAt SH0 50 = some (0, 90) := ⟨rfl, rfl⟩
theorem ar_51 : arrAt SH0 51 = some (0, 40) ∧ rdAt SH0 51 = some (0, 40) := ⟨rfl, rfl⟩
theorem ar_52 : arrAt SH0 52 = some (0, 160) ∧ rdAt SH0 52 = some (0, 160) := ⟨rfl, rfl⟩
theorem ar_53 : arrAt SH0 53 = some (0, 40) ∧ rdAt SH0 53 = some (0, 40) := ⟨rfl, rfl⟩
theorem ar_54 : arrAt SH0 54 = some (0, 9) ∧ rdAt SH0 54 = some (0, 9) := ⟨rfl, rfl⟩
theorem ar_55 : arrAt SH0 55 = some (1, 676) ∧ rdAt SH0 55 = some (1, 676) := ⟨rfl, rfl⟩
theorem ar_56 : arrAt SH0 56 = some (0, 80) ∧ rdAt SH0 56 = some (0, 80) := ⟨rfl, rfl⟩
theorem ar_57 : arrAt SH0 57 = some (0, 300) ∧ rdAt SH0 57 = some (0, 300) := ⟨rfl, rfl⟩
theorem ar_58 : arrAt SH0 58 = some (0, 300) ∧ rdAt SH0 58 = some (0, 300) := ⟨rfl, rfl⟩
theorem ar_59 : arrAt SH0 59 = some (0, 10) ∧ rdAt SH0 59 = some (0, 10) := ⟨rfl, rfl⟩
theorem ar_60 : arrAt SH0 60 = some (0, 10) ∧ rdAt SH0 60 = some (0, 10) := ⟨rfl, rfl⟩
theorem ar_61 : arrAt SH0 61 = some (0, 10) ∧ rdAt SH0 61 = some (0, 10) := ⟨rfl, rfl⟩
theorem ar_62 : arrAt SH0 62 = some (0, 10) ∧ rdAt SH0 62 = some (0, 10) := ⟨rfl, rfl⟩
theorem ar_63 : arrAt SH0 63 = some (0, 10) ∧ rdAt SH0 63 = some (0, 10) := ⟨rfl, rfl⟩
theorem ar_64 : arrAt SH0 64 = some (0, 1053) ∧ rdAt SH0 64 = some (0, 1053) := ⟨rfl, rfl⟩
theorem ar_65 : arrAt SH0 65 = some (0, 1053) ∧ rdAt SH0 65 = some (0, 1053) := ⟨rfl, rfl⟩
theorem ar_66 : arrAt SH0 66 = some (0, 60) ∧ rdAt SH0 66 = some (0, 60) := ⟨rfl, rfl⟩
theorem ar_67 : arrAt SH0 67 = some (0, 60) ∧ rdAt SH0 67 = some (0, 60) := ⟨rfl, rfl⟩
theorem ar_68 : arrAt SH0 68 = some (1, 60) ∧ rdAt SH0 68 = some (1, 60) := ⟨rfl, rfl⟩
theorem ar_69 : arrAt SH0 69 = some (0, 480) ∧ rdAt SH0 69 = some (0, 480) := ⟨rfl, rfl⟩
theorem ar_70 : arrAt SH0 70 = some (0, 40) ∧ rdAt SH0 70 = some (0, 40) := ⟨rfl, rfl⟩
theorem ar_71 : arrAt SH0 71 = some (0, 40) ∧ rdAt SH0 71 = some (0, 40) := ⟨rfl, rfl⟩
theorem ar_72 : arrAt SH0 72 = some (0, 40) ∧ rdAt SH0 72 = some (0, 40) := ⟨rfl, rfl⟩
theorem ar_73 : arrAt SH0 73 = some (0, 60) ∧ rdAt SH0 73 = some (0, 60) := ⟨rfl, rfl⟩
theorem ar_74 : arrAt SH0 74 = some (0, 4) ∧ rdAt SH0 74 = some (0, 4) := ⟨rfl, rfl⟩
theorem ar_75 : arrAt SH0 75 = some (0, 60) ∧ rdAt SH0 75 = some (0, 60) := ⟨rfl, rfl⟩
theorem ar_76 : arrAt SH0 76 = some (0, 1053) ∧ rdAt SH0 76 = some (0, 1053) := ⟨rfl, rfl⟩
theorem ar_77 : arrAt SH0 77 = some (2, 1) ∧ rdAt SH0 77 = some (2, 1) := ⟨rfl, rfl⟩
theorem ar_1001 : rdAt SH0 1001 = some (0, 9) := rfl
theorem ar_1002 : rdAt SH0 1002 = some (0, 9) := rfl
theorem ar_1003 : rdAt SH0 1003 = some (0, 9) := rfl
theorem cn_0_34 : callAt 0 34 = none := rfl
theorem cn_1_36 : callAt 1 36 = none := rfl
theorem cn_2_29 : callAt 2 29 = none := rfl
theorem cn_3_83 : callAt 3 83 = none := rfl
theorem cn_7_18 : callAt 7 18 = none := rfl
theorem cn_8_74 : callAt 8 74 = none := rfl
