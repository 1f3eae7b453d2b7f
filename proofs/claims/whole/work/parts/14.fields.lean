theorem rf_0_0 {a : Prop} {f : Nat → Prop} : refP (fldAt SH0 0 10 0) a f = f 1 := rfl
theorem rf_0_1 {a : Prop} {f : Nat → Prop} : refP (fldAt SH0 0 10 1) a f = a := rfl
theorem rf_0_2 {a : Prop} {f : Nat → Prop} : refP (fldAt SH0 0 10 2) a f = f 2 := rfl
theorem rf_0_3 {a : Prop} {f : Nat → Prop} : refP (fldAt SH0 0 10 3) a f = f 3 := rfl
theorem rf_0_4 {a : Prop} {f : Nat → Prop} : refP (fldAt SH0 0 10 4) a f = f 6 := rfl
theorem rf_0_5 {a : Prop} {f : Nat → Prop} : refP (fldAt SH0 0 10 5) a f = f 10 := rfl
theorem rf_0_6 {a : Prop} {f : Nat → Prop} : refP (fldAt SH0 0 10 6) a f = f 15 := rfl
theorem rf_0_7 {a : Prop} {f : Nat → Prop} : refP (fldAt SH0 0 10 7) a f = f 19 := rfl
theorem rf_0_8 {a : Prop} {f : Nat → Prop} : refP (fldAt SH0 0 10 8) a f = f 24 := rfl
theorem rf_0_9 {a : Prop} {f : Nat → Prop} : refP (fldAt SH0 0 10 9) a f = f 27 := rfl
theorem rf_0_10 {a : Prop} {f : Nat → Prop} : refP (fldAt SH0 0 10 10) a f = f 33 := rfl
theorem rf_0_11 {a : Prop} {f : Nat → Prop} : refP (fldAt SH0 0 10 11) a f = f 36 := rfl
theorem rf_0_12 {a : Prop} {f : Nat → Prop} : refP (fldAt SH0 0 10 12) a f = f 41 := rfl
theorem ln_1 {f : Nat → Prop} : lenP 0 (arrAt SH0 1) f = f 80 ∧ lenP 0 (rdAt SH0 1) f = f 80 := ⟨by rw [ar_1.1, lenP_s]; simp only [true_and], by rw [ar_1.2, lenP_s]; simp only [true_and]⟩
theorem ln_2 {f : Nat → Prop} : lenP 0 (arrAt SH0 2) f = f 12 ∧ lenP 0 (rdAt SH0 2) f = f 12 := ⟨by rw [ar_2.1, lenP_s]; simp only [true_and], by rw [ar_2.2, lenP_s]; simp only [true_and]⟩
theorem rf_3_0 {a : Prop} {f : Nat → Prop} : refP (fldAt SH0 3 7 0) a f = f 4 := rfl
theorem rf_3_1 {a : Prop} {f : Nat → Prop} : refP (fldAt SH0 3 7 1) a f = f 5 := rfl
theorem ln_4 {f : Nat → Prop} : lenP 0 (arrAt SH0 4) f = f 9 ∧ lenP 0 (rdAt SH0 4) f = f 9 := ⟨by rw [ar_4.1, lenP_s]; simp only [true_and], by rw [ar_4.2, lenP_s]; simp only [true_and]⟩
theorem ln_5 {f : Nat → Prop} : lenP 1 (arrAt SH0 5) f = f 676 ∧ lenP 1 (rdAt SH0 5) f = f 676 := ⟨by rw [ar_5.1, lenP_s]; simp only [true_and], by rw [ar_5.2, lenP_s]; simp only [true_and]⟩
theorem rf_6_0 {a : Prop} {f : Nat → Prop} : refP (fldAt SH0 6 2 0) a f = f 7 := rfl
theorem rf_6_1 {a : Prop} {f : Nat → Prop} : refP (fldAt SH0 6 2 1) a f = f 8 := rfl
theorem rf_6_2 {a : Prop} {f : Nat → Prop} : refP (fldAt SH0 6 2 2) a f = f 9 := rfl
theorem rf_6_3 {a : Prop} {f : Nat → Prop} : refP (fldAt SH0 6 2 3) a f = a := rfl
theorem ln_7 {f : Nat → Prop} : lenP 0 (arrAt SH0 7) f = f 1080 ∧ lenP 0 (rdAt SH0 7) f = f 1080 := ⟨by rw [ar_7.1, lenP_s]; simp only [true_and], by rw [ar_7.2, lenP_s]; simp only [true_and]⟩
theorem ln_8 {f : Nat → Prop} : lenP 0 (arrAt SH0 8) f = f 90 ∧ lenP 0 (rdAt SH0 8) f = f 90 := ⟨by rw [ar_8.1, lenP_s]; simp only [true_and], by rw [ar_8.2, lenP_s]; simp only [true_and]⟩
theorem ln_9 {f : Nat → Prop} : lenP 0 (arrAt SH0 9) f = f 90 ∧ lenP 0 (rdAt SH0 9) f = f 90 := ⟨by rw [ar_9.1, lenP_s]; simp only [true_and], by rw [ar_9.2, lenP_s]; simp only [true_and]⟩
theorem rf_10_0 {a : Prop} {f : Nat → Prop} : refP (fldAt SH0 10 9 0) a f = f 11 := rfl
theorem rf_10_1 {a : Prop} {f : Nat → Prop} : refP (fldAt SH0 10 9 1) a f = f 12 := rfl
theorem rf_10_2 {a : Prop} {f : Nat → Prop} : refP (fldAt SH0 10 9 2) a f = f 13 := rfl
theorem rf_10_3 {a : Prop} {f : Nat → Prop} : refP (fldAt SH0 10 9 3) a f = f 14 := rfl
theorem rf_10_4 {a : Prop} {f : Nat → Prop} : refP (fldAt SH0 10 9 4) a f = a := rfl
theorem ln_11 {f : Nat → Prop} : lenP 0 (arrAt SH0 11) f = f 60 ∧ lenP 0 (rdAt SH0 11) f = f 60 := ⟨by rw [ar_11.1, lenP_s]; simp only [true_and], by rw [ar_11.2, lenP_s]; simp only [true_and]⟩
theorem ln_12 {f : Nat → Prop} : lenP 0 (arrAt SH0 12) f = f 60 ∧ lenP 0 (rdAt SH0 12) f = f 60 := ⟨by rw [ar_12.1, lenP_s]; simp only [true_and], by rw [ar_12.2, lenP_s]; simp only [true_and]⟩
theorem ln_13 {f : Nat → Prop} : lenP 1 (arrAt SH0 13) f = f 60 ∧ lenP 1 (rdAt SH0 13) f = f 60 := ⟨by rw [ar_13.1, lenP_s]; simp only [true_and], by rw [ar_13.2, lenP_s]; simp only [true_and]⟩
theorem ln_14 {f : Nat → Prop} : lenP 1 (arrAt SH0 14) f = f 60 ∧ lenP 1 (rdAt SH0 14) f = f 60 := ⟨by rw [ar_14.1, lenP_s]; simp only [true_and], by rw [ar_14.2, lenP_s]; simp only [true_and]⟩
theorem rf_15_0 {a : Prop} {f : Nat → Prop} : refP (fldAt SH0 15 6 0) a f = f 16 := rfl
theorem rf_15_1 {a : Prop} {f : Nat → Prop} : refP (fldAt SH0 15 6 1) a f = f 17 := rfl
theorem rf_15_2 {a : Prop} {f : Nat → Prop} : refP (fldAt SH0 15 6 2) a f = f 18 := rfl
theorem rf_15_3 {a : Prop} {f : Nat → Prop} : refP (fldAt SH0 15 6 3) a f = a := rfl
theorem ln_16 {f : Nat → Prop} : lenP 0 (arrAt SH0 16) f = f 40 ∧ lenP 0 (rdAt SH0 16) f = f 40 := ⟨by rw [ar_16.1, lenP_s]; simp only [true_and], by rw [ar_16.2, lenP_s]; simp only [true_and]⟩
theorem ln_17 {f : Nat → Prop} : lenP 0 (arrAt SH0 17) f = f 40 ∧ lenP 0 (rdAt SH0 17) f = f 40 := ⟨by rw [ar_17.1, lenP_s]; simp only [true_and], by rw [ar_17.2, lenP_s]; simp only [true_and]⟩
theorem ln_18 {f : Nat → Prop} : lenP 0 (arrAt SH0 18) f = f 160 ∧ lenP 0 (rdAt SH0 18) f = f 160 := ⟨by rw [ar_18.1, lenP_s]; simp only [true_and], by rw [ar_18.2, lenP_s]; simp only [true_and]⟩
theorem rf_19_0 {a : Prop} {f : Nat → Prop} : refP (fldAt SH0 19 0 0) a f = f 20 := rfl
theorem rf_19_1 {a : Prop} {f : Nat → Prop} : refP (fldAt SH0 19 0 1) a f = f 21 := rfl
theorem rf_19_2 {a : Prop} {f : Nat → Prop} : refP (fldAt SH0 19 0 2) a f = f 22 := rfl
theorem rf_19_3 {a : Prop} {f : Nat → Prop} : refP (fldAt SH0 19 0 3) a f = f 23 := rfl
theorem rf_19_4 {a : Prop} {f : Nat → Prop} : refP (fldAt SH0 19 0 4) a f = a := rfl
theorem rf_19_5 {a : Prop} {f : Nat → Prop} : refP (fldAt SH0 19 0 5) a f = a := rfl
theorem rf_19_6 {a : Prop} {f : Nat → Prop} : refP (fldAt SH0 19 0 6) a f = a := rfl
theorem ln_20 {f : Nat → Prop} : lenP 0 (arrAt SH0 20) f = f 92 ∧ lenP 0 (rdAt SH0 20) f = f 92 := ⟨by rw [ar_20.1, lenP_s]; simp only [true_and], by rw [ar_20.2, lenP_s]; simp only [true_and]⟩
theorem ln_21 {f : Nat → Prop} : lenP 0 (arrAt SH0 21) f = f 92 ∧ lenP 0 (rdAt SH0 21) f = f 92 := ⟨by rw [ar_21.1, lenP_s]; simp only [true_and], by rw [ar_21.2, lenP_s]; simp only [true_and]⟩
theorem ln_22 {f : Nat → Prop} : lenP 0 (arrAt SH0 22) f = f 10 ∧ lenP 0 (rdAt SH0 22) f = f 10 := ⟨by rw [ar_22.1, lenP_s]; simp only [true_and], by rw [ar_22.2, lenP_s]; simp only [true_and]⟩
theorem ln_23 {f : Nat → Prop} : lenP 0 (arrAt SH0 23) f = f 10 ∧ lenP 0 (rdAt SH0 23) f = f 10 := ⟨by rw [ar_23.1, lenP_s]; simp only [true_and], by rw [ar_23.2, lenP_s]; simp only [true_and]⟩
theorem rf_24_0 {a : Prop} {f : Nat → Prop} : refP (fldAt SH0 24 5 0) a f = f 19 := rfl
theorem rf_24_1 {a : Prop} {f : Nat → Prop} : refP (fldAt SH0 24 5 1) a f = f 6 := rfl
theorem rf_24_2 {a : Prop} {f : Nat → Prop} : refP (fldAt SH0 24 5 2) a f = f 10 := rfl
theorem rf_24_3 {a : Prop} {f : Nat → Prop} : refP (fldAt SH0 24 5 3) a f = f 15 := rfl
theorem rf_24_4 {a : Prop} {f : Nat → Prop} : refP (fldAt SH0 24 5 4) a f = f 25 := rfl
theorem rf_24_5 {a : Prop} {f : Nat → Prop} : refP (fldAt SH0 24 5 5) a f = f 26 := rfl
theorem rf_24_6 {a : Prop} {f : Nat → Prop} : refP (fldAt SH0 24 5 6) a f = a := rfl
theorem rf_24_7 {a : Prop} {f : Nat → Prop} : refP (fldAt SH0 24 5 7) a f = a := rfl
theorem rf_24_8 {a : Prop} {f : Nat → Prop} : refP (fldAt SH0 24 5 8) a f = a := rfl
theorem rf_24_9 {a : Prop} {f : Nat → Prop} : refP (fldAt SH0 24 5 9) a f = a := rfl
theorem rf_24_10 {a : Prop} {f : Nat → Prop} : refP (fldAt SH0 24 5 10) a f = a := rfl
theorem ln_25 {f : Nat → Prop} : lenP 0 (arrAt SH0 25) f = f 10 ∧ lenP 0 (rdAt SH0 25) f = f 10 := ⟨by rw [ar_25.1, lenP_s]; simp only [true_and], by rw [ar_25.2, lenP_s]; simp only [true_and]⟩
theorem ln_26 {f : Nat → Prop} : lenP 0 (arrAt SH0 26) f = f 10 ∧ lenP 0 (rdAt SH0 26) f = f 10 := ⟨by rw [ar_26.1, lenP_s]; simp only [true_and], by rw [ar_26.2, lenP_s]; simp only [true_and]⟩
theorem rf_27_0 {a : Prop} {f : Nat → Prop} : refP (fldAt SH0 27 4 0) a f = f 24 := rfl
theorem rf_27_1 {a : Prop} {f : Nat → Prop} : refP (fldAt SH0 27 4 1) a f = f 28 := rfl
theorem rf_27_2 {a : Prop} {f : Nat → Prop} : refP (fldAt SH0 27 4 2) a f = f 30 := rfl
theorem rf_27_3 {a : Prop} {f : Nat → Prop} : refP (fldAt SH0 27 4 3) a f = f 31 := rfl
theorem rf_27_4 {a : Prop} {f : Nat → Prop} : refP (fldAt SH0 27 4 4) a f = f 32 := rfl
theorem rf_27_5 {a : Prop} {f : Nat → Prop} : refP (fldAt SH0 27 4 5) a f = a := rfl
theorem rf_28_0 {a : Prop} {f : Nat → Prop} : refP (fldAt SH0 28 8 0) a f = f 3 := rfl
theorem rf_28_1 {a : Prop} {f : Nat → Prop} : refP (fldAt SH0 28 8 1) a f = f 6 := rfl
theorem rf_28_2 {a : Prop} {f : Nat → Prop} : refP (fldAt SH0 28 8 2) a f = f 29 := rfl
theorem rf_28_3 {a : Prop} {f : Nat → Prop} : refP (fldAt SH0 28 8 3) a f = a := rfl
theorem rf_28_4 {a : Prop} {f : Nat → Prop} : refP (fldAt SH0 28 8 4) a f = a := rfl
theorem rf_28_5 {a : Prop} {f : Nat → Prop} : refP (fldAt SH0 28 8 5) a f = a := rfl
theorem ln_29 {f : Nat → Prop} : lenP 0 (arrAt SH0 29) f = f 1209 ∧ lenP 0 (rdAt SH0 29) f = f 1209 := ⟨by rw [ar_29.1, lenP_s]; simp only [true_and], by rw [ar_29.2, lenP_s]; simp only [true_and]⟩
theorem ln_30 {f : Nat → Prop} : lenP 0 (arrAt SH0 30) f = f 60 ∧ lenP 0 (rdAt SH0 30) f = f 60 := ⟨by rw [ar_30.1, lenP_s]; simp only [true_and], by rw [ar_30.2, lenP_s]; simp only [true_and]⟩
theorem ln_31 {f : Nat → Prop} : lenP 0 (arrAt SH0 31) f = f 60 ∧ lenP 0 (rdAt SH0 31) f = f 60 := ⟨by rw [ar_31.1, lenP_s]; simp only [true_and], by rw [ar_31.2, lenP_s]; simp only [true_and]⟩
theorem ln_32 {f : Nat → Prop} : lenP 1 (arrAt SH0 32) f = f 60 ∧ lenP 1 (rdAt SH0 32) f = f 60 := ⟨by rw [ar_32.1, lenP_s]; simp only [true_and], by rw [ar_32.2, lenP_s]; simp only [true_and]⟩
theorem rf_33_0 {a : Prop} {f : Nat → Prop} : refP (fldAt SH0 33 3 0) a f = f 24 := rfl
theorem rf_33_1 {a : Prop} {f : Nat → Prop} : refP (fldAt SH0 33 3 1) a f = f 34 := rfl
theorem rf_33_2 {a : Prop} {f : Nat → Prop} : refP (fldAt SH0 33 3 2) a f = f 35 := rfl
theorem rf_33_3 {a : Prop} {f : Nat → Prop} : refP (fldAt SH0 33 3 3) a f = a := rfl
theorem rf_33_4 {a : Prop} {f : Nat → Prop} : refP (fldAt SH0 33 3 4) a f = a := rfl
theorem rf_33_5 {a : Prop} {f : Nat → Prop} : refP (fldAt SH0 33 3 5) a f = a := rfl
theorem ln_34 {f : Nat → Prop} : lenP 0 (arrAt SH0 34) f = f 4 ∧ lenP 0 (rdAt SH0 34) f = f 4 := ⟨by rw [ar_34.1, lenP_s]; simp only [true_and], by rw [ar_34.2, lenP_s]; simp only [true_and]⟩
theorem ln_35 {f : Nat → Prop} : lenP 0 (arrAt SH0 35) f = f 55 ∧ lenP 0 (rdAt SH0 35) f = f 55 := ⟨by rw [ar_35.1, lenP_s]; simp only [true_and], by rw [ar_35.2, lenP_s]; simp only [true_and]⟩
theorem rf_36_0 {a : Prop} {f : Nat → Prop} : refP (fldAt SH0 36 1 0) a f = f 37 := rfl
theorem rf_36_1 {a : Prop} {f : Nat → Prop} : refP (fldAt SH0 36 1 1) a f = f 38 := rfl
theorem rf_36_2 {a : Prop} {f : Nat → Prop} : refP (fldAt SH0 36 1 2) a f = f 39 := rfl
theorem rf_36_3 {a : Prop} {f : Nat → Prop} : refP (fldAt SH0 36 1 3) a f = f 40 := rfl
theorem rf_36_4 {a : Prop} {f : Nat → Prop} : refP (fldAt SH0 36 1 4) a f = a := rfl
theorem ln_37 {f : Nat → Prop} : lenP 0 (arrAt SH0 37) f = f 480 ∧ lenP 0 (rdAt SH0 37) f = f 480 := ⟨by rw [ar_37.1, lenP_s]; simp only [true_and], by rw [ar_37.2, lenP_s]; simp only [true_and]⟩
theorem ln_38 {f : Nat → Prop} : lenP 0 (arrAt SH0 38) f = f 40 ∧ lenP 0 (rdAt SH0 38) f = f 40 := ⟨by rw [ar_38.1, lenP_s]; simp only [true_and], by rw [ar_38.2, lenP_s]; simp only [true_and]⟩
theorem ln_39 {f : Nat → Prop} : lenP 0 (arrAt SH0 39) f = f 40 ∧ lenP 0 (rdAt SH0 39) f = f 40 := ⟨by rw [ar_39.1, lenP_s]; simp only [true_and], by rw [ar_39.2, lenP_s]; simp only [true_and]⟩
theorem ln_40 {f : Nat → Prop} : lenP 0 (arrAt SH0 40) f = f 40 ∧ lenP 0 (rdAt SH0 40) f = f 40 := ⟨by rw [ar_40.1, lenP_s]; simp only [true_and], by rw [ar_40.2, lenP_s]; simp only [true_and]⟩
theorem rf_41_0 {a : Prop} {f : Nat → Prop} : refP (fldAt SH0 41 8 0) a f = f 3 := rfl
theorem rf_41_1 {a : Prop} {f : Nat → Prop} : refP (fldAt SH0 41 8 1) a f = f 6 := rfl
theorem rf_41_2 {a : Prop} {f : Nat → Prop} : refP (fldAt SH0 41 8 2) a f = f 42 := rfl
theorem rf_41_3 {a : Prop} {f : Nat → Prop} : refP (fldAt SH0 41 8 3) a f = a := rfl
theorem rf_41_4 {a : Prop} {f : Nat → Prop} : refP (fldAt SH0 41 8 4) a f = a := rfl
theorem rf_41_5 {a : Prop} {f : Nat → Prop} : refP (fldAt SH0 41 8 5) a f = a := rfl
theorem ln_42 {f : Nat → Prop} : lenP 0 (arrAt SH0 42) f = f 1209 ∧ lenP 0 (rdAt SH0 42) f = f 1209 := ⟨by rw [ar_42.1, lenP_s]; simp only [true_and], by rw [ar_42.2, lenP_s]; simp only [true_and]⟩
theorem rf_43_0 {a : Prop} {f : Nat → Prop} : refP (fldAt SH0 43 11 0) a f = a := rfl
theorem rf_43_1 {a : Prop} {f : Nat → Prop} : refP (fldAt SH0 43 11 1) a f = a := rfl
theorem rf_43_2 {a : Prop} {f : Nat → Prop} : refP (fldAt SH0 43 11 2) a f = f 44 := rfl
theorem rf_43_3 {a : Prop} {f : Nat → Prop} : refP (fldAt SH0 43 11 3) a f = f 45 := rfl
theorem rf_43_4 {a : Prop} {f : Nat → Prop} : refP (fldAt SH0 43 11 4) a f = f 46 := rfl
theorem rf_43_5 {a : Prop} {f : Nat → Prop} : refP (fldAt SH0 43 11 5) a f = f 47 := rfl
theorem rf_43_6 {a : Prop} {f : Nat → Prop} : refP (fldAt SH0 43 11 6) a f = a := rfl
theorem rf_43_7 {a : Prop} {f : Nat → Prop} : refP (fldAt SH0 43 11 7) a f = f 48 := rfl
theorem rf_43_8 {a : Prop} {f : Nat → Prop} : refP (fldAt SH0 43 11 8) a f = f 49 := rfl
theorem rf_43_9 {a : Prop} {f : Nat → Prop} : refP (fldAt SH0 43 11 9) a f = f 50 := rfl
theorem rf_43_10 {a : Prop} {f : Nat → Prop} : refP (fldAt SH0 43 11 10) a f = a := rfl
theorem rf_43_11 {a : Prop} {f : Nat → Prop} : refP (fldAt SH0 43 11 11) a f = f 51 := rfl
theorem rf_43_12 {a : Prop} {f : Nat → Prop} : refP (fldAt SH0 43 11 12) a f = f 52 := rfl
theorem rf_43_13 {a : Prop} {f : Nat → Prop} : refP (fldAt SH0 43 11 13) a f = f 53 := rfl
theorem rf_43_14 {a : Prop} {f : Nat → Prop} : refP (fldAt SH0 43 11 14) a f = f 54 := rfl
theorem rf_43_15 {a : Prop} {f : Nat → Prop} : refP (fldAt SH0 43 11 15) a f = f 55 := rfl
theorem rf_43_16 {a : Prop} {f : Nat → Prop} : refP (fldAt SH0 43 11 16) a f = a := rfl
theorem rf_43_17 {a : Prop} {f : Nat → Prop} : refP (fldAt SH0 43 11 17) a f = f 56 := rfl
theorem rf_43_18 {a : Prop} {f : Nat → Prop} : refP (fldAt SH0 43 11 18) a f = a := rfl
theorem rf_43_19 {a : Prop} {f : Nat → Prop} : refP (fldAt SH0 43 11 19) a f = f 57 := rfl
theorem rf_43_20 {a : Prop} {f : Nat → Prop} : refP (fldAt SH0 43 11 20) a f = f 58 := rfl
theorem rf_43_21 {a : Prop} {f : Nat → Prop} : refP (fldAt SH0 43 11 21) a f = a := rfl
theorem rf_43_22 {a : Prop} {f : Nat → Prop} : refP (fldAt SH0 43 11 22) a f = a := rfl
theorem rf_43_23 {a : Prop} {f : Nat → Prop} : refP (fldAt SH0 43 11 23) a f = f 59 := rfl
theorem rf_43_24 {a : Prop} {f : Nat → Prop} : refP (fldAt SH0 43 11 24) a f = f 60 := rfl
theorem rf_43_25 {a : Prop} {f : Nat → Prop} : refP (fldAt SH0 43 11 25) a f = f 61 := rfl
theorem rf_43_26 {a : Prop} {f : Nat → Prop} : refP (fldAt SH0 43 11 26) a f = a := rfl
theorem rf_43_27 {a : Prop} {f : Nat → Prop} : refP (fldAt SH0 43 11 27) a f = f 62 := rfl
theorem rf_43_28 {a : Prop} {f : Nat → Prop} : refP (fldAt SH0 43 11 28) a f = f 63 := rfl
theorem rf_43_29 {a : Prop} {f : Nat → Prop} : refP (fldAt SH0 43 11 29) a f = a := rfl
theorem rf_43_30 {a : Prop} {f : Nat → Prop} : refP (fldAt SH0 43 11 30) a f = a := rfl
theorem rf_43_31 {a : Prop} {f : Nat → Prop} : refP (fldAt SH0 43 11 31) a f = f 64 := rfl
theorem rf_43_32 {a : Prop} {f : Nat → Prop} : refP (fldAt SH0 43 11 32) a f = f 65 := rfl
theorem rf_43_33 {a : Prop} {f : Nat → Prop} : refP (fldAt SH0 43 11 33) a f = a := rfl
theorem rf_43_34 {a : Prop} {f : Nat → Prop} : refP (fldAt SH0 43 11 34) a f = a := rfl
theorem rf_43_35 {a : Prop} {f : Nat → Prop} : refP (fldAt SH0 43 11 35) a f = a := rfl
theorem rf_43_36 {a : Prop} {f : Nat → Prop} : refP (fldAt SH0 43 11 36) a f = f 66 := rfl
theorem rf_43_37 {a : Prop} {f : Nat → Prop} : refP (fldAt SH0 43 11 37) a f = f 67 := rfl
theorem rf_43_38 {a : Prop} {f : Nat → Prop} : refP (fldAt SH0 43 11 38) a f = f 68 := rfl
theorem rf_43_39 {a : Prop} {f : Nat → Prop} : refP (fldAt SH0 43 11 39) a f = a := rfl
theorem rf_43_40 {a : Prop} {f : Nat → Prop} : refP (fldAt SH0 43 11 40) a f = f 69 := rfl
theorem rf_43_41 {a : Prop} {f : Nat → Prop} : refP (fldAt SH0 43 11 41) a f = f 70 := rfl
theorem rf_43_42 {a : Prop} {f : Nat → Prop} : refP (fldAt SH0 43 11 42) a f = f 71 := rfl
theorem rf_43_43 {a : Prop} {f : Nat → Prop} : refP (fldAt SH0 43 11 43) a f = f 72 := rfl
theorem rf_43_44 {a : Prop} {f : Nat → Prop} : refP (fldAt SH0 43 11 44) a f = f 73 := rfl
theorem rf_43_45 {a : Prop} {f : Nat → Prop} : refP (fldAt SH0 43 11 45) a f = a := rfl
theorem rf_43_46 {a : Prop} {f : Nat → Prop} : refP (fldAt SH0 43 11 46) a f = a := rfl
theorem rf_43_47 {a : Prop} {f : Nat → Prop} : refP (fldAt SH0 43 11 47) a f = f 74 := rfl
theorem rf_43_48 {a : Prop} {f : Nat → Prop} : refP (fldAt SH0 43 11 48) a f = a := rfl
theorem rf_43_49 {a : Prop} {f : Nat → Prop} : refP (fldAt SH0 43 11 49) a f = a := rfl
theorem rf_43_50 {a : Prop} {f : Nat → Prop} : refP (fldAt SH0 43 11 50) a f = f 75 := rfl
theorem rf_43_51 {a : Prop} {f : Nat → Prop} : refP (fldAt SH0 43 11 51) a f = f 76 := rfl
theorem rf_43_52 {a : Prop} {f : Nat → Prop} : refP (fldAt SH0 43 11 52) a f = a := rfl
theorem rf_43_53 {a : Prop} {f : Nat → Prop} : refP (fldAt SH0 43 11 53) a f = a := rfl
theorem ln_44 {f : Nat → Prop} : lenP 0 (arrAt SH0 44) f = f 60 ∧ lenP 0 (rdAt SH0 44) f = f 60 := ⟨by rw [ar_44.1, lenP_s]; simp only [true_and], by rw [ar_44.2, lenP_s]; simp only [true_and]⟩
theorem ln_45 {f : Nat → Prop} : lenP 1 (arrAt SH0 45) f = f 60 ∧ lenP 1 (rdAt SH0 45) f = f 60 := ⟨by rw [ar_45.1, lenP_s]; simp only [true_and], by rw [ar_45.2, lenP_s]; simp only [true_and]⟩
theorem ln_46 {f : Nat → Prop} : lenP 1 (arrAt SH0 46) f = f 60 ∧ lenP 1 (rdAt SH0 46) f = f 60 := ⟨by rw [ar_46.1, lenP_s]; simp only [true_and], by rw [ar_46.2, lenP_s]; simp only [true_and]⟩
theorem ln_47 {f : Nat → Prop} : lenP 0 (arrAt SH0 47) f = f 60 ∧ lenP 0 (rdAt SH0 47) f = f 60 := ⟨by rw [ar_47.1, lenP_s]; simp only [true_and], by rw [ar_47.2, lenP_s]; simp only [true_and]⟩
theorem ln_48 {f : Nat → Prop} : lenP 0 (arrAt SH0 48) f = f 1080 ∧ lenP 0 (rdAt SH0 48) f = f 1080 := ⟨by rw [ar_48.1, lenP_s]; simp only [true_and], by rw [ar_48.2, lenP_s]; simp only [true_and]⟩
theorem ln_49 {f : Nat → Prop} : lenP 0 (arrAt SH0 49) f = f 90 ∧ lenP 0 (rdAt SH0 49) f = f 90 := ⟨by rw [ar_49.1, lenP_s]; simp only [true_and], by rw [ar_49.2, lenP_s]; simp only [true_and]⟩
theorem ln_50 {f : Nat → Prop} : lenP 0 (arrAt SH0 50) f = f 90 ∧ lenP 0 (rdAt SH0 50) f = f 90 := ⟨by rw [ar_50.1, lenP_s]; simp only [true_and], by rw [ar_50.2, lenP_s]; simp only [true_and]⟩
theorem ln_51 {f : Nat → Prop} : lenP 0 (arrAt SH0 51) f = f 40 ∧ lenP 0 (rdAt SH0 51) f = f 40 := ⟨by rw [ar_51.1, lenP_s]; simp only [true_and], by rw [ar_51.2, lenP_s]; simp only [true_and]⟩
theorem ln_52 {f : Nat → Prop} : lenP 0 (arrAt SH0 52) f = f 160 ∧ lenP 0 (rdAt SH0 52) f = f 160 := ⟨by rw [ar_52.1, lenP_s]; simp only [true_and], by rw [ar_52.2, lenP_s]; simp only [true_and]⟩
theorem ln_53 {f : Nat → Prop} : lenP 0 (arrAt SH0 53) f = f 40 ∧ lenP 0 (rdAt SH0 53) f = f 40 := ⟨by rw [ar_53.1, lenP_s]; simp only [true_and], by rw [ar_53.2, lenP_s]; simp only [true_and]⟩
theorem ln_54 {f : Nat → Prop} : lenP 0 (arrAt SH0 54) f = f 9 ∧ lenP 0 (rdAt SH0 54) f = f 9 := ⟨by rw [ar_54.1, lenP_s]; simp only [true_and], by rw [ar_54.2, lenP_s]; simp only [true_and]⟩
theorem ln_55 {f : Nat → Prop} : lenP 1 (arrAt SH0 55) f = f 676 ∧ lenP 1 (rdAt SH0 55) f = f 676 := ⟨by rw [ar_55.1, lenP_s]; simp only [true_and], by rw [ar_55.2, lenP_s]; simp only [true_and]⟩
theorem ln_56 {f : Nat → Prop} : lenP 0 (arrAt SH0 56) f = f 80 ∧ lenP 0 (rdAt SH0 56) f = f 80 := ⟨by rw [ar_56.1, lenP_s]; simp only [true_and], by rw [ar_56.2, lenP_s]; simp only [true_and]⟩
theorem ln_57 {f : Nat → Prop} : lenP 0 (arrAt SH0 57) f = f 300 ∧ lenP 0 (rdAt SH0 57) f = f 300 := ⟨by rw [ar_57.1, lenP_s]; simp only [true_and], by rw [ar_57.2, lenP_s]; simp only [true_and]⟩
theorem ln_58 {f : Nat → Prop} : lenP 0 (arrAt SH0 58) f = f 300 ∧ lenP 0 (rdAt SH0 58) f = f 300 := ⟨by rw [ar_58.1, lenP_s]; simp only [true_and], by rw [ar_58.2, lenP_s]; simp only [true_and]⟩
theorem ln_59 {f : Nat → Prop} : lenP 0 (arrAt SH0 59) f = f 10 ∧ lenP 0 (rdAt SH0 59) f = f 10 := ⟨by rw [ar_59.1, lenP_s]; simp only [true_and], by rw [ar_59.2, lenP_s]; simp only [true_and]⟩
theorem ln_60 {f : Nat → Prop} : lenP 0 (arrAt SH0 60) f = f 10 ∧ lenP 0 (rdAt SH0 60) f = f 10 := ⟨by rw [ar_60.1, lenP_s]; simp only [true_and], by rw [ar_60.2, lenP_s]; simp only [true_and]⟩
theorem ln_61 {f : Nat → Prop} : lenP 0 (arrAt SH0 61) f = f 10 ∧ lenP 0 (rdAt SH0 61) f = f 10 := ⟨by rw [ar_61.1, lenP_s]; simp only [true_and], by rw [ar_61.2, lenP_s]; simp only [true_and]⟩
theorem ln_62 {f : Nat → Prop} : lenP 0 (arrAt SH0 62) f = f 10 ∧ lenP 0 (rdAt SH0 62) f = f 10 := ⟨by rw [ar_62.1, lenP_s]; simp only [true_and], by rw [ar_62.2, lenP_s]; simp only [true_and]⟩
theorem ln_63 {f : Nat → Prop} : lenP 0 (arrAt SH0 63) f = f 10 ∧ lenP 0 (rdAt SH0 63) f = f 10 := ⟨by rw [ar_63.1, lenP_s]; simp only [true_and], by rw [ar_63.2, lenP_s]; simp only [true_and]⟩
theorem ln_64 {f : Nat → Prop} : lenP 0 (arrAt SH0 64) f = f 1053 ∧ lenP 0 (rdAt SH0 64) f = f 1053 := ⟨by rw [ar_64.1, lenP_s]; simp only [true_and], by rw [ar_64.2, lenP_s]; simp only [true_and]⟩
theorem ln_65 {f : Nat → Prop} : lenP 0 (arrAt SH0 65) f = f 1053 ∧ lenP 0 (rdAt SH0 65) f = f 1053 := ⟨by rw [ar_65.1, lenP_s]; simp only [true_and], by rw [ar_65.2, lenP_s]; simp only [true_and]⟩
theorem ln_66 {f : Nat → Prop} : lenP 0 (arrAt SH0 66) f = f 60 ∧ lenP 0 (rdAt SH0 66) f = f 60 := ⟨by rw [ar_66.1, lenP_s]; simp only [true_and], by rw [ar_66.2, lenP_s]; simp only [true_and]⟩
theorem ln_67 {f : Nat → Prop} : lenP 0 (arrAt SH0 67) f = f 60 ∧ lenP 0 (rdAt SH0 67) f = f 60 := ⟨by rw [ar_67.1, lenP_s]; simp only [true_and], by rw [ar_67.2, lenP_s]; simp only [true_and]⟩
theorem ln_68 {f : Nat → Prop} : lenP 1 (arrAt SH0 68) f = f 60 ∧ lenP 1 (rdAt SH0 68) f = f 60 := ⟨by rw [ar_68.1, lenP_s]; simp only [true_and], by rw [ar_68.2, lenP_s]; simp only [true_and]⟩
theorem ln_69 {f : Nat → Prop} : lenP 0 (arrAt SH0 69) f = f 480 ∧ lenP 0 (rdAt SH0 69) f = f 480 := ⟨by rw [ar_69.1, lenP_s]; simp only [true_and], by rw [ar_69.2, lenP_s]; simp only [true_and]⟩
theorem ln_70 {f : Nat → Prop} : lenP 0 (arrAt SH0 70) f = f 40 ∧ lenP 0 (rdAt SH0 70) f = f 40 := ⟨by rw [ar_70.1, lenP_s]; simp only [true_and], by rw [ar_70.2, lenP_s]; simp only [true_and]⟩
theorem ln_71 {f : Nat → Prop} : lenP 0 (arrAt SH0 71) f = f 40 ∧ lenP 0 (rdAt SH0 71) f = f 40 := ⟨by rw [ar_71.1, lenP_s]; simp only [true_and], by rw [ar_71.2, lenP_s]; simp only [true_and]⟩
theorem ln_72 {f : Nat → Prop} : lenP 0 (arrAt SH0 72) f = f 40 ∧ lenP 0 (rdAt SH0 72) f = f 40 := ⟨by rw [ar_72.1, lenP_s]; simp only [true_and], by rw [ar_72.2, lenP_s]; simp only [true_and]⟩
theorem ln_73 {f : Nat → Prop} : lenP 0 (arrAt SH0 73) f = f 60 ∧ lenP 0 (rdAt SH0 73) f = f 60 := ⟨by rw [ar_73.1, lenP_s]; simp only [true_and], by rw [ar_73.2, lenP_s]; simp only [true_and]⟩
theorem ln_74 {f : Nat → Prop} : lenP 0 (arrAt SH0 74) f = f 4 ∧ lenP 0 (rdAt SH0 74) f = f 4 := ⟨by rw [ar_74.1, lenP_s]; simp only [true_and], by rw [ar_74.2, lenP_s]; simp only [true_and]⟩
theorem ln_75 {f : Nat → Prop} : lenP 0 (arrAt SH0 75) f = f 60 ∧ lenP 0 (rdAt SH0 75) f = f 60 := ⟨by rw [ar_75.1, lenP_s]; simp only [true_and], by rw [ar_75.2, lenP_s]; simp only [true_and]⟩
theorem ln_76 {f : Nat → Prop} : lenP 0 (arrAt SH0 76) f = f 1053 ∧ lenP 0 (rdAt SH0 76) f = f 1053 := ⟨by rw [ar_76.1, lenP_s]; simp only [true_and], by rw [ar_76.2, lenP_s]; simp only [true_and]⟩
theorem ln_77 {f : Nat → Prop} : lenP 2 (arrAt SH0 77) f = f 1 ∧ lenP 2 (rdAt SH0 77) f = f 1 := ⟨by rw [ar_77.1, lenP_s]; simp only [true_and], by rw [ar_77.2, lenP_s]; simp only [true_and]⟩
theorem ln_1001 {f : Nat → Prop} : lenP 0 (rdAt SH0 1001) f = f 9 := by rw [ar_1001, lenP_s]; simp only [true_and]
theorem ln_1002 {f : Nat → Prop} : lenP 0 (rdAt SH0 1002) f = f 9 := by rw [ar_1002, lenP_s]; simp only [true_and]
theorem ln_1003 {f : Nat → Prop} : lenP 0 (rdAt SH0 1003) f = f 9 := by rw [ar_1003, lenP_s]; simp only [true_and]
theorem up_n {h : HP} {k j a b : Nat} {x : Int} (e : a ≠ k) : up h k j x a b = h a b := by rw [up_ne e]
theorem up_s {h : HP} {k j : Nat} {x : Int} : up h k j x k j = x := by simp [up]
theorem up_f {h : HP} {k j b : Nat} {x : Int} (e : b ≠ j) : up h k j x k b = h k b := by simp [up, e]
theorem up_a {h : HP} {k j b : Nat} {x : Int} : up h k j x k b = if b = j then x else h k b := by simp [up]
theorem exP {α : Type} {P : α → Prop} (a : α) (h : P a) : ∃ x, P x := ⟨a, h⟩
theorem trI_use {q : MI} {as : List AV} {sh : SH} {h : HP} {Q : Int → HP → Prop} {K : Int → HP → Prop} (ht : trI q as sh h Q) (k : ∀ r h', Q r h' → K r h') : ∃ Q : Int → HP → Prop, trI q as sh h Q ∧ ∀ r h', Q r h' → K r h' := ⟨Q, ht, k⟩
theorem trV_use {q : MI} {as : List AV} {sh : SH} {h : HP} {Q : HP → Prop} {K : HP → Prop} (ht : trV q as sh h Q) (k : ∀ h', Q h' → K h') : ∃ Q : HP → Prop, trV q as sh h Q ∧ ∀ h', Q h' → K h' := ⟨Q, ht, k⟩
abbrev Z4 : Nat × Nat × Nat × Nat := (0, 0, 0, 0)
theorem go {mi : MI} {sh : SH} {pc : Nat} {L : List (Option AV)} {S : List AV} {h : HP} {P : Option AV → HP → Prop} (cuts : List Nat) (n : Nat) (hfr : 1 ≤ mFr mi := by decide) (hlo : 26 ≤ mLo mi := by decide) (k : wp Z4 mi sh cuts n pc L S h P) : Wn Z4 mi sh pc L S h P := wp_ok ⟨Nat.le_refl _, Nat.le_refl _⟩ hfr hlo n pc L S h k
theorem startI {mi : MI} {sh : SH} {h : HP} {as : List AV} {Q : Int → HP → Prop} (L : List (Option AV)) (hc : Cond.code (mName mi) (mCode mi) (mMaxL mi) (mRet mi) ∈ TBL) (k : Wn Z4 mi sh 0 L [] h (rtI Q)) (hp : plainName (mName mi).cls = true := by rfl) (ho : (mName mi).cls = RN (mOwn mi) := by rfl) (hl : (entL as).length ≤ mMaxL mi := by exact Nat.le_of_ble_eq_true rfl) (hL : entP as (mMaxL mi) = L := by rfl) : trI mi as sh h Q := trI_of hp ho hl (by rw [hL]; exact k) hc
theorem startV {mi : MI} {sh : SH} {h : HP} {as : List AV} {Q : HP → Prop} (L : List (Option AV)) (hc : Cond.code (mName mi) (mCode mi) (mMaxL mi) (mRet mi) ∈ TBL) (k : Wn Z4 mi sh 0 L [] h (rtV Q)) (hp : plainName (mName mi).cls = true := by rfl) (ho : (mName mi).cls = RN (mOwn mi) := by rfl) (hl : (entL as).length ≤ mMaxL mi := by exact Nat.le_of_ble_eq_true rfl) (hL : entP as (mMaxL mi) = L := by rfl) : trV mi as sh h Q := trV_of hp ho hl (by rw [hL]; exact k) hc
theorem mLine_split_c : Cond.code (mName mLine_split) (mCode mLine_split) (mMaxL mLine_split) (mRet mLine_split) ∈ TBL := (callAt_ok ca_0_40).2.1
theorem mHelp_letterOf_c : Cond.code (mName mHelp_letterOf) (mCode mHelp_letterOf) (mMaxL mHelp_letterOf) (mRet mHelp_letterOf) ∈ TBL := (callAt_ok ca_0_47).2.1
theorem mHelp_sameLetters_c : Cond.code (mName mHelp_sameLetters) (mCode mHelp_sameLetters) (mMaxL mHelp_sameLetters) (mRet mHelp_sameLetters) ∈ TBL := (callAt_ok ca_1_28).2.1
theorem mLog_isOfTyped_c : Cond.code (mName mLog_isOfTyped) (mCode mLog_isOfTyped) (mMaxL mLog_isOfTyped) (mRet mLog_isOfTyped) ∈ TBL := (callAt_ok ca_1_32).2.1
theorem mLog_move_c : Cond.code (mName mLog_move) (mCode mLog_move) (mMaxL mLog_move) (mRet mLog_move) ∈ TBL := (callAt_ok ca_1_42).2.1
theorem mNear_findRule_c : Cond.code (mName mNear_findRule) (mCode mNear_findRule) (mMaxL mNear_findRule) (mRet mNear_findRule) ∈ TBL := (callAt_ok ca_3_37).2.1
theorem mNear_countPairs_c : Cond.code (mName mNear_countPairs) (mCode mNear_countPairs) (mMaxL mNear_countPairs) (mRet mNear_countPairs) ∈ TBL := (callAt_ok ca_3_40).2.1
theorem mNear_pairsFrom_c : Cond.code (mName mNear_pairsFrom) (mCode mNear_pairsFrom) (mMaxL mNear_pairsFrom) (mRet mNear_pairsFrom) ∈ TBL := (callAt_ok ca_3_47).2.1
theorem mNear_collectMissing_c : Cond.code (mName mNear_collectMissing) (mCode mNear_collectMissing) (mMaxL mNear_collectMissing) (mRet mNear_collectMissing) ∈ TBL := (callAt_ok ca_3_51).2.1
theorem mRules_tokenAt_c : Cond.code (mName mRules_tokenAt) (mCode mRules_tokenAt) (mMaxL mRules_tokenAt) (mRet mRules_tokenAt) ∈ TBL := (callAt_ok ca_3_74).2.1
theorem mWords_isAs_c : Cond.code (mName mWords_isAs) (mCode mWords_isAs) (mMaxL mWords_isAs) (mRet mWords_isAs) ∈ TBL := (callAt_ok ca_3_77).2.1
theorem mNear_isPair_c : Cond.code (mName mNear_isPair) (mCode mNear_isPair) (mMaxL mNear_isPair) (mRet mNear_isPair) ∈ TBL := (callAt_ok ca_3_88).2.1
theorem mNear_findPartner_c : Cond.code (mName mNear_findPartner) (mCode mNear_findPartner) (mMaxL mNear_findPartner) (mRet mNear_findPartner) ∈ TBL := (callAt_ok ca_3_92).2.1
theorem mWords_isSeen_c : Cond.code (mName mWords_isSeen) (mCode mWords_isSeen) (mMaxL mWords_isSeen) (mRet mWords_isSeen) ∈ TBL := (callAt_ok ca_4_57).2.1
theorem mProp_consider_c : Cond.code (mName mProp_consider) (mCode mProp_consider) (mMaxL mProp_consider) (mRet mProp_consider) ∈ TBL := (callAt_ok ca_4_61).2.1
theorem mTable_nearestName_c : Cond.code (mName mTable_nearestName) (mCode mTable_nearestName) (mMaxL mTable_nearestName) (mRet mTable_nearestName) ∈ TBL := (callAt_ok ca_4_72).2.1
theorem mRead_wouldFit_c : Cond.code (mName mRead_wouldFit) (mCode mRead_wouldFit) (mMaxL mRead_wouldFit) (mRet mRead_wouldFit) ∈ TBL := (callAt_ok ca_4_91).2.1
theorem mProp_insert_c : Cond.code (mName mProp_insert) (mCode mProp_insert) (mMaxL mProp_insert) (mRet mProp_insert) ∈ TBL := (callAt_ok ca_4_94).2.1
theorem mProp_isBefore_c : Cond.code (mName mProp_isBefore) (mCode mProp_isBefore) (mMaxL mProp_isBefore) (mRet mProp_isBefore) ∈ TBL := (callAt_ok ca_4_98).2.1
theorem mRead_collectMeant_c : Cond.code (mName mRead_collectMeant) (mCode mRead_collectMeant) (mMaxL mRead_collectMeant) (mRet mRead_collectMeant) ∈ TBL := (callAt_ok ca_5_50).2.1
theorem mRead_judge_c : Cond.code (mName mRead_judge) (mCode mRead_judge) (mMaxL mRead_judge) (mRet mRead_judge) ∈ TBL := (callAt_ok ca_5_53).2.1
theorem mNames_find_c : Cond.code (mName mNames_find) (mCode mNames_find) (mMaxL mNames_find) (mRet mNames_find) ∈ TBL := (callAt_ok ca_5_68).2.1
theorem mRead_wordOfTyped_c : Cond.code (mName mRead_wordOfTyped) (mCode mRead_wordOfTyped) (mMaxL mRead_wordOfTyped) (mRet mRead_wordOfTyped) ∈ TBL := (callAt_ok ca_5_80).2.1
theorem mWords_isOf_c : Cond.code (mName mWords_isOf) (mCode mWords_isOf) (mMaxL mWords_isOf) (mRet mWords_isOf) ∈ TBL := (callAt_ok ca_5_84).2.1
theorem mRead_findUnknown_c : Cond.code (mName mRead_findUnknown) (mCode mRead_findUnknown) (mMaxL mRead_findUnknown) (mRet mRead_findUnknown) ∈ TBL := (callAt_ok ca_5_90).2.1
theorem mRead_findHidden_c : Cond.code (mName mRead_findHidden) (mCode mRead_findHidden) (mMaxL mRead_findHidden) (mRet mRead_findHidden) ∈ TBL := (callAt_ok ca_5_93).2.1
theorem mRead_findFitting_c : Cond.code (mName mRead_findFitting) (mCode mRead_findFitting) (mMaxL mRead_findFitting) (mRet mRead_findFitting) ∈ TBL := (callAt_ok ca_5_96).2.1
theorem mRead_beginsAs_c : Cond.code (mName mRead_beginsAs) (mCode mRead_beginsAs) (mMaxL mRead_beginsAs) (mRet mRead_beginsAs) ∈ TBL := (callAt_ok ca_5_107).2.1
theorem mRules_hasVerb_c : Cond.code (mName mRules_hasVerb) (mCode mRules_hasVerb) (mMaxL mRules_hasVerb) (mRet mRules_hasVerb) ∈ TBL := (callAt_ok ca_5_127).2.1
theorem mTable_fill_c : Cond.code (mName mTable_fill) (mCode mTable_fill) (mMaxL mTable_fill) (mRet mTable_fill) ∈ TBL := (callAt_ok ca_8_41).2.1
theorem mTable_leastCost_c : Cond.code (mName mTable_leastCost) (mCode mTable_leastCost) (mMaxL mTable_leastCost) (mRet mTable_leastCost) ∈ TBL := (callAt_ok ca_8_62).2.1
theorem mTable_cost_c : Cond.code (mName mTable_cost) (mCode mTable_cost) (mMaxL mTable_cost) (mRet mTable_cost) ∈ TBL := (callAt_ok ca_8_66).2.1
theorem mSett_costOfChange_c : Cond.code (mName mSett_costOfChange) (mCode mSett_costOfChange) (mMaxL mSett_costOfChange) (mRet mSett_costOfChange) ∈ TBL := (callAt_ok ca_8_71).2.1
theorem mHelp_spell_c : Cond.code (mName mHelp_spell) (mCode mHelp_spell) (mMaxL mHelp_spell) (mRet mHelp_spell) ∈ TBL := (callAt_ok ca_10_98).2.1
theorem mWords_add_c : Cond.code (mName mWords_add) (mCode mWords_add) (mMaxL mWords_add) (mRet mWords_add) ∈ TBL := (callAt_ok ca_10_110).2.1
theorem mNames_add_c : Cond.code (mName mNames_add) (mCode mNames_add) (mMaxL mNames_add) (mRet mNames_add) ∈ TBL := (callAt_ok ca_10_114).2.1
theorem mRules_add_c : Cond.code (mName mRules_add) (mCode mRules_add) (mMaxL mRules_add) (mRet mRules_add) ∈ TBL := (callAt_ok ca_10_132).2.1
theorem mRules_addToken_c : Cond.code (mName mRules_addToken) (mCode mRules_addToken) (mMaxL mRules_addToken) (mRet mRules_addToken) ∈ TBL := (callAt_ok ca_10_136).2.1
theorem mSett_makeNear_c : Cond.code (mName mSett_makeNear) (mCode mSett_makeNear) (mMaxL mSett_makeNear) (mRet mSett_makeNear) ∈ TBL := (callAt_ok ca_10_152).2.1
theorem mHelp_countRuns_c : Cond.code (mName mHelp_countRuns) (mCode mHelp_countRuns) (mMaxL mHelp_countRuns) (mRet mHelp_countRuns) ∈ TBL := (callAt_ok ca_10_155).2.1
theorem mLine_become_c : Cond.code (mName mLine_become) (mCode mLine_become) (mMaxL mLine_become) (mRet mLine_become) ∈ TBL := (callAt_ok ca_10_159).2.1
theorem mRead_update_c : Cond.code (mName mRead_update) (mCode mRead_update) (mMaxL mRead_update) (mRet mRead_update) ∈ TBL := (callAt_ok ca_10_177).2.1
theorem mProp_update_c : Cond.code (mName mProp_update) (mCode mProp_update) (mMaxL mProp_update) (mRet mProp_update) ∈ TBL := (callAt_ok ca_10_190).2.1
theorem mNear_update_c : Cond.code (mName mNear_update) (mCode mNear_update) (mMaxL mNear_update) (mRet mNear_update) ∈ TBL := (callAt_ok ca_10_192).2.1
theorem mHelp_countHints_c : Cond.code (mName mHelp_countHints) (mCode mHelp_countHints) (mMaxL mHelp_countHints) (mRet mHelp_countHints) ∈ TBL := (callAt_ok ca_10_200).2.1
theorem mHelp_mayFixUnasked_c : Cond.code (mName mHelp_mayFixUnasked) (mCode mHelp_mayFixUnasked) (mMaxL mHelp_mayFixUnasked) (mRet mHelp_mayFixUnasked) ∈ TBL := (callAt_ok ca_10_216).2.1
theorem mHelp_accept_c : Cond.code (mName mHelp_accept) (mCode mHelp_accept) (mMaxL mHelp_accept) (mRet mHelp_accept) ∈ TBL := (callAt_ok ca_10_220).2.1
theorem mRead_couldComeNext_c : Cond.code (mName mRead_couldComeNext) (mCode mRead_couldComeNext) (mMaxL mRead_couldComeNext) (mRet mRead_couldComeNext) ∈ TBL := (callAt_ok ca_10_227).2.1
theorem mHelp_takes_c : Cond.code (mName mHelp_takes) (mCode mHelp_takes) (mMaxL mHelp_takes) (mRet mHelp_takes) ∈ TBL := (callAt_ok ca_10_230).2.1
theorem mLog_countForward_c : Cond.code (mName mLog_countForward) (mCode mLog_countForward) (mMaxL mLog_countForward) (mRet mLog_countForward) ∈ TBL := (callAt_ok ca_10_256).2.1
theorem mLog_findForward_c : Cond.code (mName mLog_findForward) (mCode mLog_findForward) (mMaxL mLog_findForward) (mRet mLog_findForward) ∈ TBL := (callAt_ok ca_10_259).2.1
theorem mLog_forget_c : Cond.code (mName mLog_forget) (mCode mLog_forget) (mMaxL mLog_forget) (mRet mLog_forget) ∈ TBL := (callAt_ok ca_10_273).2.1
theorem mNames_countOf_c : Cond.code (mName mNames_countOf) (mCode mNames_countOf) (mMaxL mNames_countOf) (mRet mNames_countOf) ∈ TBL := (callAt_ok ca_10_277).2.1
theorem mRead_verbWith_c : Cond.code (mName mRead_verbWith) (mCode mRead_verbWith) (mMaxL mRead_verbWith) (mRet mRead_verbWith) ∈ TBL := (callAt_ok ca_10_284).2.1
theorem mLog_add_c : Cond.code (mName mLog_add) (mCode mLog_add) (mMaxL mLog_add) (mRet mLog_add) ∈ TBL := (callAt_ok ca_10_288).2.1
theorem mNames_firstOf_c : Cond.code (mName mNames_firstOf) (mCode mNames_firstOf) (mMaxL mNames_firstOf) (mRet mNames_firstOf) ∈ TBL := (callAt_ok ca_10_291).2.1
theorem mLine_replace_c : Cond.code (mName mLine_replace) (mCode mLine_replace) (mMaxL mLine_replace) (mRet mLine_replace) ∈ TBL := (callAt_ok ca_10_294).2.1
theorem mModel_in_c : Cond.code (mName mModel_in) (mCode mModel_in) (mMaxL mModel_in) (mRet mModel_in) ∈ TBL := (callAt_ok ca_11_120).2.1
theorem mModel_small_c : Cond.code (mName mModel_small) (mCode mModel_small) (mMaxL mModel_small) (mRet mModel_small) ∈ TBL := (callAt_ok ca_11_127).2.1
theorem mModel_named_c : Cond.code (mName mModel_named) (mCode mModel_named) (mMaxL mModel_named) (mRet mModel_named) ∈ TBL := (callAt_ok ca_11_136).2.1
theorem mModel_name_c : Cond.code (mName mModel_name) (mCode mModel_name) (mMaxL mModel_name) (mRet mModel_name) ∈ TBL := (callAt_ok ca_11_143).2.1
theorem mModel_is_c : Cond.code (mName mModel_is) (mCode mModel_is) (mMaxL mModel_is) (mRet mModel_is) ∈ TBL := (callAt_ok ca_11_147).2.1
theorem mModel_isLetter_c : Cond.code (mName mModel_isLetter) (mCode mModel_isLetter) (mMaxL mModel_isLetter) (mRet mModel_isLetter) ∈ TBL := (callAt_ok ca_11_154).2.1
theorem mModel_runsOf_c : Cond.code (mName mModel_runsOf) (mCode mModel_runsOf) (mMaxL mModel_runsOf) (mRet mModel_runsOf) ∈ TBL := (callAt_ok ca_11_164).2.1
theorem mModel_part_c : Cond.code (mName mModel_part) (mCode mModel_part) (mMaxL mModel_part) (mRet mModel_part) ∈ TBL := (callAt_ok ca_11_168).2.1
theorem mModel_inScope_c : Cond.code (mName mModel_inScope) (mCode mModel_inScope) (mMaxL mModel_inScope) (mRet mModel_inScope) ∈ TBL := (callAt_ok ca_11_174).2.1
theorem mModel_isAs_c : Cond.code (mName mModel_isAs) (mCode mModel_isAs) (mMaxL mModel_isAs) (mRet mModel_isAs) ∈ TBL := (callAt_ok ca_11_177).2.1
theorem mModel_fitting_c : Cond.code (mName mModel_fitting) (mCode mModel_fitting) (mMaxL mModel_fitting) (mRet mModel_fitting) ∈ TBL := (callAt_ok ca_11_186).2.1
theorem mModel_judge_c : Cond.code (mName mModel_judge) (mCode mModel_judge) (mMaxL mModel_judge) (mRet mModel_judge) ∈ TBL := (callAt_ok ca_11_190).2.1
theorem mModel_least_c : Cond.code (mName mModel_least) (mCode mModel_least) (mMaxL mModel_least) (mRet mModel_least) ∈ TBL := (callAt_ok ca_11_193).2.1
theorem mModel_change_c : Cond.code (mName mModel_change) (mCode mModel_change) (mMaxL mModel_change) (mRet mModel_change) ∈ TBL := (callAt_ok ca_11_198).2.1
theorem mModel_reckon_c : Cond.code (mName mModel_reckon) (mCode mModel_reckon) (mMaxL mModel_reckon) (mRet mModel_reckon) ∈ TBL := (callAt_ok ca_11_204).2.1
theorem mModel_nearest_c : Cond.code (mName mModel_nearest) (mCode mModel_nearest) (mMaxL mModel_nearest) (mRet mModel_nearest) ∈ TBL := (callAt_ok ca_11_214).2.1
theorem mModel_wouldFit_c : Cond.code (mName mModel_wouldFit) (mCode mModel_wouldFit) (mMaxL mModel_wouldFit) (mRet mModel_wouldFit) ∈ TBL := (callAt_ok ca_11_217).2.1
theorem mModel_propose_c : Cond.code (mName mModel_propose) (mCode mModel_propose) (mMaxL mModel_propose) (mRet mModel_propose) ∈ TBL := (callAt_ok ca_11_220).2.1
theorem mModel_isLogged_c : Cond.code (mName mModel_isLogged) (mCode mModel_isLogged) (mMaxL mModel_isLogged) (mRet mModel_isLogged) ∈ TBL := (callAt_ok ca_11_226).2.1
theorem mModel_log_c : Cond.code (mName mModel_log) (mCode mModel_log) (mMaxL mModel_log) (mRet mModel_log) ∈ TBL := (callAt_ok ca_11_229).2.1
theorem mModel_becomes_c : Cond.code (mName mModel_becomes) (mCode mModel_becomes) (mMaxL mModel_becomes) (mRet mModel_becomes) ∈ TBL := (callAt_ok ca_11_232).2.1
theorem mModel_pairs_c : Cond.code (mName mModel_pairs) (mCode mModel_pairs) (mMaxL mModel_pairs) (mRet mModel_pairs) ∈ TBL := (callAt_ok ca_11_245).2.1
theorem mModel_mayCome_c : Cond.code (mName mModel_mayCome) (mCode mModel_mayCome) (mMaxL mModel_mayCome) (mRet mModel_mayCome) ∈ TBL := (callAt_ok ca_11_251).2.1
theorem mModel_hints_c : Cond.code (mName mModel_hints) (mCode mModel_hints) (mMaxL mModel_hints) (mRet mModel_hints) ∈ TBL := (callAt_ok ca_11_254).2.1
theorem mModel_compare_c : Cond.code (mName mModel_compare) (mCode mModel_compare) (mMaxL mModel_compare) (mRet mModel_compare) ∈ TBL := (callAt_ok ca_11_257).2.1
theorem mModel_put_c : Cond.code (mName mModel_put) (mCode mModel_put) (mMaxL mModel_put) (mRet mModel_put) ∈ TBL := (callAt_ok ca_11_263).2.1
theorem mHelp_cell_c : Cond.code (mName mHelp_cell) (mCode mHelp_cell) (mMaxL mHelp_cell) (mRet mHelp_cell) ∈ TBL := (callAt_ok ca_12_7).2.1
theorem mHelp_feed_c : Cond.code (mName mHelp_feed) (mCode mHelp_feed) (mMaxL mHelp_feed) (mRet mHelp_feed) ∈ TBL := (callAt_ok ca_12_21).2.1
theorem mModel_feed_c : Cond.code (mName mModel_feed) (mCode mModel_feed) (mMaxL mModel_feed) (mRet mModel_feed) ∈ TBL := (callAt_ok ca_12_25).2.1
theorem mHelp_word_c : Cond.code (mName mHelp_word) (mCode mHelp_word) (mMaxL mHelp_word) (mRet mHelp_word) ∈ TBL := (callAt_ok ca_12_26).2.1
theorem mModel_word_c : Cond.code (mName mModel_word) (mCode mModel_word) (mMaxL mModel_word) (mRet mModel_word) ∈ TBL := (callAt_ok ca_12_30).2.1
theorem mHelp_scope_c : Cond.code (mName mHelp_scope) (mCode mHelp_scope) (mMaxL mHelp_scope) (mRet mHelp_scope) ∈ TBL := (callAt_ok ca_12_31).2.1
theorem mModel_scope_c : Cond.code (mName mModel_scope) (mCode mModel_scope) (mMaxL mModel_scope) (mRet mModel_scope) ∈ TBL := (callAt_ok ca_12_35).2.1
theorem mHelp_classes_c : Cond.code (mName mHelp_classes) (mCode mHelp_classes) (mMaxL mHelp_classes) (mRet mHelp_classes) ∈ TBL := (callAt_ok ca_12_36).2.1
theorem mModel_classes_c : Cond.code (mName mModel_classes) (mCode mModel_classes) (mMaxL mModel_classes) (mRet mModel_classes) ∈ TBL := (callAt_ok ca_12_39).2.1
theorem mHelp_danger_c : Cond.code (mName mHelp_danger) (mCode mHelp_danger) (mMaxL mHelp_danger) (mRet mHelp_danger) ∈ TBL := (callAt_ok ca_12_40).2.1
theorem mModel_danger_c : Cond.code (mName mModel_danger) (mCode mModel_danger) (mMaxL mModel_danger) (mRet mModel_danger) ∈ TBL := (callAt_ok ca_12_43).2.1
theorem mHelp_rule_c : Cond.code (mName mHelp_rule) (mCode mHelp_rule) (mMaxL mHelp_rule) (mRet mHelp_rule) ∈ TBL := (callAt_ok ca_12_44).2.1
theorem mModel_rule_c : Cond.code (mName mModel_rule) (mCode mModel_rule) (mMaxL mModel_rule) (mRet mModel_rule) ∈ TBL := (callAt_ok ca_12_47).2.1
theorem mHelp_token_c : Cond.code (mName mHelp_token) (mCode mHelp_token) (mMaxL mHelp_token) (mRet mHelp_token) ∈ TBL := (callAt_ok ca_12_48).2.1
theorem mModel_token_c : Cond.code (mName mModel_token) (mCode mModel_token) (mMaxL mModel_token) (mRet mModel_token) ∈ TBL := (callAt_ok ca_12_51).2.1
theorem mHelp_setting_c : Cond.code (mName mHelp_setting) (mCode mHelp_setting) (mMaxL mHelp_setting) (mRet mHelp_setting) ∈ TBL := (callAt_ok ca_12_52).2.1
theorem mModel_setting_c : Cond.code (mName mModel_setting) (mCode mModel_setting) (mMaxL mModel_setting) (mRet mModel_setting) ∈ TBL := (callAt_ok ca_12_55).2.1
theorem mHelp_near_c : Cond.code (mName mHelp_near) (mCode mHelp_near) (mMaxL mHelp_near) (mRet mHelp_near) ∈ TBL := (callAt_ok ca_12_56).2.1
theorem mModel_near_c : Cond.code (mName mModel_near) (mCode mModel_near) (mMaxL mModel_near) (mRet mModel_near) ∈ TBL := (callAt_ok ca_12_59).2.1
theorem mHelp_line_c : Cond.code (mName mHelp_line) (mCode mHelp_line) (mMaxL mHelp_line) (mRet mHelp_line) ∈ TBL := (callAt_ok ca_12_60).2.1
theorem mModel_line_c : Cond.code (mName mModel_line) (mCode mModel_line) (mMaxL mModel_line) (mRet mModel_line) ∈ TBL := (callAt_ok ca_12_64).2.1
theorem mHelp_at_c : Cond.code (mName mHelp_at) (mCode mHelp_at) (mMaxL mHelp_at) (mRet mHelp_at) ∈ TBL := (callAt_ok ca_12_65).2.1
theorem mModel_at_c : Cond.code (mName mModel_at) (mCode mModel_at) (mMaxL mModel_at) (mRet mModel_at) ∈ TBL := (callAt_ok ca_12_68).2.1
theorem mHelp_typed_c : Cond.code (mName mHelp_typed) (mCode mHelp_typed) (mMaxL mHelp_typed) (mRet mHelp_typed) ∈ TBL := (callAt_ok ca_12_69).2.1
theorem mModel_typed_c : Cond.code (mName mModel_typed) (mCode mModel_typed) (mMaxL mModel_typed) (mRet mModel_typed) ∈ TBL := (callAt_ok ca_12_72).2.1
theorem mHelp_look_c : Cond.code (mName mHelp_look) (mCode mHelp_look) (mMaxL mHelp_look) (mRet mHelp_look) ∈ TBL := (callAt_ok ca_12_73).2.1
theorem mModel_look_c : Cond.code (mName mModel_look) (mCode mModel_look) (mMaxL mModel_look) (mRet mModel_look) ∈ TBL := (callAt_ok ca_12_76).2.1
theorem mHelp_told_c : Cond.code (mName mHelp_told) (mCode mHelp_told) (mMaxL mHelp_told) (mRet mHelp_told) ∈ TBL := (callAt_ok ca_12_77).2.1
theorem mModel_told_c : Cond.code (mName mModel_told) (mCode mModel_told) (mMaxL mModel_told) (mRet mModel_told) ∈ TBL := (callAt_ok ca_12_80).2.1
theorem mHelp_proposal_c : Cond.code (mName mHelp_proposal) (mCode mHelp_proposal) (mMaxL mHelp_proposal) (mRet mHelp_proposal) ∈ TBL := (callAt_ok ca_12_81).2.1
theorem mModel_proposal_c : Cond.code (mName mModel_proposal) (mCode mModel_proposal) (mMaxL mModel_proposal) (mRet mModel_proposal) ∈ TBL := (callAt_ok ca_12_84).2.1
theorem mHelp_fix_c : Cond.code (mName mHelp_fix) (mCode mHelp_fix) (mMaxL mHelp_fix) (mRet mHelp_fix) ∈ TBL := (callAt_ok ca_12_85).2.1
theorem mModel_fix_c : Cond.code (mName mModel_fix) (mCode mModel_fix) (mMaxL mModel_fix) (mRet mModel_fix) ∈ TBL := (callAt_ok ca_12_88).2.1
theorem mHelp_choose_c : Cond.code (mName mHelp_choose) (mCode mHelp_choose) (mMaxL mHelp_choose) (mRet mHelp_choose) ∈ TBL := (callAt_ok ca_12_89).2.1
theorem mModel_choose_c : Cond.code (mName mModel_choose) (mCode mModel_choose) (mMaxL mModel_choose) (mRet mModel_choose) ∈ TBL := (callAt_ok ca_12_92).2.1
theorem mHelp_missing_c : Cond.code (mName mHelp_missing) (mCode mHelp_missing) (mMaxL mHelp_missing) (mRet mHelp_missing) ∈ TBL := (callAt_ok ca_12_93).2.1
theorem mModel_missing_c : Cond.code (mName mModel_missing) (mCode mModel_missing) (mMaxL mModel_missing) (mRet mModel_missing) ∈ TBL := (callAt_ok ca_12_96).2.1
theorem mHelp_hint_c : Cond.code (mName mHelp_hint) (mCode mHelp_hint) (mMaxL mHelp_hint) (mRet mHelp_hint) ∈ TBL := (callAt_ok ca_12_97).2.1
theorem mModel_hint_c : Cond.code (mName mModel_hint) (mCode mModel_hint) (mMaxL mModel_hint) (mRet mModel_hint) ∈ TBL := (callAt_ok ca_12_100).2.1
theorem mHelp_verbs_c : Cond.code (mName mHelp_verbs) (mCode mHelp_verbs) (mMaxL mHelp_verbs) (mRet mHelp_verbs) ∈ TBL := (callAt_ok ca_12_101).2.1
theorem mModel_verbs_c : Cond.code (mName mModel_verbs) (mCode mModel_verbs) (mMaxL mModel_verbs) (mRet mModel_verbs) ∈ TBL := (callAt_ok ca_12_104).2.1
theorem mHelp_edits_c : Cond.code (mName mHelp_edits) (mCode mHelp_edits) (mMaxL mHelp_edits) (mRet mHelp_edits) ∈ TBL := (callAt_ok ca_12_105).2.1
theorem mModel_edits_c : Cond.code (mName mModel_edits) (mCode mModel_edits) (mMaxL mModel_edits) (mRet mModel_edits) ∈ TBL := (callAt_ok ca_12_108).2.1
theorem mModel_cell_c : Cond.code (mName mModel_cell) (mCode mModel_cell) (mMaxL mModel_cell) (mRet mModel_cell) ∈ TBL := (callAt_ok ca_12_114).2.1
theorem mModel_thrown_c : Cond.code (mName mModel_thrown) (mCode mModel_thrown) (mMaxL mModel_thrown) (mRet mModel_thrown) ∈ TBL := (callAt_ok ca_12_115).2.1
theorem mHelp_forward_c : Cond.code (mName mHelp_forward) (mCode mHelp_forward) (mMaxL mHelp_forward) (mRet mHelp_forward) ∈ TBL := (callAt_ok ca_12_118).2.1
theorem mModel_forward_c : Cond.code (mName mModel_forward) (mCode mModel_forward) (mMaxL mModel_forward) (mRet mModel_forward) ∈ TBL := (callAt_ok ca_12_121).2.1
theorem mHelp_pair_c : Cond.code (mName mHelp_pair) (mCode mHelp_pair) (mMaxL mHelp_pair) (mRet mHelp_pair) ∈ TBL := (callAt_ok ca_12_122).2.1
theorem mModel_pair_c : Cond.code (mName mModel_pair) (mCode mModel_pair) (mMaxL mModel_pair) (mRet mModel_pair) ∈ TBL := (callAt_ok ca_12_125).2.1
theorem mHelp_learn_c : Cond.code (mName mHelp_learn) (mCode mHelp_learn) (mMaxL mHelp_learn) (mRet mHelp_learn) ∈ TBL := (callAt_ok ca_12_126).2.1
theorem mModel_learn_c : Cond.code (mName mModel_learn) (mCode mModel_learn) (mMaxL mModel_learn) (mRet mModel_learn) ∈ TBL := (callAt_ok ca_12_129).2.1
theorem mHelp_count_c : Cond.code (mName mHelp_count) (mCode mHelp_count) (mMaxL mHelp_count) (mRet mHelp_count) ∈ TBL := (callAt_ok ca_12_130).2.1
theorem mModel_count_c : Cond.code (mName mModel_count) (mCode mModel_count) (mMaxL mModel_count) (mRet mModel_count) ∈ TBL := (callAt_ok ca_12_133).2.1
