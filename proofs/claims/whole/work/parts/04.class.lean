/-! THE SMALL MACHINE: values are whole numbers (in the range of int), longs, and places of cells in a shape; what a shape's cells hold is a function -/
abbrev AV : Type := Int ⊕ (Int64 ⊕ Nat)
abbrev HP : Type := Nat → Nat → Int
abbrev SC : Type := (Nat × Nat) ⊕ (Nat × List (Option (Option Nat)))
abbrev SH : Type := List SC
abbrev MI : Type := Nat × MethodName × ByteArray × Nat × Option FieldType × Nat × Nat
def mOwn (q : MI) : Nat := q.1
def mName (q : MI) : MethodName := q.2.1
def mCode (q : MI) : ByteArray := q.2.2.1
def mMaxL (q : MI) : Nat := q.2.2.2.1
def mRet (q : MI) : Option FieldType := q.2.2.2.2.1
def mFr (q : MI) : Nat := q.2.2.2.2.2.1
def mLo (q : MI) : Nat := q.2.2.2.2.2.2
def inR (x : Int) : Prop := -2147483648 ≤ x ∧ x ≤ 2147483647
def wr (x : Int) : Int := Int.bmod x 4294967296
theorem wr_in (x : Int) : inR (wr x) := by
  have h1 := @Int.le_bmod x 4294967296 (by decide)
  have h2 := @Int.bmod_lt x 4294967296 (by decide)
  unfold inR wr
  constructor <;> omega
theorem wr_id {x : Int} (h1 : -2147483648 ≤ x) (h2 : x ≤ 2147483647) : wr x = x := by
  unfold wr
  rw [Int.bmod_def]
  split <;> omega
theorem ofI_wr (x : Int) : Int32.ofInt (wr x) = Int32.ofInt x := by
  rw [← Int32.toInt_inj]
  simp only [Int32.toInt_ofInt, wr]
  exact Int.bmod_bmod
theorem ofI_t {x : Int} (h : inR x) : (Int32.ofInt x).toInt = x := Int32.toInt_ofInt_of_le (by have := h.1; omega) (by have := h.2; omega)
theorem inR_t (x : Int32) : inR x.toInt := by
  have h1 := x.le_toInt
  have h2 := x.toInt_lt
  unfold inR
  constructor <;> omega
theorem ofI_lt {x y : Int} (hx : inR x) (hy : inR y) : Int32.ofInt x < Int32.ofInt y ↔ x < y := by rw [Int32.lt_iff_toInt_lt, ofI_t hx, ofI_t hy]
theorem ofI_le {x y : Int} (hx : inR x) (hy : inR y) : Int32.ofInt x ≤ Int32.ofInt y ↔ x ≤ y := by rw [Int32.le_iff_toInt_le, ofI_t hx, ofI_t hy]
theorem ofI_eq {x y : Int} (hx : inR x) (hy : inR y) : Int32.ofInt x = Int32.ofInt y ↔ x = y := by rw [← Int32.toInt_inj, ofI_t hx, ofI_t hy]
theorem ofI_cl {x : Int} (h : inR x) : (Int32.ofInt x).toNatClampNeg = x.toNat := Int32.toNatClampNeg_ofInt_of_le (by have := h.1; omega) (by have := h.2; omega)
theorem ofI_vp {x : Int} (h : inR x) {n : Nat} (h0 : 0 ≤ x) (h1 : x < n) : vp_in (Int32.ofInt x) n := by
  rw [vp_in_iff, ofI_t h]
  exact ⟨h0, h1⟩
def cv (ad : Nat → Nat) (v : AV) : Value := match v with
  | .inl x => .int (Int32.ofInt x)
  | .inr (.inl w) => .long w
  | .inr (.inr k) => .ref (ad k)
def okV (n : Nat) (v : AV) : Prop := match v with
  | .inl x => inR x
  | .inr (.inl _) => True
  | .inr (.inr k) => k < n ∨ 1000 ≤ k
def okH (h : HP) : Prop := ∀ k j, inR (h k j)
def up (h : HP) (k j : Nat) (x : Int) : HP := fun a b => if a = k ∧ b = j then x else h a b
theorem okH_up {h : HP} (hh : okH h) (k j : Nat) {x : Int} (hx : inR x) : okH (up h k j x) := by
  intro a b
  unfold up
  split
  · exact hx
  · exact hh a b
theorem cv_cat1 (ad : Nat → Nat) (x : Int) : (cv ad (.inl x)).category = 1 := rfl
theorem cv_agree {ad ad' : Nat → Nat} {n : Nat} (ha : ∀ k, k < n ∨ 1000 ≤ k → ad' k = ad k) {v : AV} (hv : okV n v) : cv ad' v = cv ad v := by
  obtain x | w | k := v
  · rfl
  · rfl
  · show Value.ref (ad' k) = Value.ref (ad k)
    rw [ha k hv]
theorem okV_mono {n n' : Nat} (h : n ≤ n') {v : AV} (hv : okV n v) : okV n' v := by
  obtain x | w | k := v
  · exact hv
  · exact hv
  · rcases (show k < n ∨ 1000 ≤ k from hv) with q | q
    · exact Or.inl (by omega)
    · exact Or.inr q
-- classes
def RN (k : Nat) : String := match k with
  | 0 => RX0 | 1 => RX1 | 2 => RX2 | 3 => RX3 | 4 => RX4 | 5 => RX5 | 6 => RX6 | 7 => RX7 | 8 => RX8 | 9 => RX9 | 10 => RX10 | 11 => RX11 | _ => RL
def TN (k : Nat) : u_T := match k with
  | 0 => TX0 | 1 => TX1 | 2 => TX2 | 3 => TX3 | 4 => TX4 | 5 => TX5 | 6 => TX6 | 7 => TX7 | 8 => TX8 | 9 => TX9 | 10 => TX10 | _ => TX11
def NN (k : Nat) : Nat := match k with
  | 0 => 7 | 1 => 5 | 2 => 4 | 3 => 6 | 4 => 6 | 5 => 11 | 6 => 4 | 7 => 2 | 8 => 6 | 9 => 5 | 10 => 13 | _ => 54
def tyN (k : Nat) : Nat → FieldType := match k with
  | 0 => tyX0 | 1 => tyX1 | 2 => tyX2 | 3 => tyX3 | 4 => tyX4 | 5 => tyX5 | 6 => tyX6 | 7 => tyX7 | 8 => tyX8 | 9 => tyX9 | 10 => tyX10 | _ => tyX11
abbrev CL : List vw_C := [(RX0, TX0, 7), (RX1, TX1, 5), (RX2, TX2, 4), (RX3, TX3, 6), (RX4, TX4, 6), (RX5, TX5, 11), (RX6, TX6, 4), (RX7, TX7, 2), (RX8, TX8, 6), (RX9, TX9, 5), (RX10, TX10, 13), (RX11, TX11, 54)]
theorem CL_at {ci : Nat} (h : ci < 12) : CL[ci]? = some (RN ci, TN ci, NN ci) := by
  match ci, h with
  | 0, _ => rfl
  | 1, _ => rfl
  | 2, _ => rfl
  | 3, _ => rfl
  | 4, _ => rfl
  | 5, _ => rfl
  | 6, _ => rfl
  | 7, _ => rfl
  | 8, _ => rfl
  | 9, _ => rfl
  | 10, _ => rfl
  | 11, _ => rfl
theorem nmN {ci : Nat} (h : ci < 12) : ∀ a, a < NN ci → ∀ b, b < NN ci → a ≠ b → (TN ci a).2.1 ≠ (TN ci b).2.1 := by
  match ci, h with
  | 0, _ => exact nmX0
  | 1, _ => exact nmX1
  | 2, _ => exact nmX2
  | 3, _ => exact nmX3
  | 4, _ => exact nmX4
  | 5, _ => exact nmX5
  | 6, _ => exact nmX6
  | 7, _ => exact nmX7
  | 8, _ => exact nmX8
  | 9, _ => exact nmX9
  | 10, _ => exact nmX10
  | 11, _ => exact nmX11
theorem tyN_ok {ci : Nat} (h : ci < 12) : ∀ k, k < NN ci → parseFieldDescriptor (TN ci k).2.2.1 = some (tyN ci k) := by
  match ci, h with
  | 0, _ => exact tyX0_ok
  | 1, _ => exact tyX1_ok
  | 2, _ => exact tyX2_ok
  | 3, _ => exact tyX3_ok
  | 4, _ => exact tyX4_ok
  | 5, _ => exact tyX5_ok
  | 6, _ => exact tyX6_ok
  | 7, _ => exact tyX7_ok
  | 8, _ => exact tyX8_ok
  | 9, _ => exact tyX9_ok
  | 10, _ => exact tyX10_ok
  | 11, _ => exact tyX11_ok
-- the tables' words that every method may use
def TBL : List Cond := lw_tbl.filter goodWord
theorem mem_TBL {w : Cond} (h : w ∈ lw_tbl) (g : goodWord w = true) : w ∈ TBL := List.mem_filter.mpr ⟨h, g⟩
theorem TBL_in {w : Cond} (h : w ∈ TBL) : w ∈ lw_tbl := (List.mem_filter.mp h).1
theorem TBL_good {w : Cond} (h : w ∈ TBL) : goodWord w = true := (List.mem_filter.mp h).2
theorem GoodIn_TBL {ws : List Cond} (h : ∀ w ∈ ws, w ∈ TBL) : GoodIn TBL ws := fun w hw => ⟨h w hw, good_of_word (TBL_good (h w hw))⟩
theorem inN {ci : Nat} (h : ci < 12) : ∀ w ∈ u_ws (RN ci) (TN ci) (NN ci), w ∈ TBL := by
  match ci, h with
  | 0, _ => decide +kernel
  | 1, _ => decide +kernel
  | 2, _ => decide +kernel
  | 3, _ => decide +kernel
  | 4, _ => decide +kernel
  | 5, _ => decide +kernel
  | 6, _ => decide +kernel
  | 7, _ => decide +kernel
  | 8, _ => decide +kernel
  | 9, _ => decide +kernel
  | 10, _ => decide +kernel
  | 11, _ => decide +kernel
def NWL : List Cond := [.methodLinkNest RX0 47 yX10_letterOf RX10, .methodLinkNest RX1 28 yX10_sameLetters RX10, .methodLinkNest RX2 25 yX10_sameLetters RX10, .fieldLinkNest RX7 9 RX10 "SETTING_FIRST" "[I" RX10]
