/-! whole numbers as ints and longs: all values are 'zI z', 'zL z' of an Int; the rows keep that form -/
def zI (z : Int) : Int32 := Int32.ofInt z
def zL (z : Int) : Int64 := Int64.ofInt z
theorem zI_add (x y : Int) : zI x + zI y = zI (x + y) := (Int32.ofInt_add x y).symm
theorem zI_sub (x y : Int) : zI x - zI y = zI (x - y) := (Int32.ofInt_sub x y).symm
theorem zI_mul (x y : Int) : zI x * zI y = zI (x * y) := (Int32.ofInt_mul x y).symm
theorem zI_neg (x : Int) : - zI x = zI (-x) := (Int32.ofInt_neg x).symm
theorem zL_add (x y : Int) : zL x + zL y = zL (x + y) := (Int64.ofInt_add x y).symm
theorem zL_mul (x y : Int) : zL x * zL y = zL (x * y) := (Int64.ofInt_mul x y).symm
theorem zL_sub (x y : Int) : zL x - zL y = zL (x - y) := (Int64.ofInt_sub x y).symm
theorem zI_int {z : Int} (h : -2147483648 ≤ z ∧ z < 2147483648) : (zI z).toInt = z := Int32.toInt_ofInt_of_le h.1 h.2
theorem zL_int {z : Int} (h : -9223372036854775808 ≤ z ∧ z < 9223372036854775808) : (zL z).toInt = z := Int64.toInt_ofInt_of_le h.1 h.2
theorem zI_of (x : Int32) : zI x.toInt = x := Int32.ofInt_toInt x
theorem zL_of (x : Int64) : zL x.toInt = x := Int64.ofInt_toInt x
theorem zI_rg (x : Int32) : -2147483648 ≤ x.toInt ∧ x.toInt < 2147483648 := ⟨Int32.le_toInt x, Int32.toInt_lt x⟩
theorem zI_nat (n : Nat) : Int32.ofNat n = zI n := by
  show Int32.ofNat n = Int32.ofInt (n : Int)
  exact Int32.ofInt_eq_ofNat.symm
theorem zI_lt {x y : Int} (hx : -2147483648 ≤ x ∧ x < 2147483648) (hy : -2147483648 ≤ y ∧ y < 2147483648) : (zI x < zI y) ↔ x < y := by rw [Int32.lt_iff_toInt_lt, zI_int hx, zI_int hy]
theorem zI_le {x y : Int} (hx : -2147483648 ≤ x ∧ x < 2147483648) (hy : -2147483648 ≤ y ∧ y < 2147483648) : (zI x ≤ zI y) ↔ x ≤ y := by rw [Int32.le_iff_toInt_le, zI_int hx, zI_int hy]
theorem zI_eq {x y : Int} (hx : -2147483648 ≤ x ∧ x < 2147483648) (hy : -2147483648 ≤ y ∧ y < 2147483648) : (zI x = zI y) ↔ x = y := by rw [← Int32.toInt_inj, zI_int hx, zI_int hy]
theorem zL_lt {x y : Int} (hx : -9223372036854775808 ≤ x ∧ x < 9223372036854775808) (hy : -9223372036854775808 ≤ y ∧ y < 9223372036854775808) : (zL x < zL y) ↔ x < y := by rw [Int64.lt_iff_toInt_lt, zL_int hx, zL_int hy]
theorem zI_0 : (0 : Int32) = zI 0 := rfl
theorem zL_0 : (0 : Int64) = zL 0 := rfl
theorem zI_clamp {i : Int} (h0 : 0 ≤ i) (h1 : i < 2147483648) : (zI i).toNatClampNeg = i.toNat := by
  show (zI i).toInt.toNat = _
  rw [zI_int ⟨by omega, h1⟩]
theorem zI_in {i : Int} {n : Nat} (h0 : 0 ≤ i) (h1 : i < n) (hn : n < 2147483648) : vp_in (zI i) n := by
  intro h
  rcases h with h | h
  · rw [zI_0, zI_lt ⟨by omega, by omega⟩ ⟨by omega, by omega⟩] at h
    omega
  · rw [zI_clamp h0 (by omega)] at h
    omega
theorem zI_div {x y : Int} (hx : 0 ≤ x ∧ x < 2147483648) (hy : 0 < y ∧ y < 2147483648) : zI x / zI y = zI (x / y) := by
  apply Int32.toInt_inj.mp
  have h1 : 0 ≤ x / y := Int.ediv_nonneg hx.1 (by omega)
  have h2 : x / y ≤ x := Int.ediv_le_self y hx.1
  rw [Int32.toInt_div_of_ne_right, zI_int (by omega), zI_int (by omega), zI_int (by omega), Int.tdiv_eq_ediv_of_nonneg hx.1]
  intro h
  have := congrArg Int32.toInt h
  rw [zI_int (by omega)] at this
  simp at this
  omega
theorem zI_rem {x y : Int} (hx : 0 ≤ x ∧ x < 2147483648) (hy : 0 < y ∧ y < 2147483648) : zI x - zI x / zI y * zI y = zI (x % y) := by
  rw [zI_div hx hy, zI_mul, zI_sub, Int.emod_def, Int.mul_comm]
theorem zL_div {x y : Int} (hx : 0 ≤ x ∧ x < 9223372036854775808) (hy : 0 < y ∧ y < 9223372036854775808) : zL x / zL y = zL (x / y) := by
  apply Int64.toInt_inj.mp
  have h1 : 0 ≤ x / y := Int.ediv_nonneg hx.1 (by omega)
  have h2 : x / y ≤ x := Int.ediv_le_self y hx.1
  rw [Int64.toInt_div_of_ne_right, zL_int (by omega), zL_int (by omega), zL_int (by omega), Int.tdiv_eq_ediv_of_nonneg hx.1]
  intro h
  have := congrArg Int64.toInt h
  rw [zL_int (by omega)] at this
  simp at this
  omega
theorem zL_rem {x y : Int} (hx : 0 ≤ x ∧ x < 9223372036854775808) (hy : 0 < y ∧ y < 9223372036854775808) : zL x - zL x / zL y * zL y = zL (x % y) := by
  rw [zL_div hx hy, zL_mul, zL_sub, Int.emod_def, Int.mul_comm]
theorem zI_ne0 {y : Int} (hy : 0 < y ∧ y < 2147483648) : ¬ zI y = 0 := by
  rw [zI_0, zI_eq (by omega) (by omega)]; omega
theorem zL_ne0 {y : Int} (hy : 0 < y ∧ y < 9223372036854775808) : ¬ zL y = 0 := by
  intro h
  have := congrArg Int64.toInt h
  rw [zL_int (by omega)] at this
  simp at this
  omega
theorem zI_long {x : Int} (hx : -2147483648 ≤ x ∧ x < 2147483648) : (zI x).toInt64 = zL x := by
  apply Int64.toInt_inj.mp
  rw [Int32.toInt_toInt64, zI_int hx, zL_int (by omega)]
theorem zL_small (x : Int) : (zL x).toInt32 = zI x := Int64.toInt32_ofInt
def zU (F : Int → Int) (i v : Int) : Int → Int := fun j => if j = i then v else F j
theorem zU_upd {F : Int → Int} {i v : Int} (h0 : 0 ≤ i) : upd (fun j : Nat => zI (F j)) i.toNat (zI v) = fun j : Nat => zI (zU F i v j) := by
  funext j
  show (if j = i.toNat then _ else _) = zI (if (j : Int) = i then v else F j)
  by_cases h : j = i.toNat
  · rw [if_pos h, if_pos (by omega)]
  · rw [if_neg h, if_neg (by omega)]
theorem zU_updL {F : Int → Int} {i v : Int} (h0 : 0 ≤ i) : vp_updL (fun j : Nat => zL (F j)) i.toNat (zL v) = fun j : Nat => zL (zU F i v j) := by
  funext j
  show (if j = i.toNat then _ else _) = zL (if (j : Int) = i then v else F j)
  by_cases h : j = i.toNat
  · rw [if_pos h, if_pos (by omega)]
  · rw [if_neg h, if_neg (by omega)]
theorem zI_natF (F : Int → Int) {i : Int} (h0 : 0 ≤ i) (h1 : i < 2147483648) : (fun j : Nat => zI (F j)) (zI i).toNatClampNeg = zI (F i) := by
  show zI (F _) = _
  rw [zI_clamp h0 h1, Int.toNat_of_nonneg h0]
theorem zL_natF (F : Int → Int) {i : Int} (h0 : 0 ≤ i) (h1 : i < 2147483648) : (fun j : Nat => zL (F j)) (zI i).toNatClampNeg = zL (F i) := by
  show zL (F _) = _
  rw [zI_clamp h0 h1, Int.toNat_of_nonneg h0]
theorem zI_bool {b : Int} (h : b = 0 ∨ b = 1) : vp_nar .boolean (zI b) = zI b := by
  rcases h with rfl | rfl <;> decide +kernel
theorem zL_eq {x y : Int} (hx : -9223372036854775808 ≤ x ∧ x < 9223372036854775808) (hy : -9223372036854775808 ≤ y ∧ y < 9223372036854775808) : (zL x = zL y) ↔ x = y := by rw [← Int64.toInt_inj, zL_int hx, zL_int hy]
theorem zI_cmp {x y : Int} (hx : -9223372036854775808 ≤ x ∧ x < 9223372036854775808) (hy : -9223372036854775808 ≤ y ∧ y < 9223372036854775808) : lg_cmp (zL x) (zL y) = zI (if y < x then 1 else if x = y then 0 else -1) := by
  unfold lg_cmp
  simp only [GT.gt, zL_lt hy hx, zL_eq hx hy]
  by_cases h1 : y < x
  · rw [if_pos h1, if_pos h1]; rfl
  · rw [if_neg h1, if_neg h1]
    by_cases h2 : x = y
    · rw [if_pos h2, if_pos h2]; rfl
    · rw [if_neg h2, if_neg h2]; rfl
theorem zI_idx {i : Int} (h0 : 0 ≤ i) (h1 : i < 2147483648) : (((zI i).toNatClampNeg : Nat) : Int) = i := by
  rw [zI_clamp h0 h1, Int.toNat_of_nonneg h0]
