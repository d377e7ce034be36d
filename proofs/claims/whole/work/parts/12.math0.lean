/-! what both sides answer, as numbers: heard, weights, surveys, offsets -/
def zHv (σ : zMem) (s row k : Int) : Int := σ 20 (240 * s + (row * 8 + k))
def zH0 (v : Int) : Int := if -1 ≤ v ∧ v ≤ 9 then v else -2
def zHo (v o : Int) : Int := if -1 ≤ v ∧ v ≤ 9 then (if v = -1 then -1 else if v - o < 0 then 0 else if 9 < v - o then 9 else v - o) else -2
theorem zHo_0 (v : Int) : zHo v 0 = zH0 v := by
  unfold zHo zH0
  split
  · split
    · omega
    · split
      · omega
      · split <;> omega
  · rfl
theorem zH0_b (v : Int) : zH0 v = -2 ∨ (-1 ≤ zH0 v ∧ zH0 v ≤ 9) := by
  unfold zH0
  split <;> omega
theorem zHo_b (v o : Int) : zHo v o = -2 ∨ (-1 ≤ zHo v o ∧ zHo v o ≤ 9) := by
  unfold zHo
  split
  · split
    · omega
    · split
      · omega
      · split <;> omega
  · omega
def zMp (σ : zMem) : Prop := ∀ i, 0 ≤ σ 8 i ∧ σ 8 i ≤ 255
def zIt (σ : zMem) : Prop := ∀ i, -2147483648 ≤ σ 20 i ∧ σ 20 i < 2147483648
def zAt (k c v : Int) : Int := 792 * k + 11 * c + v + 1
def zWt (σ : zMem) (k c v : Int) : Int := σ 8 (zAt k c v) + 1
theorem zAt_b {k c v : Int} (hk : 0 ≤ k ∧ k < 8) (hc : 0 ≤ c ∧ c < 72) (hv : -1 ≤ v ∧ v ≤ 9) : 0 ≤ zAt k c v ∧ zAt k c v < 6336 := by
  unfold zAt
  omega
theorem zWt_b {σ : zMem} (h : zMp σ) (k c v : Int) : 1 ≤ zWt σ k c v ∧ zWt σ k c v ≤ 256 := by
  have := h (zAt k c v)
  unfold zWt
  omega
def zWa (σ : zMem) (k c : Int) : Nat → Int
  | 0 => 0
  | n + 1 => zWa σ k c n + zWt σ k c ((n : Int) - 1)
theorem zWa_b {σ : zMem} (h : zMp σ) (k c : Int) : ∀ n : Nat, 0 ≤ zWa σ k c n ∧ zWa σ k c n ≤ 256 * n
  | 0 => by simp [zWa]
  | n + 1 => by
    have a := zWa_b h k c n
    have b := zWt_b h k c ((n : Int) - 1)
    rw [zWa]
    constructor <;> (try push_cast) <;> omega
def zGw (σ : zMem) (k v : Int) : Nat → Int
  | 0 => 1
  | n + 1 => if zWt σ k n v > zGw σ k v n then zWt σ k n v else zGw σ k v n
theorem zGw_b {σ : zMem} (h : zMp σ) (k v : Int) : ∀ n : Nat, 1 ≤ zGw σ k v n ∧ zGw σ k v n ≤ 256
  | 0 => by simp [zGw]
  | n + 1 => by
    have a := zGw_b h k v n
    have b := zWt_b h k n v
    rw [zGw]
    split <;> omega
theorem zGw_le {σ : zMem} (k v : Int) : ∀ (n : Nat) (c : Nat), c < n → zWt σ k c v ≤ zGw σ k v n
  | 0, c, h => absurd h (Nat.not_lt_zero _)
  | n + 1, c, h => by
    rw [zGw]
    rcases Nat.lt_succ_iff_lt_or_eq.mp h with q | q
    · have := zGw_le (σ := σ) k v n c q
      split <;> omega
    · subst q
      split <;> omega
/-- a survey: the map behind the first senders; how many were not missing -/
def zSv (σ : zMem) (s row c : Int) : Nat → Int → Int
  | 0 => σ 8
  | n + 1 => if zH0 (zHv σ s row n) = -2 then zSv σ s row c n else zU (zSv σ s row c n) (zAt n c (zH0 (zHv σ s row n))) (if zSv σ s row c n (zAt n c (zH0 (zHv σ s row n))) < 255 then zSv σ s row c n (zAt n c (zH0 (zHv σ s row n))) + 1 else 255)
def zSn (σ : zMem) (s row : Int) : Nat → Int
  | 0 => 0
  | n + 1 => zSn σ s row n + if zH0 (zHv σ s row n) = -2 then 0 else 1
theorem zSv_b {σ : zMem} (h : zMp σ) (s row c : Int) : ∀ (n : Nat) (i : Int), 0 ≤ zSv σ s row c n i ∧ zSv σ s row c n i ≤ 255
  | 0, i => h i
  | n + 1, i => by
    have a := zSv_b h s row c n
    rw [zSv]
    split
    · exact a i
    · have b := a (zAt n c (zH0 (zHv σ s row n)))
      unfold zU
      split
      · split <;> omega
      · exact a i
theorem zSn_b (σ : zMem) (s row : Int) : ∀ n : Nat, 0 ≤ zSn σ s row n ∧ zSn σ s row n ≤ n
  | 0 => by simp [zSn]
  | n + 1 => by
    have a := zSn_b σ s row n
    rw [zSn]
    split <;> (constructor <;> (try push_cast) <;> omega)
/-- all weights of a row in a cell, by an offset, without one sender -/
def zRw (σ : zMem) (s row c o wo : Int) : Nat → Int
  | 0 => 0
  | n + 1 => zRw σ s row c o wo n + if zHo (zHv σ s row n) o ≠ -2 ∧ (n : Int) ≠ wo ∧ σ 7 n = 0 then zWt σ n c (zHo (zHv σ s row n) o) else 0
theorem zRw_b {σ : zMem} (h : zMp σ) (s row c o wo : Int) : ∀ n : Nat, 0 ≤ zRw σ s row c o wo n ∧ zRw σ s row c o wo n ≤ 256 * n
  | 0 => by simp [zRw]
  | n + 1 => by
    have a := zRw_b h s row c o wo n
    have b := zWt_b h n c (zHo (zHv σ s row n) o)
    rw [zRw]
    split <;> (constructor <;> (try push_cast) <;> omega)
/-- the best offset behind amounts up to n: it, and its sum -/
def zOf (σ : zMem) (s row c : Int) : Nat → Int × Int
  | 0 => (0, zRw σ s row c 0 (-1) 8)
  | n + 1 =>
    let p := zOf σ s row c n
    let q : Int × Int := if zRw σ s row c (-((n : Int) + 1)) (-1) 8 > p.2 then (-((n : Int) + 1), zRw σ s row c (-((n : Int) + 1)) (-1) 8) else p
    if zRw σ s row c ((n : Int) + 1) (-1) 8 > q.2 then ((n : Int) + 1, zRw σ s row c ((n : Int) + 1) (-1) 8) else q
def zNr (form x : Int) : Int := if form = 0 then ((zI x).toInt8.toInt32).toInt else if form = 1 then ((zI x).toInt16.toInt32).toInt else x
theorem zNr_b (form : Int) {x : Int} (hx : -2147483648 ≤ x ∧ x < 2147483648) : -2147483648 ≤ zNr form x ∧ zNr form x < 2147483648 := by
  unfold zNr
  split
  · exact zI_rg _
  · split
    · exact zI_rg _
    · exact hx
/-- the dead ones as bits -/
def zDb (F : Int → Int) : Int := F 0 + 2 * F 1 + 4 * F 2 + 8 * F 3 + 16 * F 4 + 32 * F 5 + 64 * F 6 + 128 * F 7
def z_p2 (k : Int) : Int := if k = 0 then 1 else if k = 1 then 2 else if k = 2 then 4 else if k = 3 then 8 else if k = 4 then 16 else if k = 5 then 32 else if k = 6 then 64 else 128
theorem z_bitD : ∀ (d : Fin 256) (k : Fin 8), (zI (d.val : Int) >>> (zI (k.val : Int) &&& 31)) &&& zI 1 = zI ((d.val : Int) / z_p2 k.val % 2) := by decide +kernel
theorem z_shr {D k : Int} (hD : 0 ≤ D ∧ D < 256) (hk : 0 ≤ k ∧ k < 8) : zI D >>> (zI k &&& 31) = zI (D / z_p2 k) := by
  have key : ∀ (d : Fin 256) (k : Fin 8), zI (d.val : Int) >>> (zI (k.val : Int) &&& 31) = zI ((d.val : Int) / z_p2 k.val) := by decide +kernel
  have := key ⟨D.toNat, by omega⟩ ⟨k.toNat, by omega⟩
  simp only [Int.toNat_of_nonneg hD.1, Int.toNat_of_nonneg hk.1] at this
  exact this
theorem z_and1 {D : Int} (hD : 0 ≤ D ∧ D < 256) : zI D &&& zI 1 = zI (D % 2) := by
  have key : ∀ (d : Fin 256), zI (d.val : Int) &&& zI 1 = zI ((d.val : Int) % 2) := by decide +kernel
  have := key ⟨D.toNat, by omega⟩
  simp only [Int.toNat_of_nonneg hD.1] at this
  exact this
theorem z_shl {k : Int} (hk : 0 ≤ k ∧ k < 8) : zI 1 <<< (zI k &&& 31) = zI (z_p2 k) := by
  have key : ∀ (k : Fin 8), zI 1 <<< (zI (k.val : Int) &&& 31) = zI (z_p2 k.val) := by decide +kernel
  have := key ⟨k.toNat, by omega⟩
  simp only [Int.toNat_of_nonneg hk.1] at this
  exact this
theorem z_orb {D k : Int} (hD : 0 ≤ D ∧ D < 256) (hk : 0 ≤ k ∧ k < 8) : zI D ||| zI (z_p2 k) = zI (D + (1 - D / z_p2 k % 2) * z_p2 k) := by
  have key : ∀ (d : Fin 256) (k : Fin 8), zI (d.val : Int) ||| zI (z_p2 k.val) = zI ((d.val : Int) + (1 - (d.val : Int) / z_p2 k.val % 2) * z_p2 k.val) := by decide +kernel
  have := key ⟨D.toNat, by omega⟩ ⟨k.toNat, by omega⟩
  simp only [Int.toNat_of_nonneg hD.1, Int.toNat_of_nonneg hk.1] at this
  exact this
theorem z_xor1 (x : Int) : zI x ^^^ zI (-1) = zI (-x - 1) := by
  apply Int32.toBitVec_inj.mp
  show (Int32.ofInt x).toBitVec ^^^ (Int32.ofInt (-1)).toBitVec = (Int32.ofInt (-x - 1)).toBitVec
  have e : (Int32.ofInt (-1)).toBitVec = BitVec.allOnes 32 := by decide
  rw [e, BitVec.xor_allOnes]
  show ~~~ (BitVec.ofInt 32 x) = BitVec.ofInt 32 (-x - 1)
  rw [BitVec.not_eq_neg_add, ← BitVec.ofInt_neg, Int.sub_eq_add_neg, BitVec.ofInt_add, BitVec.sub_eq_add_neg]
  congr 1
theorem z_andn {D k : Int} (hD : 0 ≤ D ∧ D < 256) (hk : 0 ≤ k ∧ k < 8) : zI D &&& zI (-z_p2 k - 1) = zI (D - D / z_p2 k % 2 * z_p2 k) := by
  have key : ∀ (d : Fin 256) (k : Fin 8), zI (d.val : Int) &&& zI (-z_p2 k.val - 1) = zI ((d.val : Int) - (d.val : Int) / z_p2 k.val % 2 * z_p2 k.val) := by decide +kernel
  have := key ⟨D.toNat, by omega⟩ ⟨k.toNat, by omega⟩
  simp only [Int.toNat_of_nonneg hD.1, Int.toNat_of_nonneg hk.1] at this
  exact this
theorem zDb_b {F : Int → Int} (h : ∀ i, F i = 0 ∨ F i = 1) : 0 ≤ zDb F ∧ zDb F < 256 := by
  have h0 := h 0; have h1 := h 1; have h2 := h 2; have h3 := h 3; have h4 := h 4; have h5 := h 5; have h6 := h 6; have h7 := h 7
  unfold zDb
  omega
theorem zDb_k {F : Int → Int} (h : ∀ i, F i = 0 ∨ F i = 1) {k : Int} (hk : 0 ≤ k ∧ k < 8) : zDb F / z_p2 k % 2 = F k := by
  have h0 := h 0; have h1 := h 1; have h2 := h 2; have h3 := h 3; have h4 := h 4; have h5 := h 5; have h6 := h 6; have h7 := h 7
  unfold zDb
  rcases (show k = 0 ∨ k = 1 ∨ k = 2 ∨ k = 3 ∨ k = 4 ∨ k = 5 ∨ k = 6 ∨ k = 7 by omega) with rfl | rfl | rfl | rfl | rfl | rfl | rfl | rfl <;> simp only [z_p2] <;> simp (decide := true) only [if_true, if_false] <;> omega
theorem zDb_u {F : Int → Int} {k v : Int} (hk : 0 ≤ k ∧ k < 8) : zDb (zU F k v) = zDb F + (v - F k) * z_p2 k := by
  unfold zDb zU
  rcases (show k = 0 ∨ k = 1 ∨ k = 2 ∨ k = 3 ∨ k = 4 ∨ k = 5 ∨ k = 6 ∨ k = 7 by omega) with rfl | rfl | rfl | rfl | rfl | rfl | rfl | rfl <;> simp (decide := true) only [z_p2, if_true, if_false] <;> omega
theorem zOf_11 {σ : zMem} {s row c : Int} {n : Nat} {b m : Int} (h : (b, m) = zOf σ s row c n) (h1 : zRw σ s row c (-((n : Int) + 1)) (-1) 8 > m) (h2 : zRw σ s row c ((n : Int) + 1) (-1) 8 > zRw σ s row c (-((n : Int) + 1)) (-1) 8) : ((n : Int) + 1, zRw σ s row c ((n : Int) + 1) (-1) 8) = zOf σ s row c (n + 1) := by
  simp only [zOf, ← h, if_pos h1, if_pos h2]
theorem zOf_10 {σ : zMem} {s row c : Int} {n : Nat} {b m : Int} (h : (b, m) = zOf σ s row c n) (h1 : zRw σ s row c (-((n : Int) + 1)) (-1) 8 > m) (h2 : ¬ zRw σ s row c ((n : Int) + 1) (-1) 8 > zRw σ s row c (-((n : Int) + 1)) (-1) 8) : (-((n : Int) + 1), zRw σ s row c (-((n : Int) + 1)) (-1) 8) = zOf σ s row c (n + 1) := by
  simp only [zOf, ← h, if_pos h1, if_neg h2]
theorem zOf_01 {σ : zMem} {s row c : Int} {n : Nat} {b m : Int} (h : (b, m) = zOf σ s row c n) (h1 : ¬ zRw σ s row c (-((n : Int) + 1)) (-1) 8 > m) (h2 : zRw σ s row c ((n : Int) + 1) (-1) 8 > m) : ((n : Int) + 1, zRw σ s row c ((n : Int) + 1) (-1) 8) = zOf σ s row c (n + 1) := by
  simp only [zOf, ← h, if_neg h1, if_pos h2]
theorem zOf_00 {σ : zMem} {s row c : Int} {n : Nat} {b m : Int} (h : (b, m) = zOf σ s row c n) (h1 : ¬ zRw σ s row c (-((n : Int) + 1)) (-1) 8 > m) (h2 : ¬ zRw σ s row c ((n : Int) + 1) (-1) 8 > m) : (b, m) = zOf σ s row c (n + 1) := by
  simp only [zOf, ← h, if_neg h1, if_neg h2]
