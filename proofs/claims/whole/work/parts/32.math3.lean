/-! the reference's own numbers: making whole by another mark, leading by tables -/
theorem zMx_u {F : Int → Int} {n : Nat} {x : Int} (h0 : 0 ≤ x ∧ x < n) (h1 : ∀ c : Int, 0 ≤ c → c < n → F c ≤ F x) (h2 : ∀ c : Int, 0 ≤ c → c < x → F c < F x) : zMx F n = x := by
  have b := zMx_b F n
  have b2 := b.2 (by omega)
  have m := zMx_max (F := F) n x h0.1 h0.2
  have m2 := h1 (zMx F n) b.1 b2
  rcases Int.lt_trichotomy (zMx F n) x with h | h | h
  · have := h2 _ b.1 h
    omega
  · exact h
  · exfalso
    have f : ∀ k : Nat, ∀ c : Int, 0 ≤ c → c < zMx F k → F c < F (zMx F k) := by
      intro k
      induction k with
      | zero => intro c a q; simp only [zMx] at q; omega
      | succ k ih =>
        intro c a q
        rw [zMx] at q ⊢
        split at q
        · rename_i g
          rw [if_pos g]
          have := zMx_max (F := F) k c a q
          omega
        · rename_i g
          rw [if_neg g]
          exact ih c a q
    have := f n x h0.1 h
    omega
theorem zMx_f {F : Int → Int} {n : Nat} (hn : 1 ≤ n) : (0 ≤ zMx F n ∧ zMx F n < n) ∧ (∀ c : Int, 0 ≤ c → c < n → F c ≤ F (zMx F n)) ∧ ∀ c : Int, 0 ≤ c → c < zMx F n → F c < F (zMx F n) := by
  have b := zMx_b F n
  refine ⟨⟨b.1, b.2 hn⟩, zMx_max n, ?_⟩
  have f : ∀ k : Nat, ∀ c : Int, 0 ≤ c → c < zMx F k → F c < F (zMx F k) := by
    intro k
    induction k with
    | zero => intro c a q; simp only [zMx] at q; omega
    | succ k ih =>
      intro c a q
      rw [zMx] at q ⊢
      split at q
      · rename_i g
        rw [if_pos g]
        have := zMx_max (F := F) k c a q
        omega
      · rename_i g
        rw [if_neg g]
        exact ih c a q
  exact f n
theorem zSum_sub {F : Int → Int} {n : Nat} {x : Int} (h0 : 0 ≤ x) (h1 : x < n) : zSum (zU F x 0) n = zSum F n - F x := by
  rw [zSum_U n h0 h1]
  omega
/-- as long as something lacks, some rest is above 0: the two marks pick alike -/
theorem zHc_m {n : Nat} (hn : 1 ≤ n) {S : Int} (hS : 0 < S) {p : (Int → Int) × (Int → Int)} {k : Int} (hp : ∀ c : Int, 0 ≤ c → c < n → 0 ≤ p.2 c ∧ p.2 c < S) (hk : zSum p.2 n = k * S) : ∀ j : Nat, (j : Int) ≤ k → (zHc n (-1) p j).1 = (zHc n 0 p j).1 ∧ (∀ c : Int, 0 ≤ c → c < n → ((zHc n 0 p j).2 c = (zHc n (-1) p j).2 c ∧ 0 ≤ (zHc n 0 p j).2 c ∧ (zHc n 0 p j).2 c < S) ∨ ((zHc n 0 p j).2 c = 0 ∧ (zHc n (-1) p j).2 c = -1)) ∧ (k - j) * S ≤ zSum (zHc n 0 p j).2 n
  | 0, _ => ⟨rfl, fun c a b => Or.inl ⟨rfl, hp c a b⟩, by simp only [zHc]; rw [hk]; simp⟩
  | j + 1, hj => by
    obtain ⟨a, b, d⟩ := zHc_m hn hS hp hk j (by omega)
    have pos : 0 < zSum (zHc n 0 p j).2 n := by
      have := Int.mul_le_mul_of_nonneg_right (show 1 ≤ k - j by omega) (show 0 ≤ S by omega)
      omega
    obtain ⟨x0, x1, x2⟩ := zMx_f (F := (zHc n 0 p j).2) hn
    have xp : 0 < (zHc n 0 p j).2 (zMx (zHc n 0 p j).2 n) := by
      rcases Int.lt_or_le 0 ((zHc n 0 p j).2 (zMx (zHc n 0 p j).2 n)) with q | q
      · exact q
      · exfalso
        have := zSum_b (F := (zHc n 0 p j).2) (a := 0) (b := 0) n (fun c c0 c1 => by
          have u := x1 c c0 c1
          have v := b c c0 c1
          omega)
        omega
    have bx := b _ x0.1 x0.2
    have e : zMx (zHc n (-1) p j).2 n = zMx (zHc n 0 p j).2 n := by
      apply zMx_u x0
      · intro c c0 c1
        have u := x1 c c0 c1
        have v := b c c0 c1
        omega
      · intro c c0 c1
        have u := x2 c c0 c1
        have v := b c c0 (by omega)
        omega
    refine ⟨?_, fun c c0 c1 => ?_, ?_⟩
    · show zU _ _ _ = zU _ _ _
      rw [e, a]
    · show (zU _ _ _ c = zU _ _ _ c ∧ 0 ≤ zU _ _ _ c ∧ zU _ _ _ c < S) ∨ (zU _ _ _ c = 0 ∧ zU _ _ _ c = -1)
      rw [e]
      unfold zU
      have v := b c c0 c1
      split
      · right; exact ⟨rfl, rfl⟩
      · exact v
    · show _ ≤ zSum (zU _ _ _) n
      rw [zSum_sub x0.1 x0.2]
      have : (zHc n 0 p j).2 (zMx (zHc n 0 p j).2 n) < S := by omega
      push_cast
      rw [show k - ((j : Int) + 1) = (k - j) - 1 by omega, Int.sub_mul, Int.one_mul]
      omega
def zWm (W : Int → Int) (n : Nat) : Int → Int := (zHc n (-1) (zQo W n, zRe W n) (zLk W n).toNat).1
theorem zWm_eq {W : Int → Int} {n : Nat} (hn : 1 ≤ n) (hS : 0 < zSum W n) : zWm W n = zWh W n := by
  have l := zLk_b hS
  have e := zLk_eq W n
  exact (zHc_m (p := (zQo W n, zRe W n)) hn hS (fun c _ _ => ⟨Int.emod_nonneg _ (by omega), Int.emod_lt_of_pos _ hS⟩) e.symm (zLk W n).toNat (by omega)).1
theorem zHc_rm {n : Nat} {v b : Int} {p : (Int → Int) × (Int → Int)} (hb : v ≤ b) (h : ∀ c : Int, 0 ≤ c → c < n → v ≤ p.2 c ∧ p.2 c ≤ b) : ∀ k : Nat, ∀ c : Int, 0 ≤ c → c < n → v ≤ (zHc n v p k).2 c ∧ (zHc n v p k).2 c ≤ b
  | 0 => h
  | k + 1 => fun c c0 c1 => by
    have a := zHc_rm hb h k c c0 c1
    show v ≤ zU _ _ _ c ∧ zU _ _ _ c ≤ b
    unfold zU
    split <;> omega
theorem zLy_b {σ : zMem} (hs : 0 ≤ σ 3 0 ∧ σ 3 0 ≤ 9) (a b : Int) : 0 ≤ zLy σ a b ∧ zLy σ a b ≤ 9 := by
  unfold zLy
  split
  · exact hs
  · split
    · split <;> omega
    · split
      · split <;> omega
      · split <;> omega
def zLo (σ : zMem) (c : Int) : Int → Int := fun d => zLy σ c d
/-- what leads out of a cell, by the table -/
def zLt (σ : zMem) (c all : Int) (F : Int → Int) : Int → Int := fun d => F d + 1000 * σ 9 c * zLy σ c d / all
/-- the loads behind the first cells -/
def zLr (σ : zMem) : Nat → Int → Int
  | 0 => zC 0
  | c + 1 => if zSum (zLo σ c) (zN σ).toNat = 0 then zU (zLr σ c) c (zLr σ c c + 1000 * σ 9 c) else zLt σ c (zSum (zLo σ c) (zN σ).toNat) (zLr σ c)
theorem zLr_b {σ : zMem} (hs : 0 ≤ σ 3 0 ∧ σ 3 0 ≤ 9) : ∀ (n : Nat), (∀ c : Int, 0 ≤ c → c < n → 0 ≤ σ 9 c ∧ σ 9 c ≤ 1000000) → ∀ i, 0 ≤ zLr σ n i ∧ zLr σ n i ≤ 9000000000 * n
  | 0, _, i => by simp [zLr, zC]
  | n + 1, h9, i => by
    have a := zLr_b hs n (fun c h0 h1 => h9 c h0 (by omega))
    have k := h9 n (by omega) (by omega)
    have p : 0 ≤ zSum (zLo σ n) (zN σ).toNat := zSum_p _ (fun c _ _ => (zLy_b hs n c).1)
    rw [zLr]
    split
    · have a2 := a n
      have a3 := a i
      unfold zU
      push_cast
      split <;> omega
    · have a3 := a i
      have l := zLy_b hs n i
      have m0 := Int.mul_nonneg (show 0 ≤ 1000 * σ 9 n by omega) l.1
      have m1 : 1000 * σ 9 n * zLy σ n i ≤ 1000000000 * 9 := Int.mul_le_mul (by omega) l.2 l.1 (by omega)
      have q0 := Int.ediv_nonneg m0 p
      have q1 := Int.ediv_le_self (zSum (zLo σ n) (zN σ).toNat) m0
      unfold zLt
      push_cast
      omega
def zM1 (σ : zMem) (F : Int → Int) : Int → Int := if zSum (zLr (zS σ 9 F) (zN σ).toNat) (zN σ).toNat = 0 then F else zWh (zLr (zS σ 9 F) (zN σ).toNat) (zN σ).toNat
def zMn (σ : zMem) : Nat → Int → Int
  | 0 => σ 9
  | n + 1 => zM1 σ (zMn σ n)
