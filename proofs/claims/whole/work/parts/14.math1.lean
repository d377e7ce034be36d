/-! shares as numbers: sums, the greatest, making whole, leading, hearing -/
def zSum (F : Int → Int) : Nat → Int
  | 0 => 0
  | n + 1 => zSum F n + F n
theorem zSum_cg {F G : Int → Int} : ∀ n : Nat, (∀ c : Int, 0 ≤ c → c < n → F c = G c) → zSum F n = zSum G n
  | 0, _ => rfl
  | n + 1, h => by
    rw [zSum, zSum, zSum_cg n (fun c h0 h1 => h c h0 (by omega)), h n (by omega) (by omega)]
theorem zSum_b {F : Int → Int} {a b : Int} : ∀ n : Nat, (∀ c : Int, 0 ≤ c → c < n → a ≤ F c ∧ F c ≤ b) → a * n ≤ zSum F n ∧ zSum F n ≤ b * n
  | 0, _ => by simp [zSum]
  | n + 1, h => by
    have q := zSum_b n (fun c h0 h1 => h c h0 (by omega))
    have r := h n (by omega) (by omega)
    rw [zSum]
    push_cast
    rw [Int.mul_add, Int.mul_add]
    omega
theorem zSum_p {F : Int → Int} : ∀ n : Nat, (∀ c : Int, 0 ≤ c → c < n → 0 ≤ F c) → 0 ≤ zSum F n
  | 0, _ => by simp [zSum]
  | n + 1, h => by
    have q := zSum_p n (fun c h0 h1 => h c h0 (by omega))
    have r := h n (by omega) (by omega)
    rw [zSum]
    omega
theorem zSum_le {F : Int → Int} : ∀ n : Nat, (∀ c : Int, 0 ≤ c → c < n → 0 ≤ F c) → ∀ c : Int, 0 ≤ c → c < n → F c ≤ zSum F n
  | 0, _, c, h0, h1 => by omega
  | n + 1, h, c, h0, h1 => by
    have p := zSum_p n (fun c a b => h c a (by omega))
    have hn := h n (by omega) (by omega)
    rw [zSum]
    by_cases e : c = n
    · rw [e]; omega
    · have := zSum_le n (fun c a b => h c a (by omega)) c h0 (by omega)
      omega
theorem zSum_U {F : Int → Int} {i v : Int} : ∀ n : Nat, 0 ≤ i → i < n → zSum (zU F i v) n = zSum F n + (v - F i)
  | 0, h0, h1 => by omega
  | n + 1, h0, h1 => by
    rw [zSum, zSum]
    by_cases e : i = n
    · rw [zSum_cg (F := zU F i v) (G := F) n (fun c a b => zU_n (by omega)), ← e, zU_s]
      omega
    · rw [zSum_U n h0 (by omega), zU_n (by omega)]
      omega
theorem zSum_mul {F : Int → Int} (k : Int) : ∀ n : Nat, zSum (fun c => F c * k) n = zSum F n * k
  | 0 => by simp [zSum]
  | n + 1 => by
    rw [zSum, zSum, zSum_mul k n, Int.add_mul]
theorem zSum_add {F G : Int → Int} : ∀ n : Nat, zSum (fun c => F c + G c) n = zSum F n + zSum G n
  | 0 => by simp [zSum]
  | n + 1 => by
    rw [zSum, zSum, zSum, zSum_add n]
    omega
/-- the first of the greatest -/
def zMx (F : Int → Int) : Nat → Int
  | 0 => 0
  | n + 1 => if F n > F (zMx F n) then n else zMx F n
theorem zMx_b (F : Int → Int) : ∀ n : Nat, 0 ≤ zMx F n ∧ (1 ≤ n → zMx F n < n)
  | 0 => by simp [zMx]
  | n + 1 => by
    have q := zMx_b F n
    rw [zMx]
    split
    · constructor <;> (try push_cast) <;> omega
    · refine ⟨q.1, fun _ => ?_⟩
      rcases Nat.eq_zero_or_pos n with e | e
      · subst e; simp [zMx]
      · have := q.2 e
        push_cast; omega
theorem zMx_cg {F G : Int → Int} : ∀ n : Nat, (∀ c : Int, 0 ≤ c → c < n → F c = G c) → zMx F n = zMx G n
  | 0, _ => rfl
  | n + 1, h => by
    have q := zMx_cg n (fun c h0 h1 => h c h0 (by omega))
    have b := zMx_b G n
    rw [zMx, zMx, q, h n (by omega) (by omega)]
    rcases Nat.eq_zero_or_pos n with e | e
    · subst e
      rw [show zMx G 0 = 0 from rfl, h 0 (by omega) (by omega)]
    · rw [h (zMx G n) b.1 (by have := b.2 e; omega)]
theorem zMx_max {F : Int → Int} : ∀ n : Nat, ∀ c : Int, 0 ≤ c → c < n → F c ≤ F (zMx F n)
  | 0, c, h0, h1 => by omega
  | n + 1, c, h0, h1 => by
    rw [zMx]
    by_cases e : c = n
    · subst e
      split <;> omega
    · have := zMx_max (F := F) n c h0 (by omega)
      split <;> omega
/-- what lacks, handed out one each -/
def zHc (n : Nat) (v : Int) (p : (Int → Int) × (Int → Int)) : Nat → (Int → Int) × (Int → Int)
  | 0 => p
  | k + 1 => (zU (zHc n v p k).1 (zMx (zHc n v p k).2 n) ((zHc n v p k).1 (zMx (zHc n v p k).2 n) + 1), zU (zHc n v p k).2 (zMx (zHc n v p k).2 n) v)
theorem zHc_cg {n : Nat} (hn : 1 ≤ n) {v : Int} {p q : (Int → Int) × (Int → Int)} (h1 : ∀ c : Int, 0 ≤ c → c < n → p.1 c = q.1 c) (h2 : ∀ c : Int, 0 ≤ c → c < n → p.2 c = q.2 c) : ∀ k : Nat, (∀ c : Int, 0 ≤ c → c < n → (zHc n v p k).1 c = (zHc n v q k).1 c) ∧ ∀ c : Int, 0 ≤ c → c < n → (zHc n v p k).2 c = (zHc n v q k).2 c
  | 0 => ⟨h1, h2⟩
  | k + 1 => by
    obtain ⟨a, b⟩ := zHc_cg hn h1 h2 k
    have e := zMx_cg n b
    have g := zMx_b (zHc n v q k).2 n
    constructor
    · intro c c0 c1
      show zU _ _ _ c = zU _ _ _ c
      rw [e]
      unfold zU
      rw [a c c0 c1, a _ g.1 (g.2 hn)]
    · intro c c0 c1
      show zU _ _ _ c = zU _ _ _ c
      rw [e]
      unfold zU
      rw [b c c0 c1]
theorem zHc_sum {n : Nat} (hn : 1 ≤ n) {v : Int} {p : (Int → Int) × (Int → Int)} : ∀ k : Nat, zSum (zHc n v p k).1 n = zSum p.1 n + k
  | 0 => by simp [zHc]
  | k + 1 => by
    have g := zMx_b (zHc n v p k).2 n
    show zSum (zU _ _ _) n = _
    rw [zSum_U n g.1 (g.2 hn), zHc_sum hn k]
    push_cast
    omega
theorem zHc_r {n : Nat} {v : Int} {p : (Int → Int) × (Int → Int)} (hv : 0 ≤ v) {b : Int} (hb : v ≤ b) (h : ∀ c : Int, 0 ≤ c → c < n → 0 ≤ p.2 c ∧ p.2 c ≤ b) : ∀ k : Nat, ∀ c : Int, 0 ≤ c → c < n → 0 ≤ (zHc n v p k).2 c ∧ (zHc n v p k).2 c ≤ b
  | 0 => h
  | k + 1 => fun c c0 c1 => by
    have a := zHc_r hv hb h k c c0 c1
    show 0 ≤ zU _ _ _ c ∧ zU _ _ _ c ≤ b
    unfold zU
    split <;> omega
theorem zHc_s {n : Nat} {v : Int} {p : (Int → Int) × (Int → Int)} {b : Int} (h : ∀ c : Int, 0 ≤ c → c < n → 0 ≤ p.1 c ∧ p.1 c ≤ b) : ∀ k : Nat, ∀ c : Int, 0 ≤ c → c < n → 0 ≤ (zHc n v p k).1 c ∧ (zHc n v p k).1 c ≤ b + k
  | 0 => fun c c0 c1 => by have := h c c0 c1; simp only [zHc]; push_cast; omega
  | k + 1 => fun c c0 c1 => by
    have a := zHc_s (v := v) h k c c0 c1
    show 0 ≤ zU _ _ _ c ∧ zU _ _ _ c ≤ _
    unfold zU
    split
    · rename_i e; rw [← e]; push_cast; omega
    · push_cast; omega
def zQo (W : Int → Int) (n : Nat) : Int → Int := fun c => W c * 1000000 / zSum W n
def zRe (W : Int → Int) (n : Nat) : Int → Int := fun c => W c * 1000000 % zSum W n
def zLk (W : Int → Int) (n : Nat) : Int := 1000000 - zSum (zQo W n) n
def zWh (W : Int → Int) (n : Nat) : Int → Int := (zHc n 0 (zQo W n, zRe W n) (zLk W n).toNat).1
theorem zSum_qr {W : Int → Int} {S : Int} : ∀ n : Nat, zSum (fun c => W c * 1000000 / S) n * S + zSum (fun c => W c * 1000000 % S) n = zSum W n * 1000000
  | 0 => by simp [zSum]
  | n + 1 => by
    rw [zSum, zSum, zSum, Int.add_mul, Int.add_mul]
    have q := zSum_qr (W := W) (S := S) n
    have r := Int.mul_ediv_add_emod (W n * 1000000) S
    rw [Int.mul_comm S] at r
    omega
theorem zLk_eq (W : Int → Int) (n : Nat) : zLk W n * zSum W n = zSum (zRe W n) n := by
  have q := zSum_qr (W := W) (S := zSum W n) n
  unfold zLk
  rw [Int.sub_mul, Int.mul_comm 1000000]
  have e1 : zSum (zQo W n) n = zSum (fun c => W c * 1000000 / zSum W n) n := rfl
  have e2 : zSum (zRe W n) n = zSum (fun c => W c * 1000000 % zSum W n) n := rfl
  rw [e1, e2]
  omega
theorem zLk_b {W : Int → Int} {n : Nat} (hS : 0 < zSum W n) : 0 ≤ zLk W n ∧ zLk W n ≤ n := by
  have e := zLk_eq W n
  have p := zSum_b (F := zRe W n) (a := 0) (b := zSum W n) n (fun c _ _ => ⟨Int.emod_nonneg _ (by omega), Int.le_of_lt (Int.emod_lt_of_pos _ hS)⟩)
  rw [← e] at p
  constructor
  · rcases Int.lt_or_le (zLk W n) 0 with h | h
    · have := Int.mul_neg_of_neg_of_pos h hS
      omega
    · exact h
  · rw [Int.mul_comm (zSum W n)] at p
    exact Int.le_of_mul_le_mul_right p.2 hS
theorem zQo_b {W : Int → Int} {n : Nat} (hS : 0 < zSum W n) (hW : ∀ c : Int, 0 ≤ c → c < n → 0 ≤ W c) (c : Int) (h0 : 0 ≤ c) (h1 : c < n) : 0 ≤ zQo W n c ∧ zQo W n c ≤ 1000000 := by
  have a := hW c h0 h1
  have b := zSum_le n hW c h0 h1
  refine ⟨Int.ediv_nonneg (by omega) (by omega), ?_⟩
  unfold zQo
  have := Int.ediv_le_ediv hS (Int.mul_le_mul_of_nonneg_right b (show (0 : Int) ≤ 1000000 by decide))
  rw [Int.mul_comm (zSum W n), Int.mul_ediv_cancel _ (by omega)] at this
  exact this
theorem zWh_sum {W : Int → Int} {n : Nat} (hn : 1 ≤ n) (hS : 0 < zSum W n) : zSum (zWh W n) n = 1000000 := by
  have := zLk_b hS
  unfold zWh
  rw [zHc_sum hn]
  show zSum (zQo W n) n + _ = _
  unfold zLk at this ⊢
  omega
/-- a count of shares -/
def zCs (F : Int → Int) : Nat → Int
  | 0 => 0
  | n + 1 => zCs F n + if F n > 0 then 1 else 0
theorem zCs_b (F : Int → Int) : ∀ n : Nat, 0 ≤ zCs F n ∧ zCs F n ≤ n
  | 0 => by simp [zCs]
  | n + 1 => by
    have a := zCs_b F n
    rw [zCs]
    split <;> (constructor <;> (try push_cast) <;> omega)
theorem zCs_cg {F G : Int → Int} : ∀ n : Nat, (∀ c : Int, 0 ≤ c → c < n → F c = G c) → zCs F n = zCs G n
  | 0, _ => rfl
  | n + 1, h => by
    rw [zCs, zCs, zCs_cg n (fun c h0 h1 => h c h0 (by omega)), h n (by omega) (by omega)]
/-- the greatest taken one by one: their sum, and what is left -/
def zTk (R : Int → Int) (n : Nat) : Nat → Int × (Int → Int)
  | 0 => (0, R)
  | k + 1 => ((zTk R n k).1 + (zTk R n k).2 (zMx (zTk R n k).2 n), zU (zTk R n k).2 (zMx (zTk R n k).2 n) 0)
theorem zTk_b {R : Int → Int} {n : Nat} (hn : 1 ≤ n) {b : Int} (hb : 0 ≤ b) (h : ∀ c : Int, 0 ≤ c → c < n → 0 ≤ R c ∧ R c ≤ b) : ∀ k : Nat, (0 ≤ (zTk R n k).1 ∧ (zTk R n k).1 ≤ b * k) ∧ ∀ c : Int, 0 ≤ c → c < n → 0 ≤ (zTk R n k).2 c ∧ (zTk R n k).2 c ≤ b
  | 0 => ⟨by simp [zTk], h⟩
  | k + 1 => by
    obtain ⟨a, c⟩ := zTk_b hn hb h k
    have g := zMx_b (zTk R n k).2 n
    have q := c _ g.1 (g.2 hn)
    refine ⟨?_, fun i i0 i1 => ?_⟩
    · show 0 ≤ _ + _ ∧ _ + _ ≤ _
      push_cast
      rw [Int.mul_add]
      omega
    · show 0 ≤ zU _ _ _ i ∧ zU _ _ _ i ≤ b
      have := c i i0 i1
      unfold zU
      split <;> omega
/-- leading, as the system does it -/
def zSp (σ : zMem) (c lv all : Int) (F : Int → Int) : Nat → Int → Int
  | 0 => F
  | d + 1 => if 0 ≤ σ 33 (c * 7 + d) ∧ σ 33 (c * 7 + d) < zN σ then zU (zSp σ c lv all F d) (σ 33 (c * 7 + d)) (zSp σ c lv all F d (σ 33 (c * 7 + d)) + lv * zLik σ d / all) else zSp σ c lv all F d
def zLw (σ : zMem) : Nat → Int → Int
  | 0 => zC 0
  | c + 1 => if zAll σ c 7 ≤ 0 then zU (zLw σ c) c (zLw σ c c + σ 9 c * 1000) else zSp σ c (σ 9 c * 1000) (zAll σ c 7) (zLw σ c) 7
theorem zSp_b {σ : zMem} {c lv all b : Int} {F : Int → Int} (hs : 0 ≤ σ 3 0 ∧ σ 3 0 ≤ 9) (hl : 0 ≤ lv ∧ lv ≤ 1000000000) (ha : 1 ≤ all) (h : ∀ i, 0 ≤ F i ∧ F i ≤ b) : ∀ (d : Nat) (i : Int), 0 ≤ zSp σ c lv all F d i ∧ zSp σ c lv all F d i ≤ b + 9000000000 * d
  | 0, i => by have := h i; simp only [zSp]; push_cast; omega
  | d + 1, i => by
    have a := zSp_b (c := c) hs hl ha h d
    have k := zLik_b hs d
    have m0 := Int.mul_nonneg hl.1 k.1
    have m1 : lv * zLik σ d ≤ 1000000000 * 9 := Int.mul_le_mul hl.2 k.2 k.1 (by omega)
    have q0 := Int.ediv_nonneg m0 (show 0 ≤ all by omega)
    have q1 := Int.ediv_le_self all m0
    rw [zSp]
    split
    · have a2 := a (σ 33 (c * 7 + d))
      have a3 := a i
      unfold zU
      push_cast
      split <;> omega
    · have a3 := a i
      push_cast
      omega
theorem zLw_b {σ : zMem} (hs : 0 ≤ σ 3 0 ∧ σ 3 0 ≤ 9) : ∀ (n : Nat), (∀ c : Int, 0 ≤ c → c < n → 0 ≤ σ 9 c ∧ σ 9 c ≤ 1000000) → ∀ i, 0 ≤ zLw σ n i ∧ zLw σ n i ≤ 63000000000 * n
  | 0, _, i => by simp [zLw, zC]
  | n + 1, h9, i => by
    have a := zLw_b hs n (fun c h0 h1 => h9 c h0 (by omega))
    have k := h9 n (by omega) (by omega)
    rw [zLw]
    split
    · have a2 := a n
      have a3 := a i
      unfold zU
      push_cast
      split <;> omega
    · have := zSp_b (σ := σ) (c := n) (lv := σ 9 n * 1000) (all := zAll σ n 7) (b := 63000000000 * n) (F := zLw σ n) hs (by omega) (by omega) a 7 i
      push_cast at this ⊢
      omega
/-- hearing: each cell's number behind the first senders -/
def zHm (σ : zMem) (s row o : Int) (n : Nat) : Nat → Int → Int
  | 0 => zC 1000
  | k + 1 => fun c => if zHo (zHv σ s row k) o ≠ -2 ∧ σ 7 k = 0 then zHm σ s row o n k c * zWt σ k c (zHo (zHv σ s row k) o) / zGw σ k (zHo (zHv σ s row k) o) n else zHm σ s row o n k c
theorem zHm_b {σ : zMem} (hmp : zMp σ) {s row o : Int} {n : Nat} : ∀ (k : Nat) (c : Nat), c < n → 0 ≤ zHm σ s row o n k c ∧ zHm σ s row o n k c ≤ 1000
  | 0, c, _ => by simp [zHm, zC]
  | k + 1, c, hc => by
    have a := zHm_b (s := s) (row := row) (o := o) hmp k c hc
    have w := zWt_b hmp k c (zHo (zHv σ s row k) o)
    have g := zGw_b hmp k (zHo (zHv σ s row k) o) n
    have l := zGw_le (σ := σ) k (zHo (zHv σ s row k) o) n c hc
    simp only [zHm]
    split
    · refine ⟨Int.ediv_nonneg (Int.mul_nonneg a.1 (by omega)) (by omega), ?_⟩
      have m : zHm σ s row o n k c * zWt σ k c (zHo (zHv σ s row k) o) ≤ 1000 * zGw σ k (zHo (zHv σ s row k) o) n := Int.mul_le_mul a.2 l (by omega) (by omega)
      have := Int.ediv_le_ediv (show 0 < zGw σ k (zHo (zHv σ s row k) o) n by omega) m
      rw [Int.mul_ediv_cancel _ (by omega)] at this
      exact this
    · exact a
theorem z_lcmpP {K : z_KT} {cc : ByteArray} {own : String} {nL cells slots pc : Nat} {L : List (Option Value)} {rest : List Value} {ws : va_W} (C : Fc K cc own nL) {x y : Int} (d : decode cc pc = .ok (.lcmp, 1)) (hb1 : (-9223372036854775808 ≤ x ∧ x < 9223372036854775808) ∧ (-9223372036854775808 ≤ y ∧ y < 9223372036854775808)) (k : ∀ m : Int, (m = 1 ∧ y < x) ∨ (m = 0 ∧ x = y) ∨ (m = -1 ∧ x < y) → Gd K cells slots (pc + 1) L (.int (zI m) :: rest) ws) : Gd K cells slots pc L (.long (zL y) :: .long (zL x) :: rest) ws := z_lcmp C d hb1 (k _ (by
  split
  · omega
  · split <;> omega))
theorem zS_zS (σ : zMem) (k : Nat) (F G : Int → Int) : zS (zS σ k F) k G = zS σ k G := by
  funext j
  unfold zS
  cases Nat.beq j k <;> rfl
theorem zLik_E {μ σ : zMem} {l : List Nat} (h : zE μ σ l) (h3 : 3 ∉ l := by decide) (d : Int) : zLik μ d = zLik σ d := by
  unfold zLik
  rw [h 3 h3]
theorem zAll_E {μ σ : zMem} {l : List Nat} (h : zE μ σ l) (h3 : 3 ∉ l := by decide) (h33 : 33 ∉ l := by decide) (c : Int) : ∀ n : Nat, zAll μ c n = zAll σ c n
  | 0 => rfl
  | n + 1 => by
    rw [zAll, zAll, zAll_E h h3 h33 c n, h 33 h33, zLik_E h h3]
theorem zTb_E {μ σ : zMem} {l : List Nat} (h : zE μ σ l) (h0 : 0 ∉ l := by decide) (h1 : 1 ∉ l := by decide) (h2 : 2 ∉ l := by decide) (h3 : 3 ∉ l := by decide) (h4 : 4 ∉ l := by decide) (h5 : 5 ∉ l := by decide) (h6 : 6 ∉ l := by decide) (h33 : 33 ∉ l := by decide) (ht : zTb σ) : zTb μ := by
  intro c c0 c1 d d0 d1
  rw [h 33 h33, ht c c0 (by rw [zN_E h h0 h1 h2] at c1; exact c1) d d0 d1, zTg_E h h0 h1 h2 h3 h4 h5 h6]
theorem zSp_E {μ σ : zMem} {l : List Nat} (h : zE μ σ l) (h0 : 0 ∉ l := by decide) (h1 : 1 ∉ l := by decide) (h2 : 2 ∉ l := by decide) (h3 : 3 ∉ l := by decide) (h33 : 33 ∉ l := by decide) (c lv all : Int) (F : Int → Int) : ∀ d : Nat, zSp μ c lv all F d = zSp σ c lv all F d
  | 0 => rfl
  | d + 1 => by
    rw [zSp, zSp, zSp_E h h0 h1 h2 h3 h33 c lv all F d, h 33 h33, zN_E h h0 h1 h2, zLik_E h h3]
theorem zWt_E {μ σ : zMem} {l : List Nat} (h : zE μ σ l) (h8 : 8 ∉ l := by decide) (k c v : Int) : zWt μ k c v = zWt σ k c v := by
  unfold zWt
  rw [h 8 h8]
theorem zGw_E {μ σ : zMem} {l : List Nat} (h : zE μ σ l) (h8 : 8 ∉ l := by decide) (k v : Int) : ∀ n : Nat, zGw μ k v n = zGw σ k v n
  | 0 => rfl
  | n + 1 => by
    rw [zGw, zGw, zGw_E h h8 k v n, zWt_E h h8]
theorem zHv_E {μ σ : zMem} {l : List Nat} (h : zE μ σ l) (h20 : 20 ∉ l := by decide) (s row k : Int) : zHv μ s row k = zHv σ s row k := by
  unfold zHv
  rw [h 20 h20]
theorem zWh_cg {W V : Int → Int} {n : Nat} (hn : 1 ≤ n) (h : ∀ c : Int, 0 ≤ c → c < n → W c = V c) (c : Int) (h0 : 0 ≤ c) (h1 : c < n) : zWh W n c = zWh V n c := by
  have e := zSum_cg n h
  have q : ∀ c : Int, 0 ≤ c → c < n → zQo W n c = zQo V n c := fun c a b => by unfold zQo; rw [e, h c a b]
  have r : ∀ c : Int, 0 ≤ c → c < n → zRe W n c = zRe V n c := fun c a b => by unfold zRe; rw [e, h c a b]
  have s := zSum_cg n q
  unfold zWh zLk
  rw [s]
  exact (zHc_cg hn q r _).1 c h0 h1
theorem zTk_st {R F : Int → Int} {n k : Nat} (hn : 1 ≤ n) {s x : Int} (h1 : s = (zTk R n k).1) (h2 : ∀ c : Int, 0 ≤ c → c < n → F c = (zTk R n k).2 c) (hx : x = zMx F n) : s + F x = (zTk R n (k + 1)).1 ∧ ∀ c : Int, 0 ≤ c → c < n → zU F x 0 c = (zTk R n (k + 1)).2 c := by
  have e := zMx_cg n h2
  have g := zMx_b (zTk R n k).2 n
  rw [e] at hx
  constructor
  · show _ = _ + _
    rw [h1, hx, h2 _ g.1 (g.2 hn)]
  · intro c c0 c1
    show _ = zU _ _ _ c
    rw [hx]
    unfold zU
    rw [h2 c c0 c1]
theorem zMx_1 (F : Int → Int) : zMx F (1 : Int).toNat = 0 := by
  show (if F ((0 : Nat) : Int) > F (zMx F 0) then ((0 : Nat) : Int) else zMx F 0) = 0
  split <;> rfl
