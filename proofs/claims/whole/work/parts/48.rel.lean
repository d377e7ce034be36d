/-! BOTH SIDES TOGETHER: what the two memories have in common -/
def zLL : List Nat := [9, 30, 31, 32, 33, 34, 35, 36, 37, 38, 39, 40, 41, 48, 49, 50, 51, 60, 61, 62, 63, 64, 65, 66, 67]
section ZQ
variable {σ τ : zMem}
theorem e_0 (h : zE τ σ zLL) : τ 0 = σ 0 := h 0 (by decide)
theorem e_1 (h : zE τ σ zLL) : τ 1 = σ 1 := h 1 (by decide)
theorem e_2 (h : zE τ σ zLL) : τ 2 = σ 2 := h 2 (by decide)
theorem e_3 (h : zE τ σ zLL) : τ 3 = σ 3 := h 3 (by decide)
theorem e_4 (h : zE τ σ zLL) : τ 4 = σ 4 := h 4 (by decide)
theorem e_5 (h : zE τ σ zLL) : τ 5 = σ 5 := h 5 (by decide)
theorem e_6 (h : zE τ σ zLL) : τ 6 = σ 6 := h 6 (by decide)
theorem e_7 (h : zE τ σ zLL) : τ 7 = σ 7 := h 7 (by decide)
theorem e_8 (h : zE τ σ zLL) : τ 8 = σ 8 := h 8 (by decide)
theorem e_10 (h : zE τ σ zLL) : τ 10 = σ 10 := h 10 (by decide)
theorem e_11 (h : zE τ σ zLL) : τ 11 = σ 11 := h 11 (by decide)
theorem e_12 (h : zE τ σ zLL) : τ 12 = σ 12 := h 12 (by decide)
theorem e_13 (h : zE τ σ zLL) : τ 13 = σ 13 := h 13 (by decide)
theorem e_14 (h : zE τ σ zLL) : τ 14 = σ 14 := h 14 (by decide)
theorem e_15 (h : zE τ σ zLL) : τ 15 = σ 15 := h 15 (by decide)
theorem e_16 (h : zE τ σ zLL) : τ 16 = σ 16 := h 16 (by decide)
theorem e_17 (h : zE τ σ zLL) : τ 17 = σ 17 := h 17 (by decide)
theorem e_18 (h : zE τ σ zLL) : τ 18 = σ 18 := h 18 (by decide)
theorem e_19 (h : zE τ σ zLL) : τ 19 = σ 19 := h 19 (by decide)
theorem e_20 (h : zE τ σ zLL) : τ 20 = σ 20 := h 20 (by decide)
theorem cN (h : zE τ σ zLL) : zN τ = zN σ := by
  unfold zN
  rw [e_0 h, e_1 h, e_2 h]
theorem cIsA (h : zE τ σ zLL) : zIsA τ = zIsA σ := by
  funext f x0 x1 y0 y1
  unfold zIsA
  rw [e_0 h, e_1 h, e_2 h]
theorem cRp (h : zE τ σ zLL) : zRp τ = zRp σ := by
  funext z row
  unfold zRp
  rw [e_16 h, e_18 h]
theorem cIp (h : zE τ σ zLL) : zIp τ = zIp σ := by
  funext z f i
  unfold zIp
  rw [e_16 h, e_17 h, e_18 h]
theorem cHv (h : zE τ σ zLL) : zHv τ = zHv σ := by
  funext s row k
  unfold zHv
  rw [e_20 h]
theorem cWt (h : zE τ σ zLL) : zWt τ = zWt σ := by
  funext k c v
  unfold zWt
  rw [e_8 h]
theorem cSn (h : zE τ σ zLL) : zSn τ = zSn σ := by
  funext s row n
  induction n with
  | zero => rfl
  | succ n ih => rw [zSn, zSn, ih, cHv h]
theorem cSv (h : zE τ σ zLL) : zSv τ = zSv σ := by
  funext s row c n
  exact zSv_c (e_8 h) (e_20 h) s row c n
theorem cWa (h : zE τ σ zLL) : zWa τ = zWa σ := by
  funext k c n
  induction n with
  | zero => rfl
  | succ n ih => rw [zWa, zWa, ih, cWt h]
theorem cGw (h : zE τ σ zLL) : zGw τ = zGw σ := by
  funext k v n
  induction n with
  | zero => rfl
  | succ n ih => rw [zGw, zGw, ih, cWt h]
theorem cRw (h : zE τ σ zLL) : zRw τ = zRw σ := by
  funext s row c oo wo n
  induction n with
  | zero => rfl
  | succ n ih => rw [zRw, zRw, ih, cHv h, e_7 h, cWt h]
theorem cOf (h : zE τ σ zLL) : zOf τ = zOf σ := by
  funext s row c n
  induction n with
  | zero => rw [zOf, zOf, cRw h]
  | succ n ih =>
    rw [zOf_g, zOf_g]
    unfold zOg
    rw [ih, cRw h]
theorem cLy (h : zE τ σ zLL) : zLy τ = zLy σ := by
  funext a b
  exact zLy_c (e_1 h) (e_2 h) (e_3 h) (e_4 h) (e_5 h) (e_6 h) a b
theorem cEy (h : zE τ σ zLL) : zEy τ = zEy σ := by
  funext c d
  unfold zEy
  rw [cN h, cLy h]
theorem cYs (h : zE τ σ zLL) : zYs τ = zYs σ := by
  funext V c d
  unfold zYs
  rw [cLy h]
theorem cYb (h : zE τ σ zLL) : zYb τ = zYb σ := by
  funext V c n
  induction n with
  | zero => rfl
  | succ n ih => rw [zYb, zYb, ih, cYs h]
theorem cYv (h : zE τ σ zLL) : zYv τ = zYv σ := by
  funext z wo R n
  induction n with
  | zero => funext c; rw [zYv, zYv, cRw h]
  | succ n ih => funext c; rw [zYv, zYv, ih, cYb h, cN h, cRw h]
theorem cYw (h : zE τ σ zLL) : zYw τ = zYw σ := by
  funext z wo R n
  induction n with
  | zero => rw [zYw, zYw, cYv h, cN h]
  | succ n ih => rw [zYw, zYw, ih, cYb h, cYv h, cN h]
theorem cYf (h : zE τ σ zLL) : zYf τ = zYf σ := by
  funext z wo R
  unfold zYf
  rw [cYv h, cYw h]
theorem cMr (h : zE τ σ zLL) : zMr τ = zMr σ := by
  funext z k n
  induction n with
  | zero => rfl
  | succ n ih => rw [zMr, zMr, ih, cHv h]
theorem cMuy (h : zE τ σ zLL) : zMuy τ = zMuy σ := by
  funext z k y n
  induction n with
  | zero => rfl
  | succ n ih => rw [zMuy, zMuy, ih, cHv h, cWt h]
theorem cYd (h : zE τ σ zLL) (z k : Int) : zYd τ z k ↔ zYd σ z k := by
  unfold zYd
  rw [cMr h, cMuy h, cYw h, e_18 h]
theorem cYt (h : zE τ σ zLL) : zYt τ = zYt σ := by
  funext z n
  induction n with
  | zero => rfl
  | succ n ih =>
    have q : (τ 7 n = 0 ∧ zYd τ z n) ↔ (σ 7 n = 0 ∧ zYd σ z n) := by rw [e_7 h, cYd h]
    rw [zYt, zYt, ih]
    by_cases g : σ 7 n = 0 ∧ zYd σ z n
    · rw [if_pos g, if_pos (q.mpr g)]
    · rw [if_neg g, if_neg (fun p => g (q.mp p))]
theorem cLm (h : zE τ σ zLL) : zLm τ = zLm σ := by
  funext z y n
  induction n with
  | zero => rw [zLm, zLm, e_8 h]
  | succ n ih =>
    rw [zLm, zLm, ih]
    exact zSv_c (by rw [zS_s, zS_s]) (by show τ 20 = σ 20; exact e_20 h) z n (y n) 8
theorem cWc (h : zE τ σ zLL) : zWc τ = zWc σ := by
  unfold zWc
  rw [e_4 h, e_5 h, cN h]
theorem cLc (h : zE τ σ zLL) : zLc τ = zLc σ := by
  unfold zLc
  rw [e_6 h]
theorem cCt (h : zE τ σ zLL) : zCt τ = zCt σ := by
  funext k
  unfold zCt
  rw [e_0 h, e_1 h, e_2 h, cWc h, cLc h, e_12 h, e_19 h, e_3 h, e_11 h, e_7 h, e_10 h]
theorem cD1 (h : zE τ σ zLL) : zD1 τ = zD1 σ := by
  funext n
  induction n with
  | zero => rfl
  | succ n ih => rw [zD1, zD1, ih, cCt h]
theorem cD4 (h : zE τ σ zLL) : zD4 τ = zD4 σ := by
  funext a k n
  induction n with
  | zero => rfl
  | succ n ih => rw [zD4, zD4, ih, cWa h]
theorem cIn (h : zE τ σ zLL) : zIn τ = zIn σ := by
  funext c f x0 x1 y0 y1
  unfold zIn
  rw [e_1 h, e_2 h]
theorem cIn2 (h : zE τ σ zLL) (c f x0 x1 y0 y1 : Int) : zIn τ c f x0 x1 y0 y1 ↔ zIn σ c f x0 x1 y0 y1 := by rw [cIn h]
theorem cNi (h : zE τ σ zLL) : zNi τ = zNi σ := by
  funext f x0 x1 y0 y1 n
  induction n with
  | zero => rfl
  | succ n ih =>
    have q : ((0 ≤ τ 10 n ∧ τ 10 n < zN τ) ∧ zIn τ (τ 10 n) f x0 x1 y0 y1) ↔ ((0 ≤ σ 10 n ∧ σ 10 n < zN σ) ∧ zIn σ (σ 10 n) f x0 x1 y0 y1) := by rw [cIn h, e_10 h, cN h]
    rw [zNi, zNi, ih]
    by_cases g : (0 ≤ σ 10 n ∧ σ 10 n < zN σ) ∧ zIn σ (σ 10 n) f x0 x1 y0 y1
    · rw [if_pos g, if_pos (q.mpr g)]
    · rw [if_neg g, if_neg (fun p => g (q.mp p))]
theorem cPr (h : zE τ σ zLL) : zPr τ = zPr σ := by
  funext k f x0 x1 y0 y1 n
  induction n with
  | zero => rfl
  | succ n ih =>
    have q : (zIn τ n f x0 x1 y0 y1 ↔ zIn τ n (τ 13 (5 * k)) (τ 13 (5 * k + 1)) (τ 13 (5 * k + 2)) (τ 13 (5 * k + 3)) (τ 13 (5 * k + 4))) ↔ (zIn σ n f x0 x1 y0 y1 ↔ zIn σ n (σ 13 (5 * k)) (σ 13 (5 * k + 1)) (σ 13 (5 * k + 2)) (σ 13 (5 * k + 3)) (σ 13 (5 * k + 4))) := by rw [cIn h, e_13 h]
    rw [zPr, zPr, ih]
    by_cases g : (zIn σ n f x0 x1 y0 y1 ↔ zIn σ n (σ 13 (5 * k)) (σ 13 (5 * k + 1)) (σ 13 (5 * k + 2)) (σ 13 (5 * k + 3)) (σ 13 (5 * k + 4)))
    · rw [if_pos g, if_pos (q.mpr g)]
    · rw [if_neg g, if_neg (fun p => g (q.mp p))]
theorem cNs (h : zE τ σ zLL) : zNs τ = zNs σ := by
  funext f x0 x1 y0 y1 n
  unfold zNs
  rw [cPr h, cN h, e_11 h]
theorem cWs (h : zE τ σ zLL) : zWs τ = zWs σ := by
  funext f x0 x1 y0 y1 n
  unfold zWs
  rw [cPr h, cN h]
theorem cGv (h : zE τ σ zLL) : zGv τ = zGv σ := by
  funext f x0 x1 y0 y1
  unfold zGv
  rw [e_13 h, e_12 h]
theorem cHm (h : zE τ σ zLL) : zHm τ = zHm σ := by
  funext s row oo n k
  induction k with
  | zero => rfl
  | succ k ih =>
    funext c
    rw [zHm, zHm, ih, cHv h, e_7 h, cWt h, cGw h]
theorem cRt (h : zE τ σ zLL) : zRt τ = zRt σ := by
  funext a b
  unfold zRt
  rw [e_1 h, e_2 h]
theorem cBl (h : zE τ σ zLL) : zBl τ = zBl σ := by
  funext a b
  unfold zBl
  rw [e_1 h, e_2 h]
end ZQ
