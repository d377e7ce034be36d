/-! AREAS as sums over cells -/
theorem zSum_0 {F : Int → Int} (n : Nat) (h : ∀ c : Int, 0 ≤ c → c < n → F c = 0) : zSum F n = 0 := by
  have := zSum_b (F := F) (a := 0) (b := 0) n (fun c h0 h1 => by rw [h c h0 h1]; omega)
  omega
theorem zRs1 {σ : zMem} (hw : zHw σ) {f y x0 : Int} (hf : 0 ≤ f ∧ f < σ 0 0) (hy : 0 ≤ y ∧ y < σ 2 0) (hx : 0 ≤ x0) : ∀ n : Nat, x0 + n ≤ σ 1 0 → zSum (zFw σ f x0 (x0 + n - 1) y y) (zN σ).toNat = zW1 σ f y x0 n
  | 0, _ => by
    rw [zW1]
    refine zSum_0 _ (fun c _ _ => ?_)
    unfold zFw
    rw [if_neg (fun g => by have := g.2.1; omega)]
  | n + 1, h => by
    have hN := zHw_N hw
    have i := zRs1 hw hf hy hx n (by omega)
    have hX : 0 ≤ x0 + (n : Int) ∧ x0 + (n : Int) < σ 1 0 := by omega
    have ht := zCA_b hw hf hX hy
    have q := zUq (Z := f) hX hy
    have e : ∀ c : Int, 0 ≤ c → c < (zN σ).toNat → zFw σ f x0 (x0 + ((n + 1 : Nat) : Int) - 1) y y c = zU (zFw σ f x0 (x0 + n - 1) y y) ((f * σ 2 0 + y) * σ 1 0 + (x0 + n)) (σ 9 ((f * σ 2 0 + y) * σ 1 0 + (x0 + n))) c := by
      intro c h0 h1
      by_cases g : c = (f * σ 2 0 + y) * σ 1 0 + (x0 + n)
      · rw [← g, zU_s]
        rw [← g] at q
        unfold zFw
        rw [if_pos ⟨q.2.2.1, ⟨by omega, by omega⟩, ⟨by omega, by omega⟩⟩]
      · rw [zU_n g]
        obtain ⟨Z, Y, X, cX, cY, cZ, ce, eX, eY, eZ, -⟩ := zCo hw (c := c) (by omega)
        have n1 : ¬ (Z = f ∧ Y = y ∧ X = x0 + n) := fun p => g (by rw [ce, p.1, p.2.1, p.2.2])
        unfold zFw
        have k : zIn σ c f x0 (x0 + ((n + 1 : Nat) : Int) - 1) y y ↔ zIn σ c f x0 (x0 + n - 1) y y := by
          unfold zIn
          rw [eX, eY, eZ]
          constructor <;> intro p <;> omega
        by_cases p : zIn σ c f x0 (x0 + n - 1) y y
        · rw [if_pos p, if_pos (k.mpr p)]
        · rw [if_neg p, if_neg (fun r => p (k.mp r))]
    rw [zSum_cg _ e, zSum_U _ ht.1 (by omega), i, zW1]
    have z : zFw σ f x0 (x0 + n - 1) y y ((f * σ 2 0 + y) * σ 1 0 + (x0 + n)) = 0 := by
      unfold zFw
      rw [if_neg (fun g => by have := g.2.1.2; rw [q.1] at this; omega)]
    rw [z]; omega
theorem zRs2 {σ : zMem} (hw : zHw σ) {f x0 x1 y0 : Int} (hf : 0 ≤ f ∧ f < σ 0 0) (hx : 0 ≤ x0 ∧ x0 ≤ x1 + 1 ∧ x1 < σ 1 0) (hy : 0 ≤ y0) : ∀ m : Nat, y0 + m ≤ σ 2 0 → zSum (zFw σ f x0 x1 y0 (y0 + m - 1)) (zN σ).toNat = zW2 σ f x0 y0 (x1 - x0 + 1).toNat m
  | 0, _ => by
    rw [zW2]
    refine zSum_0 _ (fun c _ _ => ?_)
    unfold zFw
    rw [if_neg (fun g => by have := g.2.2; omega)]
  | m + 1, h => by
    have i := zRs2 hw hf hx hy m (by omega)
    have r := zRs1 hw hf (y := y0 + m) (by omega) hx.1 (x1 - x0 + 1).toNat (by omega)
    rw [show x0 + ((x1 - x0 + 1).toNat : Int) - 1 = x1 by omega] at r
    rw [zW2, ← i, ← r, ← zSum_add]
    refine zSum_cg _ (fun c _ _ => ?_)
    unfold zFw zIn
    generalize c / (σ 1 0 * σ 2 0) = Z
    generalize c % σ 1 0 = X
    generalize c / σ 1 0 % σ 2 0 = Y
    generalize σ 9 c = v
    by_cases a : Z = f ∧ (x0 ≤ X ∧ X ≤ x1) ∧ y0 ≤ Y ∧ Y ≤ y0 + m - 1
    · rw [if_pos (by omega), if_pos a, if_neg (by omega)]; omega
    · by_cases b : Z = f ∧ (x0 ≤ X ∧ X ≤ x1) ∧ y0 + (m : Int) ≤ Y ∧ Y ≤ y0 + m
      · rw [if_pos (by omega), if_neg a, if_pos b]; omega
      · rw [if_neg (by omega), if_neg a, if_neg b]; omega
theorem zRs_e {σ : zMem} (hw : zHw σ) {f x0 x1 y0 y1 : Int} (h : zIsA σ f x0 x1 y0 y1) : zW2 σ f x0 y0 (x1 - x0 + 1).toNat (y1 - y0 + 1).toNat = zSum (zFw σ f x0 x1 y0 y1) (zN σ).toNat := by
  unfold zIsA at h
  have r := zRs2 hw h.1 (x0 := x0) (x1 := x1) (by omega) (y0 := y0) (by omega) (y1 - y0 + 1).toNat (by omega)
  rw [show y0 + ((y1 - y0 + 1).toNat : Int) - 1 = y1 by omega] at r
  exact r.symm
theorem zW1_1 (σ : zMem) (f y x0 : Int) : ∀ n : Nat, zW1 (zS σ 9 (zC 1)) f y x0 n = n
  | 0 => rfl
  | n + 1 => by
    rw [zW1, zW1_1 σ f y x0 n]
    show (n : Int) + 1 = _
    omega
theorem zW2_1 (σ : zMem) (f x0 y0 : Int) (m : Nat) : ∀ k : Nat, zW2 (zS σ 9 (zC 1)) f x0 y0 m k = m * k
  | 0 => by rw [zW2]; omega
  | k + 1 => by
    rw [zW2, zW2_1 σ f x0 y0 m k, zW1_1, show ((k + 1 : Nat) : Int) = (k : Int) + 1 by omega, Int.mul_add, Int.mul_one]
theorem zRc {σ : zMem} (hw : zHw σ) {f x0 x1 y0 y1 : Int} (h : zIsA σ f x0 x1 y0 y1) : zSum (fun c => if zIn σ c f x0 x1 y0 y1 then (1 : Int) else 0) (zN σ).toNat = zEx x0 x1 y0 y1 := by
  have E : zE (zS σ 9 (zC 1)) σ [9] := zE_set zE_rf (by decide)
  have r := zRs_e (σ := zS σ 9 (zC 1)) (zHw_E E (by decide) (by decide) (by decide) hw) (f := f) (x0 := x0) (x1 := x1) (y0 := y0) (y1 := y1) h
  rw [zW2_1] at r
  unfold zIsA at h
  unfold zEx
  rw [show ((x1 - x0 + 1).toNat : Int) = x1 - x0 + 1 by omega, show ((y1 - y0 + 1).toNat : Int) = y1 - y0 + 1 by omega] at r
  exact r.symm
theorem zPr_s (σ : zMem) (k f x0 x1 y0 y1 : Int) : ∀ n : Nat, zPr σ k f x0 x1 y0 y1 n = zSum (fun c => if (zIn σ c f x0 x1 y0 y1 ↔ zIn σ c (σ 13 (5 * k)) (σ 13 (5 * k + 1)) (σ 13 (5 * k + 2)) (σ 13 (5 * k + 3)) (σ 13 (5 * k + 4))) then (0 : Int) else 1) n
  | 0 => rfl
  | n + 1 => by rw [zPr, zSum, zPr_s σ k f x0 x1 y0 y1 n]
theorem zPr_e {σ : zMem} (hw : zHw σ) {k f x0 x1 y0 y1 f' x0' x1' y0' y1' : Int} (e0 : σ 13 (5 * k) = f') (e1 : σ 13 (5 * k + 1) = x0') (e2 : σ 13 (5 * k + 2) = x1') (e3 : σ 13 (5 * k + 3) = y0') (e4 : σ 13 (5 * k + 4) = y1') (h : zIsA σ f x0 x1 y0 y1) (h' : zIsA σ f' x0' x1' y0' y1') : zPr σ k f x0 x1 y0 y1 (zN σ).toNat = zEx x0 x1 y0 y1 + zEx x0' x1' y0' y1' - 2 * zIb f x0 x1 y0 y1 f' x0' x1' y0' y1' := by
  have hN := zHw_N hw
  rw [zPr_s, e0, e1, e2, e3, e4, ← zRc hw h, ← zRc hw h']
  have key : zSum (fun c => if zIn σ c f x0 x1 y0 y1 ∧ zIn σ c f' x0' x1' y0' y1' then (1 : Int) else 0) (zN σ).toNat = zIb f x0 x1 y0 y1 f' x0' x1' y0' y1' := by
    unfold zIb
    unfold zIsA at h h'
    by_cases g : f = f' ∧ 0 < min x1 x1' - max x0 x0' + 1 ∧ 0 < min y1 y1' - max y0 y0' + 1
    · rw [if_pos g]
      have r := zRc hw (σ := σ) (f := f) (x0 := max x0 x0') (x1 := min x1 x1') (y0 := max y0 y0') (y1 := min y1 y1') ⟨h.1, by omega, by omega, by omega, by omega, by omega, by omega⟩
      unfold zEx at r
      rw [← r]
      refine zSum_cg _ (fun c _ _ => ?_)
      show (if _ then _ else _) = if _ then _ else _
      unfold zIn
      generalize c / (σ 1 0 * σ 2 0) = Z
      generalize c % σ 1 0 = X
      generalize c / σ 1 0 % σ 2 0 = Y
      by_cases p : Z = f ∧ (max x0 x0' ≤ X ∧ X ≤ min x1 x1') ∧ max y0 y0' ≤ Y ∧ Y ≤ min y1 y1'
      · rw [if_pos p, if_pos (by omega)]
      · rw [if_neg p, if_neg (by omega)]
    · rw [if_neg g]
      refine zSum_0 _ (fun c _ _ => ?_)
      show (if _ then _ else _) = _
      unfold zIn
      generalize c / (σ 1 0 * σ 2 0) = Z
      generalize c % σ 1 0 = X
      generalize c / σ 1 0 % σ 2 0 = Y
      rw [if_neg (by omega)]
  rw [← key]
  have e : ∀ c : Int, 0 ≤ c → c < (zN σ).toNat → (fun c => if (zIn σ c f x0 x1 y0 y1 ↔ zIn σ c f' x0' x1' y0' y1') then (0 : Int) else 1) c = (fun c => (if zIn σ c f x0 x1 y0 y1 then (1 : Int) else 0) + (fun c => (if zIn σ c f' x0' x1' y0' y1' then (1 : Int) else 0) + (fun c => (if zIn σ c f x0 x1 y0 y1 ∧ zIn σ c f' x0' x1' y0' y1' then (1 : Int) else 0) * (-2)) c) c) c := by
    intro c _ _
    show (if (zIn σ c f x0 x1 y0 y1 ↔ zIn σ c f' x0' x1' y0' y1') then (0 : Int) else 1) = (if zIn σ c f x0 x1 y0 y1 then (1 : Int) else 0) + ((if zIn σ c f' x0' x1' y0' y1' then (1 : Int) else 0) + (if zIn σ c f x0 x1 y0 y1 ∧ zIn σ c f' x0' x1' y0' y1' then (1 : Int) else 0) * (-2))
    by_cases p : zIn σ c f x0 x1 y0 y1 <;> by_cases q : zIn σ c f' x0' x1' y0' y1'
    · rw [if_pos ⟨fun _ => q, fun _ => p⟩, if_pos p, if_pos q, if_pos ⟨p, q⟩]; rfl
    · rw [if_neg (fun r => q (r.mp p)), if_pos p, if_neg q, if_neg (fun r => q r.2)]; rfl
    · rw [if_neg (fun r => p (r.mpr q)), if_neg p, if_pos q, if_neg (fun r => p r.1)]; rfl
    · rw [if_pos ⟨fun r => absurd r p, fun r => absurd r q⟩, if_neg p, if_neg q, if_neg (fun r => p r.1)]; rfl
  rw [zSum_cg _ e, zSum_add, zSum_add, zSum_mul]
  omega
/-- how many cells it takes: one number -/
theorem zSu_u {F : Int → Int} {n : Nat} {q : Int} {j k : Nat} (hj : j ≤ n) (hk : k ≤ n) (a : ∀ i : Nat, i < j → (zTk F n i).1 < q) (b : q ≤ (zTk F n j).1 ∨ j = n) (c : ∀ i : Nat, i < k → (zTk F n i).1 < q) (d : q ≤ (zTk F n k).1 ∨ k = n) : j = k := by
  rcases Nat.lt_trichotomy j k with g | g | g
  · have := c j g
    omega
  · exact g
  · have := a k g
    omega
theorem zTk_cg {F G : Int → Int} {n : Nat} (hn : 1 ≤ n) (h : ∀ c : Int, 0 ≤ c → c < n → F c = G c) : ∀ k : Nat, (zTk F n k).1 = (zTk G n k).1 ∧ ∀ c : Int, 0 ≤ c → c < n → (zTk F n k).2 c = (zTk G n k).2 c
  | 0 => ⟨rfl, h⟩
  | k + 1 => by
    obtain ⟨i1, i2⟩ := zTk_cg hn h k
    have m := zMx_cg n i2
    have b := zMx_b (zTk G n k).2 n
    rw [zTk, zTk]
    refine ⟨?_, fun c h0 h1 => ?_⟩
    · show (zTk F n k).1 + (zTk F n k).2 (zMx (zTk F n k).2 n) = (zTk G n k).1 + (zTk G n k).2 (zMx (zTk G n k).2 n)
      rw [i1, m, i2 _ b.1 (b.2 hn)]
    · show zU (zTk F n k).2 (zMx (zTk F n k).2 n) 0 c = zU (zTk G n k).2 (zMx (zTk G n k).2 n) 0 c
      rw [m]
      by_cases g : c = zMx (zTk G n k).2 n
      · rw [g, zU_s, zU_s]
      · rw [zU_n g, zU_n g, i2 c h0 h1]
