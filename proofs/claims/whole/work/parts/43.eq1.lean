/-! BOTH SIDES ALIKE: the table of steps, and how likely a step is -/
theorem zUq {w h Z Y X : Int} (hX : 0 ≤ X ∧ X < w) (hY : 0 ≤ Y ∧ Y < h) : ((Z * h + Y) * w + X) % w = X ∧ ((Z * h + Y) * w + X) / w % h = Y ∧ ((Z * h + Y) * w + X) / (w * h) = Z ∧ ((Z * h + Y) * w + X) % (w * h) = Y * w + X := by
  have e1 : ((Z * h + Y) * w + X) / w = Z * h + Y := by
    rw [Int.add_comm, Int.add_mul_ediv_right _ _ (by omega), Int.ediv_eq_zero_of_lt hX.1 hX.2, Int.zero_add]
  have e2 : (Z * h + Y) / h = Z := by
    rw [Int.add_comm, Int.add_mul_ediv_right _ _ (by omega), Int.ediv_eq_zero_of_lt hY.1 hY.2, Int.zero_add]
  have e3 : (Z * h + Y) % h = Y := by
    rw [Int.add_comm, Int.add_mul_emod_self_right, Int.emod_eq_of_lt hY.1 hY.2]
  have e4 : ((Z * h + Y) * w + X) / (w * h) = Z := by
    rw [← Int.ediv_ediv_of_nonneg (by omega), e1, e2]
  refine ⟨?_, ?_, e4, ?_⟩
  · rw [Int.add_comm, Int.add_mul_emod_self_right, Int.emod_eq_of_lt hX.1 hX.2]
  · rw [e1, e3]
  · have := Int.emod_add_mul_ediv ((Z * h + Y) * w + X) (w * h)
    rw [e4] at this
    have e5 : (Z * h + Y) * w = w * h * Z + Y * w := by
      rw [Int.add_mul, Int.mul_comm (Z * h) w, Int.mul_comm Z h, ← Int.mul_assoc]
    omega
theorem zUi {w h Z Y X Z' Y' X' : Int} (hX : 0 ≤ X ∧ X < w) (hY : 0 ≤ Y ∧ Y < h) (hX' : 0 ≤ X' ∧ X' < w) (hY' : 0 ≤ Y' ∧ Y' < h) (e : (Z * h + Y) * w + X = (Z' * h + Y') * w + X') : Z = Z' ∧ Y = Y' ∧ X = X' := by
  have a := zUq (Z := Z) hX hY
  have b := zUq (Z := Z') hX' hY'
  rw [e] at a
  exact ⟨a.2.2.1.symm.trans b.2.2.1, a.2.1.symm.trans b.2.1, a.1.symm.trans b.1⟩
theorem zUs {w h Z Y X : Int} : (Z * h + Y) * w + X + w = (Z * h + (Y + 1)) * w + X ∧ (Z * h + Y) * w + X + w * h = ((Z + 1) * h + Y) * w + X := by
  constructor
  · rw [← Int.add_assoc, Int.add_mul (Z * h + Y) 1 w, Int.one_mul]; omega
  · have : ((Z + 1) * h + Y) * w = (Z * h + Y) * w + w * h := by
      rw [Int.add_mul Z 1 h, Int.one_mul, show Z * h + h + Y = Z * h + Y + h by omega, Int.add_mul (Z * h + Y) h w, Int.mul_comm h w]
    omega
theorem zCo {σ : zMem} (hw : zHw σ) {c : Int} (hc : 0 ≤ c ∧ c < zN σ) : ∃ Z Y X : Int, (0 ≤ X ∧ X < σ 1 0) ∧ (0 ≤ Y ∧ Y < σ 2 0) ∧ (0 ≤ Z ∧ Z < σ 0 0) ∧ c = (Z * σ 2 0 + Y) * σ 1 0 + X ∧ c % σ 1 0 = X ∧ c / σ 1 0 % σ 2 0 = Y ∧ c / (σ 1 0 * σ 2 0) = Z ∧ c % (σ 1 0 * σ 2 0) = Y * σ 1 0 + X := by
  obtain ⟨hX, hY, hZ, e, -⟩ := zGeo hw hc
  have e2 : c = (c / (σ 1 0 * σ 2 0) * σ 2 0 + c / σ 1 0 % σ 2 0) * σ 1 0 + c % σ 1 0 := by
    have : (c / (σ 1 0 * σ 2 0) * σ 2 0 + c / σ 1 0 % σ 2 0) * σ 1 0 = c / (σ 1 0 * σ 2 0) * (σ 1 0 * σ 2 0) + c / σ 1 0 % σ 2 0 * σ 1 0 := by
      rw [Int.add_mul, Int.mul_assoc, Int.mul_comm (σ 2 0) (σ 1 0)]
    omega
  refine ⟨_, _, _, hX, hY, hZ, e2, rfl, rfl, rfl, ?_⟩
  have q := (zUq (Z := c / (σ 1 0 * σ 2 0)) hX hY).2.2.2
  rw [← e2] at q
  exact q
theorem zLy_lo {σ : zMem} {c b : Int} (h : c < b) : zLy σ c b = if zRt σ c b then (if σ 4 c = 0 then 2 else 0) else if zBl σ c b then (if σ 5 c = 0 then 2 else 0) else if b - c = σ 1 0 * σ 2 0 ∧ ¬ σ 6 (c % (σ 1 0 * σ 2 0)) = 0 then 1 else 0 := by
  unfold zLy
  rw [if_neg (by omega), show min c b = c by omega, show max c b = b by omega]
theorem zLy_sy (σ : zMem) (c b : Int) : zLy σ c b = zLy σ b c := by
  unfold zLy
  by_cases h : c = b
  · subst h; rfl
  · rw [if_neg h, if_neg (Ne.symm h), Int.min_comm, Int.max_comm]
theorem zLy_se (σ : zMem) (c : Int) : zLy σ c c = σ 3 0 := by
  unfold zLy
  rw [if_pos rfl]
theorem zLy_1 {σ : zMem} (hw : zHw σ) {c : Int} (hc : 0 ≤ c ∧ c < zN σ) (hx : c % σ 1 0 < σ 1 0 - 1) : zLy σ c (c + 1) = if σ 4 c = 0 then 2 else 0 := by
  obtain ⟨Z, Y, X, hX, hY, hZ, e, eX, eY, eZ, eP⟩ := zCo hw hc
  have q' := zUq (w := σ 1 0) (h := σ 2 0) (Z := Z) (X := X + 1) (by omega) hY
  have e' : c + 1 = (Z * σ 2 0 + Y) * σ 1 0 + (X + 1) := by omega
  have r : zRt σ c (c + 1) := ⟨by rw [eZ, e', q'.2.2.1], by rw [eY, e', q'.2.1], by rw [eX, e', q'.1]⟩
  rw [zLy_lo (by omega), if_pos r]
theorem zLy_2 {σ : zMem} (hw : zHw σ) {c : Int} (hc : 0 ≤ c ∧ c < zN σ) (hy : c / σ 1 0 % σ 2 0 < σ 2 0 - 1) : zLy σ c (c + σ 1 0) = if σ 5 c = 0 then 2 else 0 := by
  obtain ⟨Z, Y, X, hX, hY, hZ, e, eX, eY, eZ, eP⟩ := zCo hw hc
  have q' := zUq (w := σ 1 0) (h := σ 2 0) (Z := Z) (Y := Y + 1) hX (by omega)
  have e' : c + σ 1 0 = (Z * σ 2 0 + (Y + 1)) * σ 1 0 + X := by rw [← zUs.1, ← e]
  have n : ¬ zRt σ c (c + σ 1 0) := fun h => by
    have := h.2.2
    rw [eX, e', q'.1] at this
    omega
  have r : zBl σ c (c + σ 1 0) := ⟨by rw [eZ, e', q'.2.2.1], by rw [eX, e', q'.1], by rw [eY, e', q'.2.1]⟩
  rw [zLy_lo (by omega), if_neg n, if_pos r]
theorem zLy_3 {σ : zMem} (hw : zHw σ) {c : Int} (hc : 0 ≤ c ∧ c < zN σ) : zLy σ c (c + σ 1 0 * σ 2 0) = if σ 6 (c / σ 1 0 % σ 2 0 * σ 1 0 + c % σ 1 0) = 0 then 0 else 1 := by
  have hwh := zHw_wh hw
  obtain ⟨Z, Y, X, hX, hY, hZ, e, eX, eY, eZ, eP⟩ := zCo hw hc
  have q' := zUq (w := σ 1 0) (h := σ 2 0) (Z := Z + 1) hX hY
  have e' : c + σ 1 0 * σ 2 0 = ((Z + 1) * σ 2 0 + Y) * σ 1 0 + X := by rw [← zUs.2, ← e]
  have n : ¬ zRt σ c (c + σ 1 0 * σ 2 0) := fun h => by
    have := h.1
    rw [eZ, e', q'.2.2.1] at this
    omega
  have n2 : ¬ zBl σ c (c + σ 1 0 * σ 2 0) := fun h => by
    have := h.1
    rw [eZ, e', q'.2.2.1] at this
    omega
  rw [zLy_lo (by omega), if_neg n, if_neg n2, eP, eX, eY]
  by_cases h : σ 6 (Y * σ 1 0 + X) = 0
  · rw [if_pos h, if_neg (fun g => g.2 h)]
  · rw [if_neg h, if_pos ⟨by omega, h⟩]
theorem zLy_4 {σ : zMem} (hw : zHw σ) {c b : Int} (hc : 0 ≤ c ∧ c < zN σ) (hb : 0 ≤ b ∧ b < zN σ) (hlt : c < b) (h : 0 < zLy σ c b) : (b = c + 1 ∧ c % σ 1 0 < σ 1 0 - 1 ∧ σ 4 c = 0) ∨ (b = c + σ 1 0 ∧ c / σ 1 0 % σ 2 0 < σ 2 0 - 1 ∧ σ 5 c = 0) ∨ (b = c + σ 1 0 * σ 2 0 ∧ ¬ σ 6 (c / σ 1 0 % σ 2 0 * σ 1 0 + c % σ 1 0) = 0 ∧ c / (σ 1 0 * σ 2 0) < σ 0 0 - 1) := by
  obtain ⟨Z, Y, X, hX, hY, hZ, e, eX, eY, eZ, eP⟩ := zCo hw hc
  obtain ⟨Z', Y', X', hX', hY', hZ', e', eX', eY', eZ', eP'⟩ := zCo hw hb
  rw [zLy_lo hlt] at h
  split at h
  · rename_i r
    have r1 := r.1
    have r2 := r.2.1
    have r3 := r.2.2
    rw [eZ, eZ'] at r1
    rw [eY, eY'] at r2
    rw [eX, eX'] at r3
    subst r1; subst r2; subst r3
    refine Or.inl ⟨by omega, by omega, ?_⟩
    by_cases g : σ 4 c = 0
    · exact g
    · rw [if_neg g] at h; omega
  · split at h
    · rename_i r
      have r1 := r.1
      have r2 := r.2.1
      have r3 := r.2.2
      rw [eZ, eZ'] at r1
      rw [eX, eX'] at r2
      rw [eY, eY'] at r3
      subst r1; subst r2; subst r3
      refine Or.inr (Or.inl ⟨by rw [e, zUs.1]; exact e', by omega, ?_⟩)
      by_cases g : σ 5 c = 0
      · exact g
      · rw [if_neg g] at h; omega
    · split at h
      · rename_i r
        obtain ⟨r1, r2⟩ := r
        have r3 : b = c + σ 1 0 * σ 2 0 := by omega
        have r4 : (Z' * σ 2 0 + Y') * σ 1 0 + X' = ((Z + 1) * σ 2 0 + Y) * σ 1 0 + X := by
          rw [← e', r3, e]; exact zUs.2
        have r5 := zUi hX' hY' hX hY r4
        rw [eP] at r2
        exact Or.inr (Or.inr ⟨r3, by rw [eX, eY]; exact r2, by omega⟩)
      · omega
/-- where the directions lead -/
theorem zTB {σ : zMem} {c d : Int} (hd : 0 ≤ d ∧ d < 7) (h : 0 ≤ zTg σ c d) : (d = 0 ∧ zTg σ c d = c - σ 1 0 * σ 2 0 ∧ 0 < c / (σ 1 0 * σ 2 0) ∧ ¬ σ 6 (c / σ 1 0 % σ 2 0 * σ 1 0 + c % σ 1 0) = 0) ∨ (d = 1 ∧ zTg σ c d = c - σ 1 0 ∧ 0 < c / σ 1 0 % σ 2 0 ∧ σ 5 (c - σ 1 0) = 0) ∨ (d = 2 ∧ zTg σ c d = c - 1 ∧ 0 < c % σ 1 0 ∧ σ 4 (c - 1) = 0) ∨ (d = 3 ∧ zTg σ c d = c ∧ 0 < σ 3 0) ∨ (d = 4 ∧ zTg σ c d = c + 1 ∧ c % σ 1 0 < σ 1 0 - 1 ∧ σ 4 c = 0) ∨ (d = 5 ∧ zTg σ c d = c + σ 1 0 ∧ c / σ 1 0 % σ 2 0 < σ 2 0 - 1 ∧ σ 5 c = 0) ∨ (d = 6 ∧ zTg σ c d = c + σ 1 0 * σ 2 0 ∧ ¬ σ 6 (c / σ 1 0 % σ 2 0 * σ 1 0 + c % σ 1 0) = 0 ∧ c / (σ 1 0 * σ 2 0) < σ 0 0 - 1) := by
  rcases (show d = 0 ∨ d = 1 ∨ d = 2 ∨ d = 3 ∨ d = 4 ∨ d = 5 ∨ d = 6 by omega) with rfl | rfl | rfl | rfl | rfl | rfl | rfl
  · refine Or.inl ⟨rfl, ?_⟩
    rw [show zTg σ c 0 = zT0 σ c from rfl] at h ⊢
    unfold zT0 at h ⊢
    split at h
    · rename_i r; rw [if_pos r]; exact ⟨rfl, r.2, r.1⟩
    · omega
  · refine Or.inr (Or.inl ⟨rfl, ?_⟩)
    rw [show zTg σ c 1 = zT1 σ c from rfl] at h ⊢
    unfold zT1 at h ⊢
    split at h
    · rename_i r; rw [if_pos r]; exact ⟨rfl, r.1, r.2⟩
    · omega
  · refine Or.inr (Or.inr (Or.inl ⟨rfl, ?_⟩))
    rw [show zTg σ c 2 = zT2 σ c from rfl] at h ⊢
    unfold zT2 at h ⊢
    split at h
    · rename_i r; rw [if_pos r]; exact ⟨rfl, r.1, r.2⟩
    · omega
  · refine Or.inr (Or.inr (Or.inr (Or.inl ⟨rfl, ?_⟩)))
    rw [show zTg σ c 3 = zT3 σ c from rfl] at h ⊢
    unfold zT3 at h ⊢
    split at h
    · rename_i r; rw [if_pos r]; exact ⟨rfl, r⟩
    · omega
  · refine Or.inr (Or.inr (Or.inr (Or.inr (Or.inl ⟨rfl, ?_⟩))))
    rw [show zTg σ c 4 = zT4 σ c from rfl] at h ⊢
    unfold zT4 at h ⊢
    split at h
    · rename_i r; rw [if_pos r]; exact ⟨rfl, r.1, r.2⟩
    · omega
  · refine Or.inr (Or.inr (Or.inr (Or.inr (Or.inr (Or.inl ⟨rfl, ?_⟩)))))
    rw [show zTg σ c 5 = zT5 σ c from rfl] at h ⊢
    unfold zT5 at h ⊢
    split at h
    · rename_i r; rw [if_pos r]; exact ⟨rfl, r.1, r.2⟩
    · omega
  · refine Or.inr (Or.inr (Or.inr (Or.inr (Or.inr (Or.inr ⟨rfl, ?_⟩)))))
    rw [show zTg σ c 6 = zT6 σ c from rfl] at h ⊢
    unfold zT6 at h ⊢
    split at h
    · rename_i r; rw [if_pos r]; exact ⟨rfl, r.1, r.2⟩
    · omega
/-- one step down -/
theorem zDn {σ : zMem} (hw : zHw σ) {c : Int} (hc : 0 ≤ c ∧ c < zN σ) : (0 < c % σ 1 0 → 1 ≤ c ∧ (c - 1) % σ 1 0 < σ 1 0 - 1) ∧ (0 < c / σ 1 0 % σ 2 0 → σ 1 0 ≤ c ∧ (c - σ 1 0) / σ 1 0 % σ 2 0 < σ 2 0 - 1) ∧ (0 < c / (σ 1 0 * σ 2 0) → σ 1 0 * σ 2 0 ≤ c ∧ (c - σ 1 0 * σ 2 0) / σ 1 0 % σ 2 0 * σ 1 0 + (c - σ 1 0 * σ 2 0) % σ 1 0 = c / σ 1 0 % σ 2 0 * σ 1 0 + c % σ 1 0 ∧ (c - σ 1 0 * σ 2 0) / (σ 1 0 * σ 2 0) < σ 0 0 - 1) := by
  have hwh := zHw_wh hw
  have hW := hw
  unfold zHw at hW
  obtain ⟨Z, Y, X, hX, hY, hZ, e, eX, eY, eZ, eP⟩ := zCo hw hc
  rw [eX, eY, eZ]
  refine ⟨fun p => ?_, fun p => ?_, fun p => ?_⟩
  · have q := zUq (w := σ 1 0) (h := σ 2 0) (Z := Z) (X := X - 1) (by omega) hY
    have e' : c - 1 = (Z * σ 2 0 + Y) * σ 1 0 + (X - 1) := by omega
    refine ⟨?_, by rw [e', q.1]; omega⟩
    have a : 0 ≤ Z * σ 2 0 := Int.mul_nonneg hZ.1 (by omega)
    have b : 0 ≤ (Z * σ 2 0 + Y) * σ 1 0 := Int.mul_nonneg (by omega) (by omega)
    omega
  · have q := zUq (w := σ 1 0) (h := σ 2 0) (Z := Z) (Y := Y - 1) hX (by omega)
    have s := (zUs (w := σ 1 0) (h := σ 2 0) (Z := Z) (Y := Y - 1) (X := X)).1
    rw [show Y - 1 + 1 = Y by omega, ← e] at s
    have e' : c - σ 1 0 = (Z * σ 2 0 + (Y - 1)) * σ 1 0 + X := by omega
    refine ⟨?_, by rw [e', q.2.1]; omega⟩
    have a : 0 ≤ Z * σ 2 0 := Int.mul_nonneg hZ.1 (by omega)
    have b : 0 ≤ (Z * σ 2 0 + (Y - 1)) * σ 1 0 := Int.mul_nonneg (by omega) (by omega)
    omega
  · have q := zUq (w := σ 1 0) (h := σ 2 0) (Z := Z - 1) hX hY
    have s := (zUs (w := σ 1 0) (h := σ 2 0) (Z := Z - 1) (Y := Y) (X := X)).2
    rw [show Z - 1 + 1 = Z by omega, ← e] at s
    have e' : c - σ 1 0 * σ 2 0 = ((Z - 1) * σ 2 0 + Y) * σ 1 0 + X := by omega
    refine ⟨?_, by rw [e', q.1, q.2.1], by rw [e', q.2.2.1]; omega⟩
    have a : 0 ≤ (Z - 1) * σ 2 0 := Int.mul_nonneg (by omega) (by omega)
    have b : 0 ≤ ((Z - 1) * σ 2 0 + Y) * σ 1 0 := Int.mul_nonneg (by omega) (by omega)
    omega
theorem zLik_p {σ : zMem} {d : Int} (h : ¬ d = 3) : 0 < zLik σ d := by
  unfold zLik
  rw [if_neg h]
  split <;> decide
theorem zTg_l {σ : zMem} (hw : zHw σ) {c : Int} (hc : 0 ≤ c ∧ c < zN σ) {d : Int} (hd : 0 ≤ d ∧ d < 7) (h : 0 ≤ zTg σ c d) : zLy σ c (zTg σ c d) = zLik σ d ∧ 0 < zLik σ d := by
  obtain ⟨d1, d2, d3⟩ := zDn hw hc
  have hwh := zHw_wh hw
  have hW := hw
  unfold zHw at hW
  rcases zTB hd h with ⟨rfl, e, g1, g2⟩ | ⟨rfl, e, g1, g2⟩ | ⟨rfl, e, g1, g2⟩ | ⟨rfl, e, g1⟩ | ⟨rfl, e, g1, g2⟩ | ⟨rfl, e, g1, g2⟩ | ⟨rfl, e, g1, g2⟩
  · obtain ⟨k1, k2, k3⟩ := d3 g1
    have := zLy_3 hw (c := c - σ 1 0 * σ 2 0) (by omega)
    rw [show c - σ 1 0 * σ 2 0 + σ 1 0 * σ 2 0 = c by omega, k2, if_neg g2] at this
    rw [e, zLy_sy, this]
    exact ⟨rfl, zLik_p (by decide)⟩
  · obtain ⟨k1, k2⟩ := d2 g1
    have := zLy_2 hw (c := c - σ 1 0) (by omega) k2
    rw [show c - σ 1 0 + σ 1 0 = c by omega, if_pos g2] at this
    rw [e, zLy_sy, this]
    exact ⟨rfl, zLik_p (by decide)⟩
  · obtain ⟨k1, k2⟩ := d1 g1
    have := zLy_1 hw (c := c - 1) (by omega) k2
    rw [show c - 1 + 1 = c by omega, if_pos g2] at this
    rw [e, zLy_sy, this]
    exact ⟨rfl, zLik_p (by decide)⟩
  · rw [e, zLy_se]
    exact ⟨rfl, g1⟩
  · rw [e, zLy_1 hw hc g1, if_pos g2]
    exact ⟨rfl, zLik_p (by decide)⟩
  · rw [e, zLy_2 hw hc g1, if_pos g2]
    exact ⟨rfl, zLik_p (by decide)⟩
  · rw [e, zLy_3 hw hc, if_neg g1]
    exact ⟨rfl, zLik_p (by decide)⟩
theorem zTg_s {σ : zMem} (hw : zHw σ) {c b : Int} (hc : 0 ≤ c ∧ c < zN σ) (hb : 0 ≤ b ∧ b < zN σ) (h : 0 < zLy σ c b) : ∃ d : Int, (0 ≤ d ∧ d < 7) ∧ zTg σ c d = b := by
  have hwh := zHw_wh hw
  have hW := hw
  unfold zHw at hW
  rcases Int.lt_trichotomy c b with g | g | g
  · rcases zLy_4 hw hc hb g h with ⟨e, g1, g2⟩ | ⟨e, g1, g2⟩ | ⟨e, g1, g2⟩
    · refine ⟨4, by decide, ?_⟩
      show zT4 σ c = b
      unfold zT4
      rw [if_pos ⟨g1, g2⟩, e]
    · refine ⟨5, by decide, ?_⟩
      show zT5 σ c = b
      unfold zT5
      rw [if_pos ⟨g1, g2⟩, e]
    · refine ⟨6, by decide, ?_⟩
      show zT6 σ c = b
      unfold zT6
      rw [if_pos ⟨g1, g2⟩, e]
  · subst g
    rw [zLy_se] at h
    refine ⟨3, by decide, ?_⟩
    show zT3 σ c = c
    unfold zT3
    rw [if_pos h]
  · rw [zLy_sy] at h
    obtain ⟨Z, Y, X, hX, hY, hZ, e, eX, eY, eZ, eP⟩ := zCo hw hb
    rcases zLy_4 hw hb hc g h with ⟨e1, g1, g2⟩ | ⟨e1, g1, g2⟩ | ⟨e1, g1, g2⟩
    · refine ⟨2, by decide, ?_⟩
      show zT2 σ c = b
      unfold zT2
      have q := (zUq (w := σ 1 0) (h := σ 2 0) (Z := Z) (X := X + 1) (by omega) hY).1
      rw [show (Z * σ 2 0 + Y) * σ 1 0 + (X + 1) = c by omega] at q
      rw [if_pos ⟨by omega, by rw [show c - 1 = b by omega]; exact g2⟩]
      omega
    · refine ⟨1, by decide, ?_⟩
      show zT1 σ c = b
      unfold zT1
      have q := (zUq (w := σ 1 0) (h := σ 2 0) (Z := Z) (Y := Y + 1) hX (by omega)).2.1
      rw [← zUs.1, ← e, ← e1] at q
      rw [if_pos ⟨by omega, by rw [show c - σ 1 0 = b by omega]; exact g2⟩]
      omega
    · refine ⟨0, by decide, ?_⟩
      show zT0 σ c = b
      unfold zT0
      have q := zUq (w := σ 1 0) (h := σ 2 0) (Z := Z + 1) hX hY
      rw [← zUs.2, ← e, ← e1] at q
      rw [q.1, q.2.1, q.2.2.1]
      rw [eX, eY] at g1
      rw [if_pos ⟨g1, by omega⟩]
      omega
theorem zTB2 {σ : zMem} (hw : zHw σ) {c d : Int} (hd : 0 ≤ d ∧ d < 7) (h : 0 ≤ zTg σ c d) : (d = 0 ∧ zTg σ c d = c - σ 1 0 * σ 2 0) ∨ (d = 1 ∧ zTg σ c d = c - σ 1 0 ∧ 2 ≤ σ 2 0) ∨ (d = 2 ∧ zTg σ c d = c - 1 ∧ 2 ≤ σ 1 0) ∨ (d = 3 ∧ zTg σ c d = c) ∨ (d = 4 ∧ zTg σ c d = c + 1 ∧ 2 ≤ σ 1 0) ∨ (d = 5 ∧ zTg σ c d = c + σ 1 0 ∧ 2 ≤ σ 2 0) ∨ (d = 6 ∧ zTg σ c d = c + σ 1 0 * σ 2 0) := by
  have hW := hw
  unfold zHw at hW
  have b1 := Int.emod_nonneg c (show σ 1 0 ≠ 0 by omega)
  have b2 := Int.emod_lt_of_pos c (show 0 < σ 1 0 by omega)
  have b3 := Int.emod_nonneg (c / σ 1 0) (show σ 2 0 ≠ 0 by omega)
  have b4 := Int.emod_lt_of_pos (c / σ 1 0) (show 0 < σ 2 0 by omega)
  rcases zTB hd h with ⟨a, e, g1, g2⟩ | ⟨a, e, g1, g2⟩ | ⟨a, e, g1, g2⟩ | ⟨a, e, g1⟩ | ⟨a, e, g1, g2⟩ | ⟨a, e, g1, g2⟩ | ⟨a, e, g1, g2⟩
  · exact Or.inl ⟨a, e⟩
  · exact Or.inr (Or.inl ⟨a, e, by omega⟩)
  · exact Or.inr (Or.inr (Or.inl ⟨a, e, by omega⟩))
  · exact Or.inr (Or.inr (Or.inr (Or.inl ⟨a, e⟩)))
  · exact Or.inr (Or.inr (Or.inr (Or.inr (Or.inl ⟨a, e, by omega⟩))))
  · exact Or.inr (Or.inr (Or.inr (Or.inr (Or.inr (Or.inl ⟨a, e, by omega⟩)))))
  · exact Or.inr (Or.inr (Or.inr (Or.inr (Or.inr (Or.inr ⟨a, e⟩)))))
theorem zTg_o {σ : zMem} (hw : zHw σ) {c d e : Int} (hd : 0 ≤ d) (hde : d < e) (he : e < 7) (h1 : 0 ≤ zTg σ c d) (h2 : 0 ≤ zTg σ c e) : zTg σ c d < zTg σ c e := by
  have hwh := zHw_wh hw
  have hW := hw
  unfold zHw at hW
  have m1 : σ 1 0 * 1 ≤ σ 1 0 * σ 2 0 := Int.mul_le_mul_of_nonneg_left (by omega) (by omega)
  have m2 : 2 ≤ σ 2 0 → σ 1 0 * 2 ≤ σ 1 0 * σ 2 0 := fun q => Int.mul_le_mul_of_nonneg_left q (by omega)
  have k1 := zTB2 hw ⟨hd, by omega⟩ h1
  have k2 := zTB2 hw ⟨by omega, he⟩ h2
  generalize zTg σ c d = t1 at k1 ⊢
  generalize zTg σ c e = t2 at k2 ⊢
  rcases k1 with k1 | k1 | k1 | k1 | k1 | k1 | k1 <;> rcases k2 with k2 | k2 | k2 | k2 | k2 | k2 | k2 <;> omega
/-! sums over a table of cells -/
def zSf (φ T : Int → Int) : Nat → Int → Int
  | 0 => zC 0
  | n + 1 => if 0 ≤ T n then zU (zSf φ T n) (T n) (φ (T n)) else zSf φ T n
def zSs (φ T : Int → Int) : Nat → Int
  | 0 => 0
  | n + 1 => zSs φ T n + if 0 ≤ T n then φ (T n) else 0
theorem zSf_0 {φ T : Int → Int} {b : Int} : ∀ n : Nat, (∀ d : Int, 0 ≤ d → d < n → ¬ T d = b) → zSf φ T n b = 0
  | 0, _ => rfl
  | n + 1, h => by
    have i := zSf_0 (φ := φ) n (fun d h0 h1 => h d h0 (by omega))
    unfold zSf
    split
    · rw [zU_n (Ne.symm (h n (by omega) (by omega)))]; exact i
    · exact i
theorem zSf_1 {φ T : Int → Int} {b : Int} (hb : 0 ≤ b) : ∀ n : Nat, (∃ d : Int, (0 ≤ d ∧ d < n) ∧ T d = b) → zSf φ T n b = φ b
  | 0, ⟨d, h, _⟩ => by omega
  | n + 1, ⟨d, h, e⟩ => by
    unfold zSf
    by_cases g : T n = b
    · rw [if_pos (by omega), g, zU_s]
    · have hd : d < n := by
        rcases Int.lt_or_le d n with q | q
        · exact q
        · exact absurd e (by rw [show d = (n : Int) by omega]; exact g)
      have i := zSf_1 (φ := φ) hb n ⟨d, ⟨h.1, hd⟩, e⟩
      split
      · rw [zU_n (Ne.symm g)]; exact i
      · exact i
theorem zSf_s {φ T : Int → Int} {N : Nat} : ∀ n : Nat, (∀ d e : Int, 0 ≤ d → d < e → e < n → 0 ≤ T d → 0 ≤ T e → ¬ T d = T e) → (∀ d : Int, 0 ≤ d → d < n → T d < N) → zSum (zSf φ T n) N = zSs φ T n
  | 0, _, _ => by
    show zSum (zC 0) N = 0
    have := zSum_b (F := zC 0) (a := 0) (b := 0) N (fun _ _ _ => ⟨Int.le_refl _, Int.le_refl _⟩)
    omega
  | n + 1, h, hN => by
    have i := zSf_s n (fun d e a b c => h d e a b (by omega)) (fun d a b => hN d a (by omega)) (φ := φ)
    unfold zSf zSs
    split
    · rename_i g
      rw [zSum_U N g (hN n (by omega) (by omega)), i]
      have z : zSf φ T n (T n) = 0 := by
        refine zSf_0 n (fun d h0 h1 e => ?_)
        exact h d n h0 h1 (by omega) (by omega) g e
      rw [z]; omega
    · rw [i]; omega
/-- the table's row of a cell -/
def zTr (σ : zMem) (c : Int) : Int → Int := fun d => σ 33 (c * 7 + d)
theorem zTr_g {σ : zMem} (ht : zTb σ) {c : Int} (hc : 0 ≤ c ∧ c < zN σ) {d : Int} (h0 : 0 ≤ d) (h1 : d < 7) : zTr σ c d = zTg σ c d := ht c hc.1 hc.2 d h0 h1
theorem zTr_x {σ : zMem} (hw : zHw σ) (hs : 0 ≤ σ 3 0 ∧ σ 3 0 ≤ 9) (ht : zTb σ) {c : Int} (hc : 0 ≤ c ∧ c < zN σ) {b : Int} (hb : 0 ≤ b ∧ b < zN σ) : (∃ d : Int, (0 ≤ d ∧ d < 7) ∧ zTr σ c d = b) ∨ (zLy σ c b = 0 ∧ ∀ d : Int, 0 ≤ d → d < 7 → ¬ zTr σ c d = b) := by
  by_cases h : ∃ d : Int, (0 ≤ d ∧ d < 7) ∧ zTr σ c d = b
  · exact Or.inl h
  · refine Or.inr ⟨?_, fun d h0 h1 e => h ⟨d, ⟨h0, h1⟩, e⟩⟩
    have p := zLy_b hs c b
    rcases Int.lt_or_le 0 (zLy σ c b) with q | q
    · obtain ⟨d, h0, h1⟩ := zTg_s hw hc hb q
      exact absurd ⟨d, h0, by rw [zTr_g ht hc h0.1 h0.2]; exact h1⟩ h
    · omega
theorem zTr_f {σ : zMem} (hw : zHw σ) (hs : 0 ≤ σ 3 0 ∧ σ 3 0 ≤ 9) (ht : zTb σ) {c : Int} (hc : 0 ≤ c ∧ c < zN σ) (φ : Int → Int) {b : Int} (hb : 0 ≤ b ∧ b < zN σ) (hz : zLy σ c b = 0 → φ b = 0) : zSf φ (zTr σ c) 7 b = φ b := by
  rcases zTr_x hw hs ht hc hb with ⟨d, h0, h1⟩ | ⟨z, h⟩
  · exact zSf_1 hb.1 7 ⟨d, by omega, h1⟩
  · rw [hz z]
    exact zSf_0 7 (fun d h0 h1 => h d h0 (by omega))
theorem zTr_i {σ : zMem} (hw : zHw σ) (ht : zTb σ) {c : Int} (hc : 0 ≤ c ∧ c < zN σ) {d e : Int} (h0 : 0 ≤ d) (h1 : d < e) (h2 : e < 7) (a : 0 ≤ zTr σ c d) (b : 0 ≤ zTr σ c e) : zTr σ c d < zTr σ c e := by
  rw [zTr_g ht hc h0 (by omega)] at a ⊢
  rw [zTr_g ht hc (by omega) h2] at b ⊢
  exact zTg_o hw h0 h1 h2 a b
theorem zTr_b {σ : zMem} (hw : zHw σ) (ht : zTb σ) {c : Int} (hc : 0 ≤ c ∧ c < zN σ) {d : Int} (h0 : 0 ≤ d) (h1 : d < 7) : zTr σ c d = -1 ∨ (0 ≤ zTr σ c d ∧ zTr σ c d < zN σ) := by
  rw [zTr_g ht hc h0 h1]
  exact zTg_b hw hc ⟨h0, h1⟩
theorem zTr_l {σ : zMem} (hw : zHw σ) (ht : zTb σ) {c : Int} (hc : 0 ≤ c ∧ c < zN σ) {d : Int} (h0 : 0 ≤ d) (h1 : d < 7) (a : 0 ≤ zTr σ c d) : zLy σ c (zTr σ c d) = zLik σ d ∧ 0 < zLik σ d := by
  rw [zTr_g ht hc h0 h1] at a ⊢
  exact zTg_l hw hc ⟨h0, h1⟩ a
theorem zAll_s {σ : zMem} (hw : zHw σ) (ht : zTb σ) {c : Int} (hc : 0 ≤ c ∧ c < zN σ) : ∀ n : Nat, n ≤ 7 → zAll σ c n = zSs (zLo σ c) (zTr σ c) n
  | 0, _ => rfl
  | n + 1, h => by
    have i := zAll_s hw ht hc n (by omega)
    have b := zTr_b hw ht hc (d := n) (by omega) (by omega)
    have l := zTr_l hw ht hc (d := n) (by omega) (by omega)
    unfold zAll zSs
    rw [i]
    show _ + (if zTr σ c n = -1 then 0 else zLik σ n) = _ + if 0 ≤ zTr σ c n then zLo σ c (zTr σ c n) else 0
    by_cases g : 0 ≤ zTr σ c n
    · rw [if_neg (by omega), if_pos g]
      show _ + zLik σ n = _ + zLy σ c (zTr σ c n)
      rw [(l g).1]
    · rw [if_pos (by omega), if_neg g]
theorem zAll_e {σ : zMem} (hw : zHw σ) (hs : 0 ≤ σ 3 0 ∧ σ 3 0 ≤ 9) (ht : zTb σ) {c : Int} (hc : 0 ≤ c ∧ c < zN σ) : zAll σ c 7 = zSum (zLo σ c) (zN σ).toNat := by
  have hN := zHw_N hw
  rw [zAll_s hw ht hc 7 (Nat.le_refl _), ← zSf_s (N := (zN σ).toNat) 7 (fun d e h0 h1 h2 a b q => by have := zTr_i hw ht hc h0 h1 (by omega) a b; omega) (fun d h0 h1 => by
    rcases zTr_b hw ht hc (d := d) h0 (by omega) with q | q <;> omega)]
  exact zSum_cg _ (fun b h0 h1 => zTr_f hw hs ht hc _ (by omega) (fun q => q))
theorem zSp_f {σ : zMem} (hw : zHw σ) (ht : zTb σ) {c : Int} (hc : 0 ≤ c ∧ c < zN σ) (lv all : Int) (F : Int → Int) : ∀ n : Nat, n ≤ 7 → ∀ b : Int, zSp σ c lv all F n b = F b + zSf (fun b => lv * zLy σ c b / all) (zTr σ c) n b
  | 0, _, b => by show F b = F b + 0; omega
  | n + 1, h, b => by
    have i := zSp_f hw ht hc lv all F n (by omega)
    have r := zTr_b hw ht hc (d := n) (by omega) (by omega)
    have l := zTr_l hw ht hc (d := n) (by omega) (by omega)
    unfold zSp zSf
    show (if 0 ≤ zTr σ c n ∧ zTr σ c n < zN σ then zU (zSp σ c lv all F n) (zTr σ c n) (zSp σ c lv all F n (zTr σ c n) + lv * zLik σ n / all) else zSp σ c lv all F n) b = _
    by_cases g : 0 ≤ zTr σ c n
    · rw [if_pos (by omega), if_pos g]
      have z : zSf (fun b => lv * zLy σ c b / all) (zTr σ c) n (zTr σ c n) = 0 := zSf_0 n (fun d h0 h1 e => by
        have := zTr_i hw ht hc h0 h1 (by omega) (by omega) g
        omega)
      by_cases q : b = zTr σ c n
      · subst q
        rw [zU_s, zU_s, i, z, (l g).1]
        omega
      · rw [zU_n q, zU_n q, i]
    · rw [if_neg (by omega), if_neg g, i]
/-- what leads out of all cells: by the table, by the likely numbers -/
theorem zLw_e {σ : zMem} (hw : zHw σ) (hs : 0 ≤ σ 3 0 ∧ σ 3 0 ≤ 9) (ht : zTb σ) : ∀ n : Nat, (n : Int) ≤ zN σ → ∀ b : Int, 0 ≤ b → b < zN σ → zLw σ n b = zLr σ n b
  | 0, _, b, _, _ => rfl
  | n + 1, h, b, h0, h1 => by
    have i := zLw_e hw hs ht n (by omega)
    have hc : 0 ≤ (n : Int) ∧ (n : Int) < zN σ := by omega
    have e := zAll_e hw hs ht hc
    have p := zAll_b hs n 7
    unfold zLw zLr
    rw [← e]
    by_cases g : zAll σ n 7 = 0
    · rw [if_pos (by omega), if_pos g]
      by_cases q : b = n
      · subst q; rw [zU_s, zU_s, i _ h0 h1]; omega
      · rw [zU_n q, zU_n q, i _ h0 h1]
    · rw [if_neg (by omega), if_neg g, zSp_f hw ht hc _ _ _ 7 (Nat.le_refl _), zTr_f hw hs ht hc _ ⟨h0, h1⟩ (fun z => by rw [z, Int.mul_zero, Int.zero_ediv]), i _ h0 h1]
      unfold zLt
      rw [Int.mul_comm (σ 9 n) 1000]
theorem zL1_e {σ : zMem} (hw : zHw σ) (hs : 0 ≤ σ 3 0 ∧ σ 3 0 ≤ 9) (ht : zTb σ) {F : Int → Int} (hF : ∀ c, 0 ≤ c → c < zN σ → 0 ≤ F c ∧ F c ≤ 1000000) : ∀ c, 0 ≤ c → c < zN σ → zL1 σ F c = zM1 σ F c := by
  have hN := zHw_N hw
  have E : zE (zS σ 9 F) σ [9] := zE_set zE_rf (by decide)
  have hw9 : zHw (zS σ 9 F) := zHw_E E (by decide) (by decide) (by decide) hw
  have eN : zN (zS σ 9 F) = zN σ := zN_E E (by decide) (by decide) (by decide)
  have e := zLw_e hw9 hs (zTb_E E (by decide) (by decide) (by decide) (by decide) (by decide) (by decide) (by decide) (by decide) ht) (zN σ).toNat (by omega)
  rw [eN] at e
  have p := zLr_b (σ := zS σ 9 F) hs (zN σ).toNat (fun c h0 h1 => hF c h0 (by omega))
  have eS : zSum (zLw (zS σ 9 F) (zN σ).toNat) (zN σ).toNat = zSum (zLr (zS σ 9 F) (zN σ).toNat) (zN σ).toNat := zSum_cg _ (fun c h0 h1 => e c h0 (by omega))
  have p2 := zSum_p (F := zLr (zS σ 9 F) (zN σ).toNat) (zN σ).toNat (fun c _ _ => (p c).1)
  intro c h0 h1
  unfold zL1 zM1
  rw [eS]
  by_cases g : zSum (zLr (zS σ 9 F) (zN σ).toNat) (zN σ).toNat = 0
  · rw [if_pos (by omega), if_pos g]
  · rw [if_neg (by omega), if_neg g]
    exact zWh_cg (by omega) (fun c a b => e c a (by omega)) c h0 (by omega)
theorem zLn_e {σ : zMem} (hw : zHw σ) (hs : 0 ≤ σ 3 0 ∧ σ 3 0 ≤ 9) (ht : zTb σ) (h9 : ∀ c, 0 ≤ c → c < zN σ → 0 ≤ σ 9 c ∧ σ 9 c ≤ 1000000) (hsum : zSum (σ 9) (zN σ).toNat = 1000000) : ∀ (n : Nat) (c : Int), 0 ≤ c → c < zN σ → zLn σ n c = zMn σ n c
  | 0, c, _, _ => rfl
  | n + 1, c, h0, h1 => by
    have i := zLn_e hw hs ht h9 hsum n
    have m := zMn_ok hw hs h9 hsum n
    rw [zLn, zMn, zL1_cg hw i c h0 h1]
    exact zL1_e hw hs ht m.1 c h0 h1
/-! the best way: by directions, by cells -/
theorem zBd_f {σ : zMem} {V : Int → Int} (c : Int) : ∀ n : Nat, (∀ e : Int, 0 ≤ e → e < n → zSa σ V c e ≤ (zBd σ V c n).2) ∧ ((zBd σ V c n).2 = -1 ∨ (-1 < (zBd σ V c n).2 ∧ (0 ≤ (zBd σ V c n).1 ∧ (zBd σ V c n).1 < n) ∧ zSa σ V c (zBd σ V c n).1 = (zBd σ V c n).2 ∧ ∀ e : Int, 0 ≤ e → e < (zBd σ V c n).1 → zSa σ V c e < (zBd σ V c n).2))
  | 0 => ⟨fun e h0 h1 => by omega, Or.inl rfl⟩
  | n + 1 => by
    obtain ⟨i1, i2⟩ := zBd_f (σ := σ) (V := V) c n
    unfold zBd
    by_cases g : zSa σ V c n > (zBd σ V c n).2
    · rw [if_pos g]
      refine ⟨fun e h0 h1 => ?_, ?_⟩
      · show zSa σ V c e ≤ zSa σ V c n
        by_cases q : e = n
        · subst q; exact Int.le_refl _
        · have := i1 e h0 (by omega); omega
      · show zSa σ V c n = -1 ∨ (-1 < zSa σ V c n ∧ (0 ≤ (n : Int) ∧ (n : Int) < ((n + 1 : Nat) : Int)) ∧ zSa σ V c n = zSa σ V c n ∧ ∀ e : Int, 0 ≤ e → e < (n : Int) → zSa σ V c e < zSa σ V c n)
        by_cases q : zSa σ V c n = -1
        · exact Or.inl q
        · refine Or.inr ⟨?_, ⟨by omega, by omega⟩, rfl, fun e h0 h1 => by have := i1 e h0 h1; omega⟩
          rcases i2 with i2 | i2 <;> omega
    · rw [if_neg g]
      refine ⟨fun e h0 h1 => ?_, ?_⟩
      · by_cases q : e = n
        · subst q; omega
        · exact i1 e h0 (by omega)
      · rcases i2 with i2 | ⟨a, b, c1, d⟩
        · exact Or.inl i2
        · exact Or.inr ⟨a, ⟨b.1, by omega⟩, c1, d⟩
theorem zSa_t {σ : zMem} (hw : zHw σ) (ht : zTb σ) {c : Int} (hc : 0 ≤ c ∧ c < zN σ) (V : Int → Int) {d : Int} (h0 : 0 ≤ d) (h1 : d < 7) : (zTr σ c d = -1 ∧ zSa σ V c d = -1) ∨ ((0 ≤ zTr σ c d ∧ zTr σ c d < zN σ) ∧ zSa σ V c d = zYs σ V c (zTr σ c d)) := by
  rcases zTr_b hw ht hc h0 h1 with g | g
  · refine Or.inl ⟨g, ?_⟩
    unfold zSa
    rw [if_neg (by omega)]
    show (if 0 ≤ zTr σ c d ∧ zTr σ c d < zN σ then _ else _) = _
    rw [if_neg (by omega)]
  · refine Or.inr ⟨g, ?_⟩
    have l := zTr_l hw ht hc h0 h1 g.1
    unfold zSa zYs
    rw [if_neg (by omega)]
    show (if 0 ≤ zTr σ c d ∧ zTr σ c d < zN σ then (if V (zTr σ c d) = -1 then -1 else V (zTr σ c d) + zLik σ d) else -1) = _
    rw [if_pos g, l.1]
    by_cases q : V (zTr σ c d) = -1
    · rw [if_pos q, if_neg (fun p => p.2 q)]
    · rw [if_neg q, if_pos ⟨l.2, q⟩]; omega
theorem zBd_e {σ : zMem} (hw : zHw σ) (hs : 0 ≤ σ 3 0 ∧ σ 3 0 ≤ 9) (ht : zTb σ) {c : Int} (hc : 0 ≤ c ∧ c < zN σ) {V : Int → Int} {B : Int} (hB : -1 ≤ B) (hV : ∀ c, 0 ≤ c → c < zN σ → -1 ≤ V c ∧ V c ≤ B) : (zBd σ V c 7).2 = (zYb σ V c (zN σ).toNat).2 ∧ (¬ (zYb σ V c (zN σ).toNat).2 = -1 → 0 ≤ (zBd σ V c 7).1 ∧ σ 33 (c * 7 + (zBd σ V c 7).1) = (zYb σ V c (zN σ).toNat).1) := by
  have hN := zHw_N hw
  obtain ⟨x1, x2⟩ := zBd_f (σ := σ) (V := V) c 7
  obtain ⟨y1, y2⟩ := zYb_f (σ := σ) (V := V) c (zN σ).toNat
  have yb := zYb_b hs hB c (zN σ).toNat (fun d h0 h1 => hV d h0 (by omega))
  -- a step by a direction is a step to its cell
  have to : ∀ d : Int, 0 ≤ d → d < 7 → zSa σ V c d ≤ (zYb σ V c (zN σ).toNat).2 := fun d h0 h1 => by
    rcases zSa_t hw ht hc V h0 h1 with ⟨_, g⟩ | ⟨g1, g2⟩
    · omega
    · rw [g2]; exact y1 _ g1.1 (by omega)
  have of : ∀ b : Int, 0 ≤ b → b < zN σ → -1 < zYs σ V c b → ∃ d : Int, (0 ≤ d ∧ d < 7) ∧ zTr σ c d = b ∧ zSa σ V c d = zYs σ V c b := fun b h0 h1 h2 => by
    rcases zTr_x hw hs ht hc ⟨h0, h1⟩ with ⟨d, hd, e⟩ | ⟨z, _⟩
    · rcases zSa_t hw ht hc V hd.1 hd.2 with ⟨g, _⟩ | ⟨g1, g2⟩
      · omega
      · exact ⟨d, hd, e, by rw [g2, e]⟩
    · unfold zYs at h2
      rw [if_neg (by omega)] at h2
      omega
  have le : (zYb σ V c (zN σ).toNat).2 ≤ (zBd σ V c 7).2 := by
    rcases y2 with y2 | ⟨ya, yb1, yc, yd⟩
    · rcases x2 with x2 | x2 <;> omega
    · obtain ⟨d, hd, e, q⟩ := of _ yb1.1 (by omega) (by omega)
      have := x1 d hd.1 (by omega)
      omega
  have ge : (zBd σ V c 7).2 ≤ (zYb σ V c (zN σ).toNat).2 := by
    rcases x2 with x2 | ⟨xa, xb, xc, xd⟩
    · omega
    · have := to _ xb.1 (by omega); omega
  have eq : (zBd σ V c 7).2 = (zYb σ V c (zN σ).toNat).2 := by omega
  refine ⟨eq, fun n1 => ?_⟩
  rcases y2 with y2 | ⟨ya, yb1, yc, yd⟩
  · exact absurd y2 n1
  · rcases x2 with x2 | ⟨xa, xb, xc, xd⟩
    · omega
    · refine ⟨xb.1, ?_⟩
      obtain ⟨d, hd, e, q⟩ := of _ yb1.1 (by omega) (by omega)
      show zTr σ c (zBd σ V c 7).1 = _
      rcases zSa_t hw ht hc V xb.1 (by omega) with ⟨_, g⟩ | ⟨g1, g2⟩
      · omega
      · -- the least cell, the first direction
        have a1 : ¬ zTr σ c (zBd σ V c 7).1 < (zYb σ V c (zN σ).toNat).1 := fun lt => by
          have := yd _ g1.1 lt
          omega
        have a2 : (zBd σ V c 7).1 ≤ d := by
          rcases Int.lt_or_le d (zBd σ V c 7).1 with lt | ge
          · have := xd d hd.1 lt
            omega
          · exact ge
        rcases Int.lt_or_le (zBd σ V c 7).1 d with lt | ge
        · have := zTr_i hw ht hc xb.1 lt hd.2 g1.1 (by omega)
          omega
        · rw [show (zBd σ V c 7).1 = d by omega]; exact e
theorem zV_e {σ : zMem} (hw : zHw σ) (hmp : zMp σ) (hs : 0 ≤ σ 3 0 ∧ σ 3 0 ≤ 9) (ht : zTb σ) (z wo R : Int) : ∀ (k : Nat) (c : Int), 0 ≤ c → c < zN σ → zV σ z wo R k c = zYv σ z wo R k c
  | 0, c, _, _ => rfl
  | k + 1, c, h0, h1 => by
    have i := zV_e hw hmp hs ht z wo R k
    have b := zYv_b hmp hs z wo R k
    have e := (zBd_e hw hs ht ⟨h0, h1⟩ (V := zYv σ z wo R k) (B := 3000 * ((k : Int) + 1)) (by omega) (fun c _ _ => b c)).1
    unfold zV zYv
    rw [zBd_cg i c 7, e]
    split
    · rfl
    · omega
theorem zWy_e {σ : zMem} (hw : zHw σ) (hmp : zMp σ) (hs : 0 ≤ σ 3 0 ∧ σ 3 0 ≤ 9) (ht : zTb σ) (z wo R : Int) (hR : 1 ≤ R) (hf : ¬ zYf σ z wo R = -1) : ∀ k : Nat, (k : Int) < R → zWy σ z wo R k = zYw σ z wo R k
  | 0, _ => by
    have hN := zHw_N hw
    unfold zWy zYw
    exact zMx_cg _ (fun c h0 h1 => zV_e hw hmp hs ht z wo R _ c h0 (by omega))
  | k + 1, h => by
    have hN := zHw_N hw
    have i := zWy_e hw hmp hs ht z wo R hR hf k (by omega)
    have b := zYv_b hmp hs z wo R (R - 1 - ((k : Int) + 1)).toNat
    have ok := (zYw_ok hN.1 hR hf k (by omega)).1
    have l := (zYw_l hN.1 hR hf k (by omega)).2
    have e := (zBd_e hw hs ht ok (V := zYv σ z wo R (R - 1 - ((k : Int) + 1)).toNat) (B := 3000 * (((R - 1 - ((k : Int) + 1)).toNat : Int) + 1)) (by omega) (fun c _ _ => b c)).2 l
    unfold zWy
    rw [i, zBd_cg (zV_e hw hmp hs ht z wo R _) _ 7, if_neg (by omega)]
    rw [zYw]
    exact e.2
theorem zVf_e {σ : zMem} (hw : zHw σ) (hmp : zMp σ) (hs : 0 ≤ σ 3 0 ∧ σ 3 0 ≤ 9) (ht : zTb σ) (z wo R : Int) : zVf σ z wo R = zYf σ z wo R := by
  have hN := zHw_N hw
  unfold zVf zYf
  have e : zWy σ z wo R 0 = zYw σ z wo R 0 := by
    unfold zWy zYw
    exact zMx_cg _ (fun c h0 h1 => zV_e hw hmp hs ht z wo R _ c h0 (by omega))
  have b := zMx_b (zYv σ z wo R (R - 1).toNat) (zN σ).toNat
  rw [e]
  refine zV_e hw hmp hs ht z wo R _ _ ?_ ?_
  · unfold zYw; exact b.1
  · unfold zYw
    have := b.2 (by omega)
    omega
theorem zMu_e {σ : zMem} (z k R : Int) (y : Nat → Int) (h : ∀ n : Nat, (n : Int) < R → zWy σ z k R n = y n) : ∀ n : Nat, (n : Int) ≤ R → zMu σ z k R n = zMuy σ z k y n
  | 0, _ => rfl
  | n + 1, hn => by
    rw [zMu, zMuy, zMu_e z k R y h n (by omega), h n (by omega)]
theorem zBt_e {σ : zMem} (hw : zHw σ) (hmp : zMp σ) (hs : 0 ≤ σ 3 0 ∧ σ 3 0 ≤ 9) (ht : zTb σ) (z : Int) (hR : 1 ≤ σ 18 z / 8) (hf : ¬ zYf σ z (-1) (σ 18 z / 8) = -1) : ∀ n : Nat, zBt σ z n = zYt σ z n
  | 0 => rfl
  | n + 1 => by
    have hN := zHw_N hw
    have i := zBt_e hw hmp hs ht z hR hf n
    have f : ¬ zYf σ z n (σ 18 z / 8) = -1 := fun q => hf (zYf_fe hN.1 hmp hs z n (-1) _ q)
    have m := zMu_e (σ := σ) z n (σ 18 z / 8) (zYw σ z n (σ 18 z / 8)) (zWy_e hw hmp hs ht z n _ hR f) (σ 18 z / 8).toNat (by omega)
    have v := zVf_e hw hmp hs ht z n (σ 18 z / 8)
    have q : (σ 7 n = 0 ∧ zMvd σ z n) ↔ (σ 7 n = 0 ∧ zYd σ z n) := by
      unfold zMvd zYd
      rw [m, v]
      constructor
      · rintro ⟨a, b, c, d⟩; exact ⟨a, d⟩
      · rintro ⟨a, d⟩; exact ⟨a, hR, f, d⟩
    rw [zBt, zYt, i]
    by_cases g : σ 7 n = 0 ∧ zMvd σ z n
    · rw [if_pos g, if_pos (q.mp g)]
    · rw [if_neg g, if_neg (fun p => g (q.mpr p))]
theorem zLm_e {σ : zMem} (z R : Int) (x y : Nat → Int) (h : ∀ n : Nat, (n : Int) < R → x n = y n) : ∀ n : Nat, (n : Int) ≤ R → zLm σ z x n = zLm σ z y n
  | 0, _ => rfl
  | n + 1, hn => by
    rw [zLm, zLm, zLm_e z R x y h n (by omega), h n (by omega)]
theorem zEd_e {σ : zMem} (hw : zHw σ) (ht : zTb σ) (c d : Int) : zEd (zN σ) (zTa σ) c d ↔ zEy σ c d := by
  constructor
  · rintro ⟨⟨h1, h2⟩, n, k, hk, e⟩
    refine ⟨⟨h1, h2⟩, n, ?_⟩
    have e : zTr σ c k = d := e
    have l := zTr_l hw ht h1 hk.1 hk.2 (by omega)
    rw [e] at l
    omega
  · rintro ⟨⟨h1, h2⟩, n, l⟩
    obtain ⟨k, hk, e⟩ := zTg_s hw h1 h2 l
    exact ⟨⟨h1, h2⟩, n, k, hk, by show zTr σ c k = d; rw [zTr_g ht h1 hk.1 hk.2]; exact e⟩
/-- a step, by the table -/
theorem zSt_e {σ : zMem} (hw : zHw σ) (hs : 0 ≤ σ 3 0 ∧ σ 3 0 ≤ 9) (ht : zTb σ) {a b r : Int} (ha : 0 ≤ a ∧ a < zN σ) (hb : 0 ≤ b ∧ b < zN σ) (h : (∃ d, 0 ≤ d ∧ d < 7 ∧ σ 33 (a * 7 + d) = b ∧ (∀ j, 0 ≤ j → j < d → σ 33 (a * 7 + j) ≠ b) ∧ r = zLik σ d) ∨ ((∀ d, 0 ≤ d → d < 7 → σ 33 (a * 7 + d) ≠ b) ∧ r = 0)) : r = zLy σ a b := by
  rcases h with ⟨d, h0, h1, e, _, rfl⟩ | ⟨h, rfl⟩
  · have e : zTr σ a d = b := e
    have l := zTr_l hw ht ha h0 h1 (by omega)
    rw [e] at l
    exact l.1.symm
  · rcases zTr_x hw hs ht ha hb with ⟨d, hd, e⟩ | ⟨z, _⟩
    · exact absurd e (h d hd.1 hd.2)
    · exact z.symm
