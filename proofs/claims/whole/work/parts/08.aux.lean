/-! THE HOUSE, read; memories that differ in few places -/
def zN (σ : zMem) : Int := σ 0 0 * σ 1 0 * σ 2 0
def zHw (σ : zMem) : Prop := (1 ≤ σ 0 0 ∧ σ 0 0 ≤ 3) ∧ (1 ≤ σ 1 0 ∧ σ 1 0 ≤ 6) ∧ (1 ≤ σ 2 0 ∧ σ 2 0 ≤ 6) ∧ zN σ ≤ 72
theorem zHw_wh {σ : zMem} (h : zHw σ) : 1 ≤ σ 1 0 * σ 2 0 ∧ σ 1 0 * σ 2 0 ≤ 36 := by
  obtain ⟨-, h1, h2, -⟩ := h
  have a := Int.mul_le_mul h1.2 h2.2 (by omega) (by omega)
  have b := Int.mul_pos (show 0 < σ 1 0 by omega) (show 0 < σ 2 0 by omega)
  omega
theorem zN_eq (σ : zMem) : zN σ = σ 0 0 * (σ 1 0 * σ 2 0) := Int.mul_assoc _ _ _
theorem zHw_N {σ : zMem} (h : zHw σ) : 1 ≤ zN σ ∧ zN σ ≤ 72 := by
  have a := zHw_wh h
  have b := Int.mul_pos (show 0 < σ 0 0 by have := h.1; omega) (show 0 < σ 1 0 * σ 2 0 by omega)
  rw [← zN_eq] at b
  have c := h.2.2.2
  omega
def zE (μ σ : zMem) (l : List Nat) : Prop := ∀ k, k ∉ l → μ k = σ k
theorem zE_rf {σ : zMem} {l : List Nat} : zE σ σ l := fun _ _ => rfl
theorem zS_s (σ : zMem) (k : Nat) (F : Int → Int) : zS σ k F k = F := by
  unfold zS
  rw [show Nat.beq k k = true from Nat.beq_refl k]
  rfl
theorem zS_o {σ : zMem} {k k' : Nat} {F : Int → Int} (h : (k' == k) = false) : zS σ k F k' = σ k' := by
  unfold zS
  cases hb : Nat.beq k' k with
  | false => rfl
  | true => exact absurd (Nat.eq_of_beq_eq_true hb) (by simpa using h)
theorem zS_n {σ : zMem} {k k' : Nat} {F : Int → Int} (h : k' ≠ k) : zS σ k F k' = σ k' := zS_o (by simpa using h)
theorem zE_set {μ σ : zMem} {l : List Nat} {k : Nat} {F : Int → Int} (h : zE μ σ l) (hk : k ∈ l) : zE (zS μ k F) σ l := fun j hj => by
  have hne : j ≠ k := fun e => hj (by rw [e]; exact hk)
  rw [zS_n hne, h j hj]
theorem zE_tr {μ ν σ : zMem} {l : List Nat} (h1 : zE μ ν l) (h2 : zE ν σ l) : zE μ σ l := fun j hj => (h1 j hj).trans (h2 j hj)
theorem zE_mo {μ σ : zMem} {l l' : List Nat} (h : zE μ σ l) (hl : ∀ k ∈ l, k ∈ l') : zE μ σ l' := fun j hj => h j (fun q => hj (hl j q))
theorem zU_s (F : Int → Int) (i v : Int) : zU F i v i = v := if_pos rfl
theorem zU_n {F : Int → Int} {i v j : Int} (h : j ≠ i) : zU F i v j = F j := if_neg h
theorem zHw_E {μ σ : zMem} {l : List Nat} (h : zE μ σ l) (h0 : 0 ∉ l := by decide) (h1 : 1 ∉ l := by decide) (h2 : 2 ∉ l := by decide) (hw : zHw σ) : zHw μ := by
  unfold zHw zN
  rw [h 0 h0, h 1 h1, h 2 h2]
  exact hw
theorem zN_E {μ σ : zMem} {l : List Nat} (h : zE μ σ l) (h0 : 0 ∉ l := by decide) (h1 : 1 ∉ l := by decide) (h2 : 2 ∉ l := by decide) : zN μ = zN σ := by
  unfold zN
  rw [h 0 h0, h 1 h1, h 2 h2]
def zIsA (σ : zMem) (f x0 x1 y0 y1 : Int) : Prop := (0 ≤ f ∧ f < σ 0 0) ∧ x0 ≤ x1 ∧ y0 ≤ y1 ∧ (0 ≤ x0 ∧ x0 < σ 1 0) ∧ (0 ≤ y0 ∧ y0 < σ 2 0) ∧ (0 ≤ x1 ∧ x1 < σ 1 0) ∧ (0 ≤ y1 ∧ y1 < σ 2 0)
def zLik (σ : zMem) (d : Int) : Int := if d = 3 then σ 3 0 else if d = 0 ∨ d = 6 then 1 else 2
def zAll (σ : zMem) (c : Int) : Nat → Int
  | 0 => 0
  | n + 1 => zAll σ c n + if σ 33 (c * 7 + n) = -1 then 0 else zLik σ n
theorem zLik_b {σ : zMem} (h : 0 ≤ σ 3 0 ∧ σ 3 0 ≤ 9) (d : Int) : 0 ≤ zLik σ d ∧ zLik σ d ≤ 9 := by
  unfold zLik
  split
  · omega
  · split <;> omega
theorem zAll_b {σ : zMem} (h : 0 ≤ σ 3 0 ∧ σ 3 0 ≤ 9) (c : Int) : ∀ n : Nat, 0 ≤ zAll σ c n ∧ zAll σ c n ≤ 9 * n
  | 0 => by simp [zAll]
  | n + 1 => by
    have a := zAll_b h c n
    have b := zLik_b h n
    rw [zAll]
    split <;> (constructor <;> (try push_cast) <;> omega)
/-- an array's numbers beyond its end are free -/
theorem z_arr {K : z_KT} {cells slots pc : Nat} {L : List (Option Value)} {st : List Value} {ws : va_W} {a : Nat} {cA : ClassId} {n : Nat} {f f' : Nat → Int32} (q0 : Nat) (ha : ws[q0]? = some (a, .inl (cA, n, .inl f))) (hf : ∀ j, j < n → f j = f' j) (k : Gd K cells slots pc L st (ws.set q0 (a, .inl (cA, n, .inl f')))) : Gd K cells slots pc L st ws := by
  obtain ⟨p, l, e, R, s, m, args, below, meth, c, A, H0, Q, D, t⟩ := K
  intro H locs ls hP hD hS hl
  refine k H locs ls (hP.set hD ha ?_ fun _ _ => rfl) (hD.set ha) hS hl
  have h := hP q0 _ ha
  show H[a]? = some (vp_cell _ _)
  have h2 : H[a]? = some (vp_cell cA (n, .inl f)) := h
  rw [h2, vp_cell_i, vp_cell_i]
  unfold arrV
  congr 3
  funext j
  exact congrArg Value.int (hf j.val j.isLt)
theorem z_arrL {K : z_KT} {cells slots pc : Nat} {L : List (Option Value)} {st : List Value} {ws : va_W} {a : Nat} {cA : ClassId} {n : Nat} {f f' : Nat → Int64} (q0 : Nat) (ha : ws[q0]? = some (a, .inl (cA, n, .inr (.inl f)))) (hf : ∀ j, j < n → f j = f' j) (k : Gd K cells slots pc L st (ws.set q0 (a, .inl (cA, n, .inr (.inl f'))))) : Gd K cells slots pc L st ws := by
  obtain ⟨p, l, e, R, s, m, args, below, meth, c, A, H0, Q, D, t⟩ := K
  intro H locs ls hP hD hS hl
  refine k H locs ls (hP.set hD ha ?_ fun _ _ => rfl) (hD.set ha) hS hl
  have h := hP q0 _ ha
  show H[a]? = some (vp_cell _ _)
  have h2 : H[a]? = some (vp_cell cA (n, .inr (.inl f))) := h
  rw [h2, vp_cell_l, vp_cell_l]
  unfold arrV
  congr 3
  funext j
  exact congrArg Value.long (hf j.val j.isLt)
theorem zx_X7 {K : z_KT} {cells slots pc : Nat} {L : List (Option Value)} {st : List Value} {ad : Nat → Nat} {σ : zMem} (F : Int → Int) (h : ∀ i, 0 ≤ i → i < 30 → σ 15 i = F i) (k : Gd K cells slots pc L st (wX ad (z_t K) (zS σ 15 F))) : Gd K cells slots pc L st (wX ad (z_t K) σ) := z_arr 7 rfl (fun j hj => congrArg zI (h j (by omega) (by omega))) (z_ws (ws' := wX ad (z_t K) (zS σ 15 F)) rfl k)
theorem zx_X8 {K : z_KT} {cells slots pc : Nat} {L : List (Option Value)} {st : List Value} {ad : Nat → Nat} {σ : zMem} (F : Int → Int) (h : ∀ i, 0 ≤ i → i < 72 → σ 4 i = F i) (k : Gd K cells slots pc L st (wX ad (z_t K) (zS σ 4 F))) : Gd K cells slots pc L st (wX ad (z_t K) σ) := z_arr 8 rfl (fun j hj => congrArg zI (h j (by omega) (by omega))) (z_ws (ws' := wX ad (z_t K) (zS σ 4 F)) rfl k)
theorem zx_X9 {K : z_KT} {cells slots pc : Nat} {L : List (Option Value)} {st : List Value} {ad : Nat → Nat} {σ : zMem} (F : Int → Int) (h : ∀ i, 0 ≤ i → i < 72 → σ 5 i = F i) (k : Gd K cells slots pc L st (wX ad (z_t K) (zS σ 5 F))) : Gd K cells slots pc L st (wX ad (z_t K) σ) := z_arr 9 rfl (fun j hj => congrArg zI (h j (by omega) (by omega))) (z_ws (ws' := wX ad (z_t K) (zS σ 5 F)) rfl k)
theorem zx_X10 {K : z_KT} {cells slots pc : Nat} {L : List (Option Value)} {st : List Value} {ad : Nat → Nat} {σ : zMem} (F : Int → Int) (h : ∀ i, 0 ≤ i → i < 36 → σ 6 i = F i) (k : Gd K cells slots pc L st (wX ad (z_t K) (zS σ 6 F))) : Gd K cells slots pc L st (wX ad (z_t K) σ) := z_arr 10 rfl (fun j hj => congrArg zI (h j (by omega) (by omega))) (z_ws (ws' := wX ad (z_t K) (zS σ 6 F)) rfl k)
theorem zx_X11 {K : z_KT} {cells slots pc : Nat} {L : List (Option Value)} {st : List Value} {ad : Nat → Nat} {σ : zMem} (F : Int → Int) (h : ∀ i, 0 ≤ i → i < 504 → σ 33 i = F i) (k : Gd K cells slots pc L st (wX ad (z_t K) (zS σ 33 F))) : Gd K cells slots pc L st (wX ad (z_t K) σ) := z_arr 11 rfl (fun j hj => congrArg zI (h j (by omega) (by omega))) (z_ws (ws' := wX ad (z_t K) (zS σ 33 F)) rfl k)
theorem zx_X12 {K : z_KT} {cells slots pc : Nat} {L : List (Option Value)} {st : List Value} {ad : Nat → Nat} {σ : zMem} (F : Int → Int) (h : ∀ i, 0 ≤ i → i < 72 → σ 34 i = F i) (k : Gd K cells slots pc L st (wX ad (z_t K) (zS σ 34 F))) : Gd K cells slots pc L st (wX ad (z_t K) σ) := z_arr 12 rfl (fun j hj => congrArg zI (h j (by omega) (by omega))) (z_ws (ws' := wX ad (z_t K) (zS σ 34 F)) rfl k)
theorem zx_X13 {K : z_KT} {cells slots pc : Nat} {L : List (Option Value)} {st : List Value} {ad : Nat → Nat} {σ : zMem} (F : Int → Int) (h : ∀ i, 0 ≤ i → i < 72 → σ 35 i = F i) (k : Gd K cells slots pc L st (wX ad (z_t K) (zS σ 35 F))) : Gd K cells slots pc L st (wX ad (z_t K) σ) := z_arr 13 rfl (fun j hj => congrArg zI (h j (by omega) (by omega))) (z_ws (ws' := wX ad (z_t K) (zS σ 35 F)) rfl k)
theorem zx_X14 {K : z_KT} {cells slots pc : Nat} {L : List (Option Value)} {st : List Value} {ad : Nat → Nat} {σ : zMem} (F : Int → Int) (h : ∀ i, 0 ≤ i → i < 6336 → σ 8 i = F i) (k : Gd K cells slots pc L st (wX ad (z_t K) (zS σ 8 F))) : Gd K cells slots pc L st (wX ad (z_t K) σ) := z_arr 14 rfl (fun j hj => congrArg zI (h j (by omega) (by omega))) (z_ws (ws' := wX ad (z_t K) (zS σ 8 F)) rfl k)
theorem zx_X15 {K : z_KT} {cells slots pc : Nat} {L : List (Option Value)} {st : List Value} {ad : Nat → Nat} {σ : zMem} (F : Int → Int) (h : ∀ i, 0 ≤ i → i < 72 → σ 9 i = F i) (k : Gd K cells slots pc L st (wX ad (z_t K) (zS σ 9 F))) : Gd K cells slots pc L st (wX ad (z_t K) σ) := z_arr 15 rfl (fun j hj => congrArg zI (h j (by omega) (by omega))) (z_ws (ws' := wX ad (z_t K) (zS σ 9 F)) rfl k)
theorem zx_X16 {K : z_KT} {cells slots pc : Nat} {L : List (Option Value)} {st : List Value} {ad : Nat → Nat} {σ : zMem} (F : Int → Int) (h : ∀ i, 0 ≤ i → i < 72 → σ 37 i = F i) (k : Gd K cells slots pc L st (wX ad (z_t K) (zS σ 37 F))) : Gd K cells slots pc L st (wX ad (z_t K) σ) := z_arrL 16 rfl (fun j hj => congrArg zL (h j (by omega) (by omega))) (z_ws (ws' := wX ad (z_t K) (zS σ 37 F)) rfl k)
theorem zx_X17 {K : z_KT} {cells slots pc : Nat} {L : List (Option Value)} {st : List Value} {ad : Nat → Nat} {σ : zMem} (F : Int → Int) (h : ∀ i, 0 ≤ i → i < 72 → σ 38 i = F i) (k : Gd K cells slots pc L st (wX ad (z_t K) (zS σ 38 F))) : Gd K cells slots pc L st (wX ad (z_t K) σ) := z_arrL 17 rfl (fun j hj => congrArg zL (h j (by omega) (by omega))) (z_ws (ws' := wX ad (z_t K) (zS σ 38 F)) rfl k)
theorem zx_X18 {K : z_KT} {cells slots pc : Nat} {L : List (Option Value)} {st : List Value} {ad : Nat → Nat} {σ : zMem} (F : Int → Int) (h : ∀ i, 0 ≤ i → i < 30 → σ 39 i = F i) (k : Gd K cells slots pc L st (wX ad (z_t K) (zS σ 39 F))) : Gd K cells slots pc L st (wX ad (z_t K) σ) := z_arr 18 rfl (fun j hj => congrArg zI (h j (by omega) (by omega))) (z_ws (ws' := wX ad (z_t K) (zS σ 39 F)) rfl k)
theorem zx_X19 {K : z_KT} {cells slots pc : Nat} {L : List (Option Value)} {st : List Value} {ad : Nat → Nat} {σ : zMem} (F : Int → Int) (h : ∀ i, 0 ≤ i → i < 2160 → σ 41 i = F i) (k : Gd K cells slots pc L st (wX ad (z_t K) (zS σ 41 F))) : Gd K cells slots pc L st (wX ad (z_t K) σ) := z_arr 19 rfl (fun j hj => congrArg zI (h j (by omega) (by omega))) (z_ws (ws' := wX ad (z_t K) (zS σ 41 F)) rfl k)
theorem zx_X20 {K : z_KT} {cells slots pc : Nat} {L : List (Option Value)} {st : List Value} {ad : Nat → Nat} {σ : zMem} (F : Int → Int) (h : ∀ i, 0 ≤ i → i < 20 → σ 10 i = F i) (k : Gd K cells slots pc L st (wX ad (z_t K) (zS σ 10 F))) : Gd K cells slots pc L st (wX ad (z_t K) σ) := z_arr 20 rfl (fun j hj => congrArg zI (h j (by omega) (by omega))) (z_ws (ws' := wX ad (z_t K) (zS σ 10 F)) rfl k)
theorem zx_M1 {K : z_KT} {cells slots pc : Nat} {L : List (Option Value)} {st : List Value} {ad : Nat → Nat} {σ : zMem} (F : Int → Int) (h : ∀ i, 0 ≤ i → i < 108 → σ 4 i = F i) (k : Gd K cells slots pc L st (wM ad (z_t K) (zS σ 4 F))) : Gd K cells slots pc L st (wM ad (z_t K) σ) := z_arr 1 rfl (fun j hj => congrArg zI (h j (by omega) (by omega))) (z_ws (ws' := wM ad (z_t K) (zS σ 4 F)) rfl k)
theorem zx_M2 {K : z_KT} {cells slots pc : Nat} {L : List (Option Value)} {st : List Value} {ad : Nat → Nat} {σ : zMem} (F : Int → Int) (h : ∀ i, 0 ≤ i → i < 108 → σ 5 i = F i) (k : Gd K cells slots pc L st (wM ad (z_t K) (zS σ 5 F))) : Gd K cells slots pc L st (wM ad (z_t K) σ) := z_arr 2 rfl (fun j hj => congrArg zI (h j (by omega) (by omega))) (z_ws (ws' := wM ad (z_t K) (zS σ 5 F)) rfl k)
theorem zx_M3 {K : z_KT} {cells slots pc : Nat} {L : List (Option Value)} {st : List Value} {ad : Nat → Nat} {σ : zMem} (F : Int → Int) (h : ∀ i, 0 ≤ i → i < 36 → σ 6 i = F i) (k : Gd K cells slots pc L st (wM ad (z_t K) (zS σ 6 F))) : Gd K cells slots pc L st (wM ad (z_t K) σ) := z_arr 3 rfl (fun j hj => congrArg zI (h j (by omega) (by omega))) (z_ws (ws' := wM ad (z_t K) (zS σ 6 F)) rfl k)
theorem zx_M4 {K : z_KT} {cells slots pc : Nat} {L : List (Option Value)} {st : List Value} {ad : Nat → Nat} {σ : zMem} (F : Int → Int) (h : ∀ i, 0 ≤ i → i < 8 → σ 7 i = F i) (k : Gd K cells slots pc L st (wM ad (z_t K) (zS σ 7 F))) : Gd K cells slots pc L st (wM ad (z_t K) σ) := z_arr 4 rfl (fun j hj => congrArg zI (h j (by omega) (by omega))) (z_ws (ws' := wM ad (z_t K) (zS σ 7 F)) rfl k)
theorem zx_M5 {K : z_KT} {cells slots pc : Nat} {L : List (Option Value)} {st : List Value} {ad : Nat → Nat} {σ : zMem} (F : Int → Int) (h : ∀ i, 0 ≤ i → i < 6336 → σ 8 i = F i) (k : Gd K cells slots pc L st (wM ad (z_t K) (zS σ 8 F))) : Gd K cells slots pc L st (wM ad (z_t K) σ) := z_arr 5 rfl (fun j hj => congrArg zI (h j (by omega) (by omega))) (z_ws (ws' := wM ad (z_t K) (zS σ 8 F)) rfl k)
theorem zx_M6 {K : z_KT} {cells slots pc : Nat} {L : List (Option Value)} {st : List Value} {ad : Nat → Nat} {σ : zMem} (F : Int → Int) (h : ∀ i, 0 ≤ i → i < 72 → σ 9 i = F i) (k : Gd K cells slots pc L st (wM ad (z_t K) (zS σ 9 F))) : Gd K cells slots pc L st (wM ad (z_t K) σ) := z_arr 6 rfl (fun j hj => congrArg zI (h j (by omega) (by omega))) (z_ws (ws' := wM ad (z_t K) (zS σ 9 F)) rfl k)
theorem zx_M7 {K : z_KT} {cells slots pc : Nat} {L : List (Option Value)} {st : List Value} {ad : Nat → Nat} {σ : zMem} (F : Int → Int) (h : ∀ i, 0 ≤ i → i < 20 → σ 10 i = F i) (k : Gd K cells slots pc L st (wM ad (z_t K) (zS σ 10 F))) : Gd K cells slots pc L st (wM ad (z_t K) σ) := z_arr 7 rfl (fun j hj => congrArg zI (h j (by omega) (by omega))) (z_ws (ws' := wM ad (z_t K) (zS σ 10 F)) rfl k)
theorem zx_M8 {K : z_KT} {cells slots pc : Nat} {L : List (Option Value)} {st : List Value} {ad : Nat → Nat} {σ : zMem} (F : Int → Int) (h : ∀ i, 0 ≤ i → i < 72 → σ 61 i = F i) (k : Gd K cells slots pc L st (wM ad (z_t K) (zS σ 61 F))) : Gd K cells slots pc L st (wM ad (z_t K) σ) := z_arr 8 rfl (fun j hj => congrArg zI (h j (by omega) (by omega))) (z_ws (ws' := wM ad (z_t K) (zS σ 61 F)) rfl k)
theorem zx_M9 {K : z_KT} {cells slots pc : Nat} {L : List (Option Value)} {st : List Value} {ad : Nat → Nat} {σ : zMem} (F : Int → Int) (h : ∀ i, 0 ≤ i → i < 72 → σ 62 i = F i) (k : Gd K cells slots pc L st (wM ad (z_t K) (zS σ 62 F))) : Gd K cells slots pc L st (wM ad (z_t K) σ) := z_arrL 9 rfl (fun j hj => congrArg zL (h j (by omega) (by omega))) (z_ws (ws' := wM ad (z_t K) (zS σ 62 F)) rfl k)
theorem zx_M10 {K : z_KT} {cells slots pc : Nat} {L : List (Option Value)} {st : List Value} {ad : Nat → Nat} {σ : zMem} (F : Int → Int) (h : ∀ i, 0 ≤ i → i < 72 → σ 63 i = F i) (k : Gd K cells slots pc L st (wM ad (z_t K) (zS σ 63 F))) : Gd K cells slots pc L st (wM ad (z_t K) σ) := z_arrL 10 rfl (fun j hj => congrArg zL (h j (by omega) (by omega))) (z_ws (ws' := wM ad (z_t K) (zS σ 63 F)) rfl k)
theorem zx_M11 {K : z_KT} {cells slots pc : Nat} {L : List (Option Value)} {st : List Value} {ad : Nat → Nat} {σ : zMem} (F : Int → Int) (h : ∀ i, 0 ≤ i → i < 72 → σ 64 i = F i) (k : Gd K cells slots pc L st (wM ad (z_t K) (zS σ 64 F))) : Gd K cells slots pc L st (wM ad (z_t K) σ) := z_arr 11 rfl (fun j hj => congrArg zI (h j (by omega) (by omega))) (z_ws (ws' := wM ad (z_t K) (zS σ 64 F)) rfl k)
theorem zx_M12 {K : z_KT} {cells slots pc : Nat} {L : List (Option Value)} {st : List Value} {ad : Nat → Nat} {σ : zMem} (F : Int → Int) (h : ∀ i, 0 ≤ i → i < 30 → σ 15 i = F i) (k : Gd K cells slots pc L st (wM ad (z_t K) (zS σ 15 F))) : Gd K cells slots pc L st (wM ad (z_t K) σ) := z_arr 12 rfl (fun j hj => congrArg zI (h j (by omega) (by omega))) (z_ws (ws' := wM ad (z_t K) (zS σ 15 F)) rfl k)
theorem zx_M13 {K : z_KT} {cells slots pc : Nat} {L : List (Option Value)} {st : List Value} {ad : Nat → Nat} {σ : zMem} (F : Int → Int) (h : ∀ i, 0 ≤ i → i < 30 → σ 65 i = F i) (k : Gd K cells slots pc L st (wM ad (z_t K) (zS σ 65 F))) : Gd K cells slots pc L st (wM ad (z_t K) σ) := z_arr 13 rfl (fun j hj => congrArg zI (h j (by omega) (by omega))) (z_ws (ws' := wM ad (z_t K) (zS σ 65 F)) rfl k)
theorem zx_M14 {K : z_KT} {cells slots pc : Nat} {L : List (Option Value)} {st : List Value} {ad : Nat → Nat} {σ : zMem} (F : Int → Int) (h : ∀ i, 0 ≤ i → i < 2160 → σ 66 i = F i) (k : Gd K cells slots pc L st (wM ad (z_t K) (zS σ 66 F))) : Gd K cells slots pc L st (wM ad (z_t K) σ) := z_arr 14 rfl (fun j hj => congrArg zI (h j (by omega) (by omega))) (z_ws (ws' := wM ad (z_t K) (zS σ 66 F)) rfl k)
theorem zx_M15 {K : z_KT} {cells slots pc : Nat} {L : List (Option Value)} {st : List Value} {ad : Nat → Nat} {σ : zMem} (F : Int → Int) (h : ∀ i, 0 ≤ i → i < 150 → σ 13 i = F i) (k : Gd K cells slots pc L st (wM ad (z_t K) (zS σ 13 F))) : Gd K cells slots pc L st (wM ad (z_t K) σ) := z_arr 15 rfl (fun j hj => congrArg zI (h j (by omega) (by omega))) (z_ws (ws' := wM ad (z_t K) (zS σ 13 F)) rfl k)
theorem zx_M16 {K : z_KT} {cells slots pc : Nat} {L : List (Option Value)} {st : List Value} {ad : Nat → Nat} {σ : zMem} (F : Int → Int) (h : ∀ i, 0 ≤ i → i < 4 → σ 16 i = F i) (k : Gd K cells slots pc L st (wM ad (z_t K) (zS σ 16 F))) : Gd K cells slots pc L st (wM ad (z_t K) σ) := z_arr 16 rfl (fun j hj => congrArg zI (h j (by omega) (by omega))) (z_ws (ws' := wM ad (z_t K) (zS σ 16 F)) rfl k)
theorem zx_M17 {K : z_KT} {cells slots pc : Nat} {L : List (Option Value)} {st : List Value} {ad : Nat → Nat} {σ : zMem} (F : Int → Int) (h : ∀ i, 0 ≤ i → i < 4 → σ 17 i = F i) (k : Gd K cells slots pc L st (wM ad (z_t K) (zS σ 17 F))) : Gd K cells slots pc L st (wM ad (z_t K) σ) := z_arr 17 rfl (fun j hj => congrArg zI (h j (by omega) (by omega))) (z_ws (ws' := wM ad (z_t K) (zS σ 17 F)) rfl k)
theorem zx_M18 {K : z_KT} {cells slots pc : Nat} {L : List (Option Value)} {st : List Value} {ad : Nat → Nat} {σ : zMem} (F : Int → Int) (h : ∀ i, 0 ≤ i → i < 4 → σ 18 i = F i) (k : Gd K cells slots pc L st (wM ad (z_t K) (zS σ 18 F))) : Gd K cells slots pc L st (wM ad (z_t K) σ) := z_arr 18 rfl (fun j hj => congrArg zI (h j (by omega) (by omega))) (z_ws (ws' := wM ad (z_t K) (zS σ 18 F)) rfl k)
theorem zx_M19 {K : z_KT} {cells slots pc : Nat} {L : List (Option Value)} {st : List Value} {ad : Nat → Nat} {σ : zMem} (F : Int → Int) (h : ∀ i, 0 ≤ i → i < 960 → σ 20 i = F i) (k : Gd K cells slots pc L st (wM ad (z_t K) (zS σ 20 F))) : Gd K cells slots pc L st (wM ad (z_t K) σ) := z_arr 19 rfl (fun j hj => congrArg zI (h j (by omega) (by omega))) (z_ws (ws' := wM ad (z_t K) (zS σ 20 F)) rfl k)
theorem zx_M20 {K : z_KT} {cells slots pc : Nat} {L : List (Option Value)} {st : List Value} {ad : Nat → Nat} {σ : zMem} (F : Int → Int) (h : ∀ i, 0 ≤ i → i < 240 → σ 67 i = F i) (k : Gd K cells slots pc L st (wM ad (z_t K) (zS σ 67 F))) : Gd K cells slots pc L st (wM ad (z_t K) σ) := z_arr 20 rfl (fun j hj => congrArg zI (h j (by omega) (by omega))) (z_ws (ws' := wM ad (z_t K) (zS σ 67 F)) rfl k)
/-- where a cell is -/
theorem zGeo {σ : zMem} (hw : zHw σ) {c : Int} (hc : 0 ≤ c ∧ c < zN σ) : (0 ≤ c % σ 1 0 ∧ c % σ 1 0 < σ 1 0) ∧ (0 ≤ c / σ 1 0 % σ 2 0 ∧ c / σ 1 0 % σ 2 0 < σ 2 0) ∧ (0 ≤ c / (σ 1 0 * σ 2 0) ∧ c / (σ 1 0 * σ 2 0) < σ 0 0) ∧ c = c / (σ 1 0 * σ 2 0) * (σ 1 0 * σ 2 0) + (c / σ 1 0 % σ 2 0 * σ 1 0 + c % σ 1 0) ∧ (0 ≤ c / σ 1 0 % σ 2 0 * σ 1 0 + c % σ 1 0 ∧ c / σ 1 0 % σ 2 0 * σ 1 0 + c % σ 1 0 < σ 1 0 * σ 2 0) := by
  have hW := hw
  unfold zHw at hW
  have hwh := zHw_wh hw
  have e1 := Int.emod_add_mul_ediv c (σ 1 0)
  have e2 := Int.emod_add_mul_ediv (c / σ 1 0) (σ 2 0)
  have e3 : c / σ 1 0 / σ 2 0 = c / (σ 1 0 * σ 2 0) := by rw [Int.ediv_ediv_of_nonneg (by omega)]
  have b1 := Int.emod_nonneg c (show σ 1 0 ≠ 0 by omega)
  have b2 := Int.emod_lt_of_pos c (show 0 < σ 1 0 by omega)
  have b3 := Int.emod_nonneg (c / σ 1 0) (show σ 2 0 ≠ 0 by omega)
  have b4 := Int.emod_lt_of_pos (c / σ 1 0) (show 0 < σ 2 0 by omega)
  have b5 : 0 ≤ c / (σ 1 0 * σ 2 0) := Int.ediv_nonneg hc.1 (by omega)
  have b6 : c / (σ 1 0 * σ 2 0) < σ 0 0 := by
    rw [Int.ediv_lt_iff_lt_mul (by omega), ← zN_eq]
    exact hc.2
  have e4 : c = c / (σ 1 0 * σ 2 0) * (σ 1 0 * σ 2 0) + (c / σ 1 0 % σ 2 0 * σ 1 0 + c % σ 1 0) := by
    rw [← e3]
    generalize c / σ 1 0 / σ 2 0 = q at e2 ⊢
    generalize c / σ 1 0 % σ 2 0 = y at e2 ⊢
    rw [← e2] at e1
    rw [Int.mul_add] at e1
    have m1 : σ 1 0 * y = y * σ 1 0 := Int.mul_comm _ _
    have m2 : σ 1 0 * (σ 2 0 * q) = q * (σ 1 0 * σ 2 0) := by rw [← Int.mul_assoc, Int.mul_comm]
    rw [m1, m2] at e1
    omega
  refine ⟨⟨b1, b2⟩, ⟨b3, b4⟩, ⟨b5, b6⟩, e4, ?_⟩
  have m3 : c / σ 1 0 % σ 2 0 * σ 1 0 ≤ (σ 2 0 - 1) * σ 1 0 := Int.mul_le_mul_of_nonneg_right (by omega) (by omega)
  have m4 : 0 ≤ c / σ 1 0 % σ 2 0 * σ 1 0 := Int.mul_nonneg b3 (by omega)
  rw [Int.sub_mul, Int.one_mul, Int.mul_comm (σ 2 0)] at m3
  omega
theorem zb_m100 : (Int8.ofInt (-100)).toInt32 = zI (-100) := by decide +kernel
theorem zb_m10 : (Int8.ofInt (-10)).toInt32 = zI (-10) := by decide +kernel
theorem zb_m4 : (Int8.ofInt (-4)).toInt32 = zI (-4) := by decide +kernel
theorem zb_m3 : (Int8.ofInt (-3)).toInt32 = zI (-3) := by decide +kernel
theorem zb_m2 : (Int8.ofInt (-2)).toInt32 = zI (-2) := by decide +kernel
theorem zb_6 : (Int8.ofInt (6)).toInt32 = zI (6) := by decide +kernel
theorem zb_7 : (Int8.ofInt (7)).toInt32 = zI (7) := by decide +kernel
theorem zb_8 : (Int8.ofInt (8)).toInt32 = zI (8) := by decide +kernel
theorem zb_9 : (Int8.ofInt (9)).toInt32 = zI (9) := by decide +kernel
theorem zb_10 : (Int8.ofInt (10)).toInt32 = zI (10) := by decide +kernel
theorem zb_11 : (Int8.ofInt (11)).toInt32 = zI (11) := by decide +kernel
theorem zb_19 : (Int8.ofInt (19)).toInt32 = zI (19) := by decide +kernel
theorem zb_20 : (Int8.ofInt (20)).toInt32 = zI (20) := by decide +kernel
theorem zb_30 : (Int8.ofInt (30)).toInt32 = zI (30) := by decide +kernel
theorem zb_31 : (Int8.ofInt (31)).toInt32 = zI (31) := by decide +kernel
theorem zb_36 : (Int8.ofInt (36)).toInt32 = zI (36) := by decide +kernel
theorem zb_72 : (Int8.ofInt (72)).toInt32 = zI (72) := by decide +kernel
theorem zb_108 : (Int8.ofInt (108)).toInt32 = zI (108) := by decide +kernel
theorem zs_150 : (Int16.ofInt (150)).toInt32 = zI (150) := by decide +kernel
theorem zs_240 : (Int16.ofInt (240)).toInt32 = zI (240) := by decide +kernel
theorem zs_255 : (Int16.ofInt (255)).toInt32 = zI (255) := by decide +kernel
theorem zs_504 : (Int16.ofInt (504)).toInt32 = zI (504) := by decide +kernel
theorem zs_792 : (Int16.ofInt (792)).toInt32 = zI (792) := by decide +kernel
theorem zs_960 : (Int16.ofInt (960)).toInt32 = zI (960) := by decide +kernel
theorem zs_2160 : (Int16.ofInt (2160)).toInt32 = zI (2160) := by decide +kernel
theorem zs_6336 : (Int16.ofInt (6336)).toInt32 = zI (6336) := by decide +kernel
theorem gk_RX1_39 : Cond.constant RX1 39 (zI (1000000)) ∈ wsL_law := by
  have h := gw_6_21
  rw [show ((1000000) : Int32) = zI (1000000) from by decide +kernel] at h
  exact h
theorem gk_RX1_40 : Cond.constantLong RX1 40 (zL (1000000)) ∈ wsL_law := by
  have h := gw_6_22
  rw [show ((1000000) : Int64) = zL (1000000) from by decide +kernel] at h
  exact h
theorem gk_RX8_160 : Cond.constant RX8 160 (zI (1000000)) ∈ wsL_law := by
  have h := gw_9_6
  rw [show ((1000000) : Int32) = zI (1000000) from by decide +kernel] at h
  exact h
theorem gk_RX8_161 : Cond.constantLong RX8 161 (zL (1000000)) ∈ wsL_law := by
  have h := gw_9_7
  rw [show ((1000000) : Int64) = zL (1000000) from by decide +kernel] at h
  exact h
theorem gk_RX8_163 : Cond.constantLong RX8 163 (zL (-1)) ∈ wsL_law := by
  have h := gw_9_8
  rw [show ((-1) : Int64) = zL (-1) from by decide +kernel] at h
  exact h
theorem gk_RX1_52 : Cond.constantLong RX1 52 (zL (1000)) ∈ wsL_law := by
  have h := gw_21_2
  rw [show ((1000) : Int64) = zL (1000) from by decide +kernel] at h
  exact h
theorem gk_RX8_169 : Cond.constantLong RX8 169 (zL (1000)) ∈ wsL_law := by
  have h := gw_21_22
  rw [show ((1000) : Int64) = zL (1000) from by decide +kernel] at h
  exact h
theorem gk_RX7_166 : Cond.constant RX7 166 (zI (1000000)) ∈ wsL_law := by
  have h := gw_25_4
  rw [show ((1000000) : Int32) = zI (1000000) from by decide +kernel] at h
  exact h
theorem gk_RX7_222 : Cond.constant RX7 222 (zI (-2147483648)) ∈ wsL_law := by
  have h := gw_34_23
  rw [show ((-2147483648) : Int32) = zI (-2147483648) from by decide +kernel] at h
  exact h
theorem gk_RX8_202 : Cond.constant RX8 202 (zI (-2147483648)) ∈ wsL_law := by
  have h := gw_35_5
  rw [show ((-2147483648) : Int32) = zI (-2147483648) from by decide +kernel] at h
  exact h
theorem gk_RX7_268 : Cond.constantLong RX7 268 (zL (17)) ∈ wsL_law := by
  have h := gw_36_19
  rw [show ((17) : Int64) = zL (17) from by decide +kernel] at h
  exact h
theorem gk_RX7_270 : Cond.constantLong RX7 270 (zL (31)) ∈ wsL_law := by
  have h := gw_36_20
  rw [show ((31) : Int64) = zL (31) from by decide +kernel] at h
  exact h
theorem gk_RX8_203 : Cond.constantLong RX8 203 (zL (17)) ∈ wsL_law := by
  have h := gw_37_6
  rw [show ((17) : Int64) = zL (17) from by decide +kernel] at h
  exact h
theorem gk_RX8_205 : Cond.constantLong RX8 205 (zL (31)) ∈ wsL_law := by
  have h := gw_37_7
  rw [show ((31) : Int64) = zL (31) from by decide +kernel] at h
  exact h
section ZD
variable {K : z_KT} {cells slots pc : Nat} {st : List Value} {ws : va_W}
theorem z_drop0 {v : Option Value} {r : List (Option Value)} (k : Gd K cells slots pc (none :: r) st ws) : Gd K cells slots pc (v :: r) st ws := z_forget (L' := none :: r) rfl (fun j u h => by
  by_cases e : j = 0
  · subst e; exact absurd h (by simp)
  · have q : (none :: r) = (v :: r).set 0 none := rfl
    rw [q, List.getElem?_set_ne (Ne.symm e)] at h
    exact h) k
theorem z_drop1 {a0 : Option Value} {v : Option Value} {r : List (Option Value)} (k : Gd K cells slots pc (a0 :: none :: r) st ws) : Gd K cells slots pc (a0 :: v :: r) st ws := z_forget (L' := a0 :: none :: r) rfl (fun j u h => by
  by_cases e : j = 1
  · subst e; exact absurd h (by simp)
  · have q : (a0 :: none :: r) = (a0 :: v :: r).set 1 none := rfl
    rw [q, List.getElem?_set_ne (Ne.symm e)] at h
    exact h) k
theorem z_drop2 {a0 a1 : Option Value} {v : Option Value} {r : List (Option Value)} (k : Gd K cells slots pc (a0 :: a1 :: none :: r) st ws) : Gd K cells slots pc (a0 :: a1 :: v :: r) st ws := z_forget (L' := a0 :: a1 :: none :: r) rfl (fun j u h => by
  by_cases e : j = 2
  · subst e; exact absurd h (by simp)
  · have q : (a0 :: a1 :: none :: r) = (a0 :: a1 :: v :: r).set 2 none := rfl
    rw [q, List.getElem?_set_ne (Ne.symm e)] at h
    exact h) k
theorem z_drop3 {a0 a1 a2 : Option Value} {v : Option Value} {r : List (Option Value)} (k : Gd K cells slots pc (a0 :: a1 :: a2 :: none :: r) st ws) : Gd K cells slots pc (a0 :: a1 :: a2 :: v :: r) st ws := z_forget (L' := a0 :: a1 :: a2 :: none :: r) rfl (fun j u h => by
  by_cases e : j = 3
  · subst e; exact absurd h (by simp)
  · have q : (a0 :: a1 :: a2 :: none :: r) = (a0 :: a1 :: a2 :: v :: r).set 3 none := rfl
    rw [q, List.getElem?_set_ne (Ne.symm e)] at h
    exact h) k
theorem z_drop4 {a0 a1 a2 a3 : Option Value} {v : Option Value} {r : List (Option Value)} (k : Gd K cells slots pc (a0 :: a1 :: a2 :: a3 :: none :: r) st ws) : Gd K cells slots pc (a0 :: a1 :: a2 :: a3 :: v :: r) st ws := z_forget (L' := a0 :: a1 :: a2 :: a3 :: none :: r) rfl (fun j u h => by
  by_cases e : j = 4
  · subst e; exact absurd h (by simp)
  · have q : (a0 :: a1 :: a2 :: a3 :: none :: r) = (a0 :: a1 :: a2 :: a3 :: v :: r).set 4 none := rfl
    rw [q, List.getElem?_set_ne (Ne.symm e)] at h
    exact h) k
theorem z_drop5 {a0 a1 a2 a3 a4 : Option Value} {v : Option Value} {r : List (Option Value)} (k : Gd K cells slots pc (a0 :: a1 :: a2 :: a3 :: a4 :: none :: r) st ws) : Gd K cells slots pc (a0 :: a1 :: a2 :: a3 :: a4 :: v :: r) st ws := z_forget (L' := a0 :: a1 :: a2 :: a3 :: a4 :: none :: r) rfl (fun j u h => by
  by_cases e : j = 5
  · subst e; exact absurd h (by simp)
  · have q : (a0 :: a1 :: a2 :: a3 :: a4 :: none :: r) = (a0 :: a1 :: a2 :: a3 :: a4 :: v :: r).set 5 none := rfl
    rw [q, List.getElem?_set_ne (Ne.symm e)] at h
    exact h) k
theorem z_drop6 {a0 a1 a2 a3 a4 a5 : Option Value} {v : Option Value} {r : List (Option Value)} (k : Gd K cells slots pc (a0 :: a1 :: a2 :: a3 :: a4 :: a5 :: none :: r) st ws) : Gd K cells slots pc (a0 :: a1 :: a2 :: a3 :: a4 :: a5 :: v :: r) st ws := z_forget (L' := a0 :: a1 :: a2 :: a3 :: a4 :: a5 :: none :: r) rfl (fun j u h => by
  by_cases e : j = 6
  · subst e; exact absurd h (by simp)
  · have q : (a0 :: a1 :: a2 :: a3 :: a4 :: a5 :: none :: r) = (a0 :: a1 :: a2 :: a3 :: a4 :: a5 :: v :: r).set 6 none := rfl
    rw [q, List.getElem?_set_ne (Ne.symm e)] at h
    exact h) k
theorem z_drop7 {a0 a1 a2 a3 a4 a5 a6 : Option Value} {v : Option Value} {r : List (Option Value)} (k : Gd K cells slots pc (a0 :: a1 :: a2 :: a3 :: a4 :: a5 :: a6 :: none :: r) st ws) : Gd K cells slots pc (a0 :: a1 :: a2 :: a3 :: a4 :: a5 :: a6 :: v :: r) st ws := z_forget (L' := a0 :: a1 :: a2 :: a3 :: a4 :: a5 :: a6 :: none :: r) rfl (fun j u h => by
  by_cases e : j = 7
  · subst e; exact absurd h (by simp)
  · have q : (a0 :: a1 :: a2 :: a3 :: a4 :: a5 :: a6 :: none :: r) = (a0 :: a1 :: a2 :: a3 :: a4 :: a5 :: a6 :: v :: r).set 7 none := rfl
    rw [q, List.getElem?_set_ne (Ne.symm e)] at h
    exact h) k
theorem z_drop8 {a0 a1 a2 a3 a4 a5 a6 a7 : Option Value} {v : Option Value} {r : List (Option Value)} (k : Gd K cells slots pc (a0 :: a1 :: a2 :: a3 :: a4 :: a5 :: a6 :: a7 :: none :: r) st ws) : Gd K cells slots pc (a0 :: a1 :: a2 :: a3 :: a4 :: a5 :: a6 :: a7 :: v :: r) st ws := z_forget (L' := a0 :: a1 :: a2 :: a3 :: a4 :: a5 :: a6 :: a7 :: none :: r) rfl (fun j u h => by
  by_cases e : j = 8
  · subst e; exact absurd h (by simp)
  · have q : (a0 :: a1 :: a2 :: a3 :: a4 :: a5 :: a6 :: a7 :: none :: r) = (a0 :: a1 :: a2 :: a3 :: a4 :: a5 :: a6 :: a7 :: v :: r).set 8 none := rfl
    rw [q, List.getElem?_set_ne (Ne.symm e)] at h
    exact h) k
theorem z_drop9 {a0 a1 a2 a3 a4 a5 a6 a7 a8 : Option Value} {v : Option Value} {r : List (Option Value)} (k : Gd K cells slots pc (a0 :: a1 :: a2 :: a3 :: a4 :: a5 :: a6 :: a7 :: a8 :: none :: r) st ws) : Gd K cells slots pc (a0 :: a1 :: a2 :: a3 :: a4 :: a5 :: a6 :: a7 :: a8 :: v :: r) st ws := z_forget (L' := a0 :: a1 :: a2 :: a3 :: a4 :: a5 :: a6 :: a7 :: a8 :: none :: r) rfl (fun j u h => by
  by_cases e : j = 9
  · subst e; exact absurd h (by simp)
  · have q : (a0 :: a1 :: a2 :: a3 :: a4 :: a5 :: a6 :: a7 :: a8 :: none :: r) = (a0 :: a1 :: a2 :: a3 :: a4 :: a5 :: a6 :: a7 :: a8 :: v :: r).set 9 none := rfl
    rw [q, List.getElem?_set_ne (Ne.symm e)] at h
    exact h) k
theorem z_drop10 {a0 a1 a2 a3 a4 a5 a6 a7 a8 a9 : Option Value} {v : Option Value} {r : List (Option Value)} (k : Gd K cells slots pc (a0 :: a1 :: a2 :: a3 :: a4 :: a5 :: a6 :: a7 :: a8 :: a9 :: none :: r) st ws) : Gd K cells slots pc (a0 :: a1 :: a2 :: a3 :: a4 :: a5 :: a6 :: a7 :: a8 :: a9 :: v :: r) st ws := z_forget (L' := a0 :: a1 :: a2 :: a3 :: a4 :: a5 :: a6 :: a7 :: a8 :: a9 :: none :: r) rfl (fun j u h => by
  by_cases e : j = 10
  · subst e; exact absurd h (by simp)
  · have q : (a0 :: a1 :: a2 :: a3 :: a4 :: a5 :: a6 :: a7 :: a8 :: a9 :: none :: r) = (a0 :: a1 :: a2 :: a3 :: a4 :: a5 :: a6 :: a7 :: a8 :: a9 :: v :: r).set 10 none := rfl
    rw [q, List.getElem?_set_ne (Ne.symm e)] at h
    exact h) k
theorem z_drop11 {a0 a1 a2 a3 a4 a5 a6 a7 a8 a9 a10 : Option Value} {v : Option Value} {r : List (Option Value)} (k : Gd K cells slots pc (a0 :: a1 :: a2 :: a3 :: a4 :: a5 :: a6 :: a7 :: a8 :: a9 :: a10 :: none :: r) st ws) : Gd K cells slots pc (a0 :: a1 :: a2 :: a3 :: a4 :: a5 :: a6 :: a7 :: a8 :: a9 :: a10 :: v :: r) st ws := z_forget (L' := a0 :: a1 :: a2 :: a3 :: a4 :: a5 :: a6 :: a7 :: a8 :: a9 :: a10 :: none :: r) rfl (fun j u h => by
  by_cases e : j = 11
  · subst e; exact absurd h (by simp)
  · have q : (a0 :: a1 :: a2 :: a3 :: a4 :: a5 :: a6 :: a7 :: a8 :: a9 :: a10 :: none :: r) = (a0 :: a1 :: a2 :: a3 :: a4 :: a5 :: a6 :: a7 :: a8 :: a9 :: a10 :: v :: r).set 11 none := rfl
    rw [q, List.getElem?_set_ne (Ne.symm e)] at h
    exact h) k
theorem z_drop12 {a0 a1 a2 a3 a4 a5 a6 a7 a8 a9 a10 a11 : Option Value} {v : Option Value} {r : List (Option Value)} (k : Gd K cells slots pc (a0 :: a1 :: a2 :: a3 :: a4 :: a5 :: a6 :: a7 :: a8 :: a9 :: a10 :: a11 :: none :: r) st ws) : Gd K cells slots pc (a0 :: a1 :: a2 :: a3 :: a4 :: a5 :: a6 :: a7 :: a8 :: a9 :: a10 :: a11 :: v :: r) st ws := z_forget (L' := a0 :: a1 :: a2 :: a3 :: a4 :: a5 :: a6 :: a7 :: a8 :: a9 :: a10 :: a11 :: none :: r) rfl (fun j u h => by
  by_cases e : j = 12
  · subst e; exact absurd h (by simp)
  · have q : (a0 :: a1 :: a2 :: a3 :: a4 :: a5 :: a6 :: a7 :: a8 :: a9 :: a10 :: a11 :: none :: r) = (a0 :: a1 :: a2 :: a3 :: a4 :: a5 :: a6 :: a7 :: a8 :: a9 :: a10 :: a11 :: v :: r).set 12 none := rfl
    rw [q, List.getElem?_set_ne (Ne.symm e)] at h
    exact h) k
theorem z_drop13 {a0 a1 a2 a3 a4 a5 a6 a7 a8 a9 a10 a11 a12 : Option Value} {v : Option Value} {r : List (Option Value)} (k : Gd K cells slots pc (a0 :: a1 :: a2 :: a3 :: a4 :: a5 :: a6 :: a7 :: a8 :: a9 :: a10 :: a11 :: a12 :: none :: r) st ws) : Gd K cells slots pc (a0 :: a1 :: a2 :: a3 :: a4 :: a5 :: a6 :: a7 :: a8 :: a9 :: a10 :: a11 :: a12 :: v :: r) st ws := z_forget (L' := a0 :: a1 :: a2 :: a3 :: a4 :: a5 :: a6 :: a7 :: a8 :: a9 :: a10 :: a11 :: a12 :: none :: r) rfl (fun j u h => by
  by_cases e : j = 13
  · subst e; exact absurd h (by simp)
  · have q : (a0 :: a1 :: a2 :: a3 :: a4 :: a5 :: a6 :: a7 :: a8 :: a9 :: a10 :: a11 :: a12 :: none :: r) = (a0 :: a1 :: a2 :: a3 :: a4 :: a5 :: a6 :: a7 :: a8 :: a9 :: a10 :: a11 :: a12 :: v :: r).set 13 none := rfl
    rw [q, List.getElem?_set_ne (Ne.symm e)] at h
    exact h) k
theorem z_drop14 {a0 a1 a2 a3 a4 a5 a6 a7 a8 a9 a10 a11 a12 a13 : Option Value} {v : Option Value} {r : List (Option Value)} (k : Gd K cells slots pc (a0 :: a1 :: a2 :: a3 :: a4 :: a5 :: a6 :: a7 :: a8 :: a9 :: a10 :: a11 :: a12 :: a13 :: none :: r) st ws) : Gd K cells slots pc (a0 :: a1 :: a2 :: a3 :: a4 :: a5 :: a6 :: a7 :: a8 :: a9 :: a10 :: a11 :: a12 :: a13 :: v :: r) st ws := z_forget (L' := a0 :: a1 :: a2 :: a3 :: a4 :: a5 :: a6 :: a7 :: a8 :: a9 :: a10 :: a11 :: a12 :: a13 :: none :: r) rfl (fun j u h => by
  by_cases e : j = 14
  · subst e; exact absurd h (by simp)
  · have q : (a0 :: a1 :: a2 :: a3 :: a4 :: a5 :: a6 :: a7 :: a8 :: a9 :: a10 :: a11 :: a12 :: a13 :: none :: r) = (a0 :: a1 :: a2 :: a3 :: a4 :: a5 :: a6 :: a7 :: a8 :: a9 :: a10 :: a11 :: a12 :: a13 :: v :: r).set 14 none := rfl
    rw [q, List.getElem?_set_ne (Ne.symm e)] at h
    exact h) k
theorem z_drop15 {a0 a1 a2 a3 a4 a5 a6 a7 a8 a9 a10 a11 a12 a13 a14 : Option Value} {v : Option Value} {r : List (Option Value)} (k : Gd K cells slots pc (a0 :: a1 :: a2 :: a3 :: a4 :: a5 :: a6 :: a7 :: a8 :: a9 :: a10 :: a11 :: a12 :: a13 :: a14 :: none :: r) st ws) : Gd K cells slots pc (a0 :: a1 :: a2 :: a3 :: a4 :: a5 :: a6 :: a7 :: a8 :: a9 :: a10 :: a11 :: a12 :: a13 :: a14 :: v :: r) st ws := z_forget (L' := a0 :: a1 :: a2 :: a3 :: a4 :: a5 :: a6 :: a7 :: a8 :: a9 :: a10 :: a11 :: a12 :: a13 :: a14 :: none :: r) rfl (fun j u h => by
  by_cases e : j = 15
  · subst e; exact absurd h (by simp)
  · have q : (a0 :: a1 :: a2 :: a3 :: a4 :: a5 :: a6 :: a7 :: a8 :: a9 :: a10 :: a11 :: a12 :: a13 :: a14 :: none :: r) = (a0 :: a1 :: a2 :: a3 :: a4 :: a5 :: a6 :: a7 :: a8 :: a9 :: a10 :: a11 :: a12 :: a13 :: a14 :: v :: r).set 15 none := rfl
    rw [q, List.getElem?_set_ne (Ne.symm e)] at h
    exact h) k
end ZD
