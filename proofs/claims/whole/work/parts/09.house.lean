/-! THE HOUSE: where steps lead -/
def zPl (σ : zMem) (c : Int) : Int := c / σ 1 0 % σ 2 0 * σ 1 0 + c % σ 1 0
def zT0 (σ : zMem) (c : Int) : Int := if ¬ σ 6 (c / σ 1 0 % σ 2 0 * σ 1 0 + c % σ 1 0) = 0 ∧ 0 < c / (σ 1 0 * σ 2 0) then c - σ 1 0 * σ 2 0 else -1
def zT1 (σ : zMem) (c : Int) : Int := if 0 < c / σ 1 0 % σ 2 0 ∧ σ 5 (c - σ 1 0) = 0 then c - σ 1 0 else -1
def zT2 (σ : zMem) (c : Int) : Int := if 0 < c % σ 1 0 ∧ σ 4 (c - 1) = 0 then c - 1 else -1
def zT3 (σ : zMem) (c : Int) : Int := if 0 < σ 3 0 then c else -1
def zT4 (σ : zMem) (c : Int) : Int := if c % σ 1 0 < σ 1 0 - 1 ∧ σ 4 c = 0 then c + 1 else -1
def zT5 (σ : zMem) (c : Int) : Int := if c / σ 1 0 % σ 2 0 < σ 2 0 - 1 ∧ σ 5 c = 0 then c + σ 1 0 else -1
def zT6 (σ : zMem) (c : Int) : Int := if ¬ σ 6 (c / σ 1 0 % σ 2 0 * σ 1 0 + c % σ 1 0) = 0 ∧ c / (σ 1 0 * σ 2 0) < σ 0 0 - 1 then c + σ 1 0 * σ 2 0 else -1
def zTg (σ : zMem) (c d : Int) : Int := if d = 0 then zT0 σ c else if d = 1 then zT1 σ c else if d = 2 then zT2 σ c else if d = 3 then zT3 σ c else if d = 4 then zT4 σ c else if d = 5 then zT5 σ c else zT6 σ c
def zTb (σ : zMem) : Prop := ∀ c, 0 ≤ c → c < zN σ → ∀ d, 0 ≤ d → d < 7 → σ 33 (c * 7 + d) = zTg σ c d
theorem zTg_E {μ σ : zMem} {l : List Nat} (h : zE μ σ l) (h0 : 0 ∉ l := by decide) (h1 : 1 ∉ l := by decide) (h2 : 2 ∉ l := by decide) (h3 : 3 ∉ l := by decide) (h4 : 4 ∉ l := by decide) (h5 : 5 ∉ l := by decide) (h6 : 6 ∉ l := by decide) (c d : Int) : zTg μ c d = zTg σ c d := by
  unfold zTg zT0 zT1 zT2 zT3 zT4 zT5 zT6
  rw [h 0 h0, h 1 h1, h 2 h2, h 3 h3, h 4 h4, h 5 h5, h 6 h6]
def zRow (μ σ : zMem) (a c k : Int) : Prop := zE μ σ [33] ∧ (∀ j, 0 ≤ j → j < k → μ 33 (a + j) = zTg σ c j) ∧ ∀ i, i < a ∨ a + 7 ≤ i → μ 33 i = σ 33 i
theorem zRow_st {μ σ : zMem} {a c k k1 i v : Int} (h : zRow μ σ a c k) (hk : (0 ≤ k ∧ k < 7) ∧ k1 = k + 1) (hv : v = zTg σ c k) (hi : i = a + k) : zRow (zS μ 33 (zU (μ 33) i v)) σ a c k1 := by
  refine ⟨zE_set h.1 (by decide), fun j h0 h1 => ?_, fun j hj => ?_⟩
  · rw [zS_s]
    by_cases e : j = k
    · subst e; rw [hi, zU_s, hv]
    · rw [zU_n (by omega), h.2.1 j h0 (by omega)]
  · rw [zS_s, zU_n (by omega), h.2.2 j hj]
theorem zGeo2 {σ : zMem} (hw : zHw σ) {c : Int} (hc : 0 ≤ c ∧ c < zN σ) : (0 < c / σ 1 0 % σ 2 0 → σ 1 0 ≤ c) ∧ (0 < c % σ 1 0 → 1 ≤ c) := by
  have hW := hw
  unfold zHw at hW
  constructor
  · intro h
    rcases Int.lt_or_le c (σ 1 0) with q | q
    · rw [Int.ediv_eq_zero_of_lt hc.1 q] at h
      simp at h
    · exact q
  · intro h
    rcases Int.lt_or_le c 1 with q | q
    · have : c = 0 := by omega
      rw [this] at h
      simp at h
    · exact q
theorem zTg_b {σ : zMem} (hw : zHw σ) {c : Int} (hc : 0 ≤ c ∧ c < zN σ) {d : Int} (hd : 0 ≤ d ∧ d < 7) : zTg σ c d = -1 ∨ (0 ≤ zTg σ c d ∧ zTg σ c d < zN σ) := by
  have hW := hw
  unfold zHw at hW
  obtain ⟨g1, g2, g3, g4, g5⟩ := zGeo hw hc
  obtain ⟨g6, g7⟩ := zGeo2 hw hc
  have hwh := zHw_wh hw
  have e := zN_eq σ
  have m1 : 0 < c / (σ 1 0 * σ 2 0) → σ 1 0 * σ 2 0 ≤ c := by
    intro h
    have := Int.mul_le_mul_of_nonneg_right (show 1 ≤ c / (σ 1 0 * σ 2 0) by omega) (show 0 ≤ σ 1 0 * σ 2 0 by omega)
    omega
  have m2 : c / (σ 1 0 * σ 2 0) < σ 0 0 - 1 → c + σ 1 0 * σ 2 0 < zN σ := by
    intro h
    have := Int.mul_le_mul_of_nonneg_right (show c / (σ 1 0 * σ 2 0) + 2 ≤ σ 0 0 by omega) (show 0 ≤ σ 1 0 * σ 2 0 by omega)
    rw [Int.add_mul] at this
    omega
  have m0 : c / (σ 1 0 * σ 2 0) * (σ 1 0 * σ 2 0) + σ 1 0 * σ 2 0 ≤ zN σ := by
    have := Int.mul_le_mul_of_nonneg_right (show c / (σ 1 0 * σ 2 0) + 1 ≤ σ 0 0 by omega) (show 0 ≤ σ 1 0 * σ 2 0 by omega)
    rw [Int.add_mul, Int.one_mul] at this
    omega
  have m3 : c % σ 1 0 < σ 1 0 - 1 → c + 1 < zN σ := by
    intro h
    have := Int.mul_le_mul_of_nonneg_right (show c / σ 1 0 % σ 2 0 ≤ σ 2 0 - 1 by omega) (show 0 ≤ σ 1 0 by omega)
    rw [Int.sub_mul, Int.one_mul, Int.mul_comm (σ 2 0)] at this
    omega
  have m4 : c / σ 1 0 % σ 2 0 < σ 2 0 - 1 → c + σ 1 0 < zN σ := by
    intro h
    have := Int.mul_le_mul_of_nonneg_right (show c / σ 1 0 % σ 2 0 + 2 ≤ σ 2 0 by omega) (show 0 ≤ σ 1 0 by omega)
    rw [Int.add_mul, Int.mul_comm (σ 2 0)] at this
    omega
  unfold zTg zT0 zT1 zT2 zT3 zT4 zT5 zT6
  split
  · split
    · rename_i h; have := m1 h.2; omega
    · exact Or.inl rfl
  · split
    · split
      · rename_i h; have := g6 h.1; omega
      · exact Or.inl rfl
    · split
      · split
        · rename_i h; have := g7 h.1; omega
        · exact Or.inl rfl
      · split
        · split
          · omega
          · exact Or.inl rfl
        · split
          · split
            · rename_i h; have := m3 h.1; omega
            · exact Or.inl rfl
          · split
            · split
              · rename_i h; have := m4 h.1; omega
              · exact Or.inl rfl
            · split
              · rename_i h; have := m2 h.2; omega
              · exact Or.inl rfl
theorem zTb_b {σ : zMem} (hw : zHw σ) (ht : zTb σ) {c : Int} (hc : 0 ≤ c ∧ c < zN σ) (d : Int) (h0 : 0 ≤ d) (h1 : d < 7) : -1 ≤ σ 33 (c * 7 + d) ∧ σ 33 (c * 7 + d) < zN σ := by
  have a := zTg_b hw hc ⟨h0, h1⟩
  have b := zHw_N hw
  rw [ht c hc.1 hc.2 d h0 h1]
  omega
def zBo (σ : zMem) (k : Nat) : Prop := ∀ i, σ k i = 0 ∨ σ k i = 1
theorem zBo_u {σ : zMem} {k : Nat} (h : zBo σ k) {i v : Int} (hv : v = 0 ∨ v = 1) : ∀ j, zU (σ k) i v j = 0 ∨ zU (σ k) i v j = 1 := by
  intro j
  by_cases e : j = i
  · subst e; rw [zU_s]; exact hv
  · rw [zU_n e]; exact h j

set_option maxRecDepth 100000 in
set_option maxHeartbeats 4000000 in
theorem k_X3_cells {l : Launch} {D : va_G} {t : Nat → ClassId} {ad : Nat → Nat} {σ : zMem}   : z_Ci l D t yX3_cells cX3_cells 1 .int 0 0 0 0 [.ref (ad 1)] (wX ad t σ) (fun r w => w = wX ad t σ ∧ r = zN σ) := by
  refine z_Ci_of (by decide +kernel) [some (.ref (ad 1))] rfl rfl (Nat.le_of_ble_eq_true rfl) fun K hl hD ht hR hn C ret => ?_
  subst hl; subst hD; subst ht
  refine z_aload_n C (z_d dtX3_cells_0 0 rfl) rfl ?_
  refine gf_X3_9 C (z_d dtX3_cells_0 1 rfl) ?_
  refine z_aload_n C (z_d dtX3_cells_0 2 rfl) rfl ?_
  refine gf_X3_15 C (z_d dtX3_cells_0 3 rfl) ?_
  refine z_imul C (z_d dtX3_cells_0 4 rfl) ?_
  refine z_aload_n C (z_d dtX3_cells_0 5 rfl) rfl ?_
  refine gf_X3_18 C (z_d dtX3_cells_0 6 rfl) ?_
  refine z_imul C (z_d dtX3_cells_0 7 rfl) ?_
  exact ret _ _ _ _ (z_d dtX3_cells_0 8 rfl) (⟨rfl, rfl⟩) rfl

set_option maxRecDepth 100000 in
set_option maxHeartbeats 4000000 in
theorem k_X3_hasCell {l : Launch} {D : va_G} {t : Nat → ClassId} {ad : Nat → Nat} {σ : zMem} {c : Int} (hw : zHw σ) (hc : -2147483648 ≤ c ∧ c < 2147483648) : z_Ci l D t yX3_hasCell cX3_hasCell 2 .boolean 1 20 0 0 [.ref (ad 1), .int (zI c)] (wX ad t σ) (fun r w => w = wX ad t σ ∧ ((r = 1 ∧ (0 ≤ c ∧ c < zN σ)) ∨ (r = 0 ∧ ¬ (0 ≤ c ∧ c < zN σ)))) := by
  refine z_Ci_of (by decide +kernel) [some (.ref (ad 1)), some (.int (zI c))] rfl rfl (Nat.le_of_ble_eq_true rfl) fun K hl hD ht hR hn C ret => ?_
  subst hl; subst hD; subst ht
  have hN := zHw_N hw
  refine z_iload_n C (z_d dtX3_hasCell_0 0 rfl) rfl ?_
  refine z_if_lt (tgt := 16) C (z_d dtX3_hasCell_0 1 rfl) (by decide) (by omega) (fun h_1 => ?_) (fun h_1 => ?_)
  · refine z_iconst C (z_d dtX3_hasCell_0 8 rfl) ?_
    exact ret _ _ _ _ (z_d dtX3_hasCell_0 9 rfl) (⟨rfl, by omega⟩) (z_nb (by omega))
  · refine z_iload_n C (z_d dtX3_hasCell_0 2 rfl) rfl ?_
    refine z_aload_n C (z_d dtX3_hasCell_0 3 rfl) rfl ?_
    refine z_callV C (z_d dtX3_hasCell_0 4 rfl) (k_X3_cells  ) cal_X3_cells gw_5_5 rfl 1 3 rfl rfl rfl rfl hR ⟨rfl, rfl, rfl, rfl⟩ rfl (fun r_6 w_6 h_6 => ?_)
    obtain ⟨rfl, rfl⟩ := h_6
    refine z_icmp_ge (tgt := 16) C (z_d dtX3_hasCell_0 5 rfl) (by decide) (by omega) (fun h_9 => ?_) (fun h_9 => ?_)
    · refine z_iconst C (z_d dtX3_hasCell_0 8 rfl) ?_
      exact ret _ _ _ _ (z_d dtX3_hasCell_0 9 rfl) (⟨rfl, by omega⟩) (z_nb (by omega))
    · refine z_iconst C (z_d dtX3_hasCell_0 6 rfl) ?_
      refine z_goto (tgt := 17) C (z_d dtX3_hasCell_0 7 rfl) (by decide) ?_
      exact ret _ _ _ _ (z_d dtX3_hasCell_0 9 rfl) (⟨rfl, by omega⟩) (z_nb (by omega))

set_option maxRecDepth 100000 in
set_option maxHeartbeats 4000000 in
theorem k_X3_hasPlace {l : Launch} {D : va_G} {t : Nat → ClassId} {ad : Nat → Nat} {σ : zMem} {x y : Int} (hw : zHw σ) (hx : -2147483648 ≤ x ∧ x < 2147483648) (hy : -2147483648 ≤ y ∧ y < 2147483648) : z_Ci l D t yX3_hasPlace cX3_hasPlace 3 .boolean 0 0 0 0 [.ref (ad 1), .int (zI x), .int (zI y)] (wX ad t σ) (fun r w => w = wX ad t σ ∧ ((r = 1 ∧ ((0 ≤ x ∧ x < σ 1 0) ∧ (0 ≤ y ∧ y < σ 2 0))) ∨ (r = 0 ∧ ¬ ((0 ≤ x ∧ x < σ 1 0) ∧ (0 ≤ y ∧ y < σ 2 0))))) := by
  refine z_Ci_of (by decide +kernel) [some (.ref (ad 1)), some (.int (zI x)), some (.int (zI y))] rfl rfl (Nat.le_of_ble_eq_true rfl) fun K hl hD ht hR hn C ret => ?_
  subst hl; subst hD; subst ht
  have hW := hw; unfold zHw at hW
  refine z_iload_n C (z_d dtX3_hasPlace_0 0 rfl) rfl ?_
  refine z_if_lt (tgt := 28) C (z_d dtX3_hasPlace_0 1 rfl) (by decide) (by omega) (fun h_1 => ?_) (fun h_1 => ?_)
  · refine z_iconst C (z_d dtX3_hasPlace_0 14 rfl) ?_
    exact ret _ _ _ _ (z_d dtX3_hasPlace_0 15 rfl) (⟨rfl, by omega⟩) (z_nb (by omega))
  · refine z_iload_n C (z_d dtX3_hasPlace_0 2 rfl) rfl ?_
    refine z_aload_n C (z_d dtX3_hasPlace_0 3 rfl) rfl ?_
    refine gf_X3_15 C (z_d dtX3_hasPlace_0 4 rfl) ?_
    refine z_icmp_ge (tgt := 28) C (z_d dtX3_hasPlace_0 5 rfl) (by decide) (by omega) (fun h_9 => ?_) (fun h_9 => ?_)
    · refine z_iconst C (z_d dtX3_hasPlace_0 14 rfl) ?_
      exact ret _ _ _ _ (z_d dtX3_hasPlace_0 15 rfl) (⟨rfl, by omega⟩) (z_nb (by omega))
    · refine z_iload_n C (z_d dtX3_hasPlace_0 6 rfl) rfl ?_
      refine z_if_lt (tgt := 28) C (z_d dtX3_hasPlace_0 7 rfl) (by decide) (by omega) (fun h_13 => ?_) (fun h_13 => ?_)
      · refine z_iconst C (z_d dtX3_hasPlace_0 14 rfl) ?_
        exact ret _ _ _ _ (z_d dtX3_hasPlace_0 15 rfl) (⟨rfl, by omega⟩) (z_nb (by omega))
      · refine z_iload_n C (z_d dtX3_hasPlace_0 8 rfl) rfl ?_
        refine z_aload_n C (z_d dtX3_hasPlace_0 9 rfl) rfl ?_
        refine gf_X3_18 C (z_d dtX3_hasPlace_0 10 rfl) ?_
        refine z_icmp_ge (tgt := 28) C (z_d dtX3_hasPlace_0 11 rfl) (by decide) (by omega) (fun h_21 => ?_) (fun h_21 => ?_)
        · refine z_iconst C (z_d dtX3_hasPlace_0 14 rfl) ?_
          exact ret _ _ _ _ (z_d dtX3_hasPlace_0 15 rfl) (⟨rfl, by omega⟩) (z_nb (by omega))
        · refine z_iconst C (z_d dtX3_hasPlace_0 12 rfl) ?_
          refine z_goto (tgt := 29) C (z_d dtX3_hasPlace_0 13 rfl) (by decide) ?_
          exact ret _ _ _ _ (z_d dtX3_hasPlace_0 15 rfl) (⟨rfl, by omega⟩) (z_nb (by omega))

set_option maxRecDepth 100000 in
set_option maxHeartbeats 4000000 in
theorem k_X3_hasArea {l : Launch} {D : va_G} {t : Nat → ClassId} {ad : Nat → Nat} {σ : zMem} {f x0 x1 y0 y1 : Int} (hw : zHw σ) (hf : -2147483648 ≤ f ∧ f < 2147483648) (hx0 : -2147483648 ≤ x0 ∧ x0 < 2147483648) (hx1 : -2147483648 ≤ x1 ∧ x1 < 2147483648) (hy0 : -2147483648 ≤ y0 ∧ y0 < 2147483648) (hy1 : -2147483648 ≤ y1 ∧ y1 < 2147483648) : z_Ci l D t yX3_hasArea cX3_hasArea 6 .boolean 1 22 0 0 [.ref (ad 1), .int (zI f), .int (zI x0), .int (zI x1), .int (zI y0), .int (zI y1)] (wX ad t σ) (fun r w => w = wX ad t σ ∧ ((r = 1 ∧ (zIsA σ f x0 x1 y0 y1)) ∨ (r = 0 ∧ ¬ (zIsA σ f x0 x1 y0 y1)))) := by
  refine z_Ci_of (by decide +kernel) [some (.ref (ad 1)), some (.int (zI f)), some (.int (zI x0)), some (.int (zI x1)), some (.int (zI y0)), some (.int (zI y1))] rfl rfl (Nat.le_of_ble_eq_true rfl) fun K hl hD ht hR hn C ret => ?_
  subst hl; subst hD; subst ht
  have hW := hw; unfold zHw at hW
  refine z_iload_n C (z_d dtX3_hasArea_0 0 rfl) rfl ?_
  refine z_if_lt (tgt := 48) C (z_d dtX3_hasArea_0 1 rfl) (by decide) (by omega) (fun h_1 => ?_) (fun h_1 => ?_)
  · refine z_iconst C (z_d dtX3_hasArea_0 24 rfl) ?_
    exact ret _ _ _ _ (z_d dtX3_hasArea_0 25 rfl) (⟨rfl, by unfold zIsA; omega⟩) (z_nb (by omega))
  · refine z_iload_n C (z_d dtX3_hasArea_0 2 rfl) rfl ?_
    refine z_aload_n C (z_d dtX3_hasArea_0 3 rfl) rfl ?_
    refine gf_X3_9 C (z_d dtX3_hasArea_0 4 rfl) ?_
    refine z_icmp_ge (tgt := 48) C (z_d dtX3_hasArea_0 5 rfl) (by decide) (by omega) (fun h_9 => ?_) (fun h_9 => ?_)
    · refine z_iconst C (z_d dtX3_hasArea_0 24 rfl) ?_
      exact ret _ _ _ _ (z_d dtX3_hasArea_0 25 rfl) (⟨rfl, by unfold zIsA; omega⟩) (z_nb (by omega))
    · refine z_iload_n C (z_d dtX3_hasArea_0 6 rfl) rfl ?_
      refine z_iload_n C (z_d dtX3_hasArea_0 7 rfl) rfl ?_
      refine z_icmp_gt (tgt := 48) C (z_d dtX3_hasArea_0 8 rfl) (by decide) (by omega) (fun h_14 => ?_) (fun h_14 => ?_)
      · refine z_iconst C (z_d dtX3_hasArea_0 24 rfl) ?_
        exact ret _ _ _ _ (z_d dtX3_hasArea_0 25 rfl) (⟨rfl, by unfold zIsA; omega⟩) (z_nb (by omega))
      · refine z_iload C (z_d dtX3_hasArea_0 9 rfl) rfl ?_
        refine z_iload C (z_d dtX3_hasArea_0 10 rfl) rfl ?_
        refine z_icmp_gt (tgt := 48) C (z_d dtX3_hasArea_0 11 rfl) (by decide) (by omega) (fun h_21 => ?_) (fun h_21 => ?_)
        · refine z_iconst C (z_d dtX3_hasArea_0 24 rfl) ?_
          exact ret _ _ _ _ (z_d dtX3_hasArea_0 25 rfl) (⟨rfl, by unfold zIsA; omega⟩) (z_nb (by omega))
        · refine z_aload_n C (z_d dtX3_hasArea_0 12 rfl) rfl ?_
          refine z_iload_n C (z_d dtX3_hasArea_0 13 rfl) rfl ?_
          refine z_iload C (z_d dtX3_hasArea_0 14 rfl) rfl ?_
          refine z_callV C (z_d dtX3_hasArea_0 15 rfl) (k_X3_hasPlace  (by first | assumption | omega) (by first | assumption | omega) (by first | assumption | omega)) cal_X3_hasPlace gw_24_7 rfl 1 3 rfl rfl rfl rfl hR ⟨rfl, rfl, rfl, rfl⟩ rfl (fun r_28 w_28 h_28 => ?_)
          obtain ⟨rfl, h_28⟩ := h_28
          refine z_if_eq (tgt := 48) C (z_d dtX3_hasArea_0 16 rfl) (by decide) (by omega) (fun h_31 => ?_) (fun h_31 => ?_)
          · refine z_iconst C (z_d dtX3_hasArea_0 24 rfl) ?_
            exact ret _ _ _ _ (z_d dtX3_hasArea_0 25 rfl) (⟨rfl, by unfold zIsA; omega⟩) (z_nb (by omega))
          · refine z_aload_n C (z_d dtX3_hasArea_0 17 rfl) rfl ?_
            refine z_iload_n C (z_d dtX3_hasArea_0 18 rfl) rfl ?_
            refine z_iload C (z_d dtX3_hasArea_0 19 rfl) rfl ?_
            refine z_callV C (z_d dtX3_hasArea_0 20 rfl) (k_X3_hasPlace  (by first | assumption | omega) (by first | assumption | omega) (by first | assumption | omega)) cal_X3_hasPlace gw_24_7 rfl 1 3 rfl rfl rfl rfl hR ⟨rfl, rfl, rfl, rfl⟩ rfl (fun r_38 w_38 h_38 => ?_)
            obtain ⟨rfl, h_38⟩ := h_38
            refine z_if_eq (tgt := 48) C (z_d dtX3_hasArea_0 21 rfl) (by decide) (by omega) (fun h_41 => ?_) (fun h_41 => ?_)
            · refine z_iconst C (z_d dtX3_hasArea_0 24 rfl) ?_
              exact ret _ _ _ _ (z_d dtX3_hasArea_0 25 rfl) (⟨rfl, by unfold zIsA; omega⟩) (z_nb (by omega))
            · refine z_iconst C (z_d dtX3_hasArea_0 22 rfl) ?_
              refine z_goto (tgt := 49) C (z_d dtX3_hasArea_0 23 rfl) (by decide) ?_
              exact ret _ _ _ _ (z_d dtX3_hasArea_0 25 rfl) (⟨rfl, by unfold zIsA; omega⟩) (z_nb (by omega))

set_option maxRecDepth 100000 in
set_option maxHeartbeats 4000000 in
theorem k_X3_cellAt {l : Launch} {D : va_G} {t : Nat → ClassId} {ad : Nat → Nat} {σ : zMem} {f x y : Int}  : z_Ci l D t yX3_cellAt cX3_cellAt 4 .int 0 0 0 0 [.ref (ad 1), .int (zI f), .int (zI x), .int (zI y)] (wX ad t σ) (fun r w => w = wX ad t σ ∧ r = (f * σ 2 0 + y) * σ 1 0 + x) := by
  refine z_Ci_of (by decide +kernel) [some (.ref (ad 1)), some (.int (zI f)), some (.int (zI x)), some (.int (zI y))] rfl rfl (Nat.le_of_ble_eq_true rfl) fun K hl hD ht hR hn C ret => ?_
  subst hl; subst hD; subst ht
  refine z_iload_n C (z_d dtX3_cellAt_0 0 rfl) rfl ?_
  refine z_aload_n C (z_d dtX3_cellAt_0 1 rfl) rfl ?_
  refine gf_X3_18 C (z_d dtX3_cellAt_0 2 rfl) ?_
  refine z_imul C (z_d dtX3_cellAt_0 3 rfl) ?_
  refine z_iload_n C (z_d dtX3_cellAt_0 4 rfl) rfl ?_
  refine z_iadd C (z_d dtX3_cellAt_0 5 rfl) ?_
  refine z_aload_n C (z_d dtX3_cellAt_0 6 rfl) rfl ?_
  refine gf_X3_15 C (z_d dtX3_cellAt_0 7 rfl) ?_
  refine z_imul C (z_d dtX3_cellAt_0 8 rfl) ?_
  refine z_iload_n C (z_d dtX3_cellAt_0 9 rfl) rfl ?_
  refine z_iadd C (z_d dtX3_cellAt_0 10 rfl) ?_
  exact ret _ _ _ _ (z_d dtX3_cellAt_0 11 rfl) (⟨rfl, rfl⟩) rfl

set_option maxRecDepth 100000 in
set_option maxHeartbeats 4000000 in
theorem k_X3_xOf {l : Launch} {D : va_G} {t : Nat → ClassId} {ad : Nat → Nat} {σ : zMem} {c : Int} (hw : zHw σ) (hc : 0 ≤ c ∧ c < 2147483648) : z_Ci l D t yX3_xOf cX3_xOf 2 .int 0 0 0 0 [.ref (ad 1), .int (zI c)] (wX ad t σ) (fun r w => w = wX ad t σ ∧ r = c % σ 1 0) := by
  refine z_Ci_of (by decide +kernel) [some (.ref (ad 1)), some (.int (zI c))] rfl rfl (Nat.le_of_ble_eq_true rfl) fun K hl hD ht hR hn C ret => ?_
  subst hl; subst hD; subst ht
  have hW := hw; unfold zHw at hW
  refine z_iload_n C (z_d dtX3_xOf_0 0 rfl) rfl ?_
  refine z_aload_n C (z_d dtX3_xOf_0 1 rfl) rfl ?_
  refine gf_X3_15 C (z_d dtX3_xOf_0 2 rfl) ?_
  refine z_irem C (z_d dtX3_xOf_0 3 rfl) (by omega) ?_
  exact ret _ _ _ _ (z_d dtX3_xOf_0 4 rfl) (⟨rfl, rfl⟩) rfl

set_option maxRecDepth 100000 in
set_option maxHeartbeats 4000000 in
theorem k_X3_yOf {l : Launch} {D : va_G} {t : Nat → ClassId} {ad : Nat → Nat} {σ : zMem} {c : Int} (hw : zHw σ) (hc : 0 ≤ c ∧ c < 2147483648) : z_Ci l D t yX3_yOf cX3_yOf 2 .int 0 0 0 0 [.ref (ad 1), .int (zI c)] (wX ad t σ) (fun r w => w = wX ad t σ ∧ r = c / σ 1 0 % σ 2 0) := by
  refine z_Ci_of (by decide +kernel) [some (.ref (ad 1)), some (.int (zI c))] rfl rfl (Nat.le_of_ble_eq_true rfl) fun K hl hD ht hR hn C ret => ?_
  subst hl; subst hD; subst ht
  have hW := hw; unfold zHw at hW
  have q1 := Int.ediv_nonneg hc.1 (show 0 ≤ σ 1 0 by omega)
  have q2 := Int.ediv_le_self (σ 1 0) hc.1
  refine z_iload_n C (z_d dtX3_yOf_0 0 rfl) rfl ?_
  refine z_aload_n C (z_d dtX3_yOf_0 1 rfl) rfl ?_
  refine gf_X3_15 C (z_d dtX3_yOf_0 2 rfl) ?_
  refine z_idiv C (z_d dtX3_yOf_0 3 rfl) (by omega) ?_
  refine z_aload_n C (z_d dtX3_yOf_0 4 rfl) rfl ?_
  refine gf_X3_18 C (z_d dtX3_yOf_0 5 rfl) ?_
  refine z_irem C (z_d dtX3_yOf_0 6 rfl) (by omega) ?_
  exact ret _ _ _ _ (z_d dtX3_yOf_0 7 rfl) (⟨rfl, rfl⟩) rfl

set_option maxRecDepth 100000 in
set_option maxHeartbeats 4000000 in
theorem k_X3_floorOf {l : Launch} {D : va_G} {t : Nat → ClassId} {ad : Nat → Nat} {σ : zMem} {c : Int} (hw : zHw σ) (hc : 0 ≤ c ∧ c < 2147483648) : z_Ci l D t yX3_floorOf cX3_floorOf 2 .int 0 0 0 0 [.ref (ad 1), .int (zI c)] (wX ad t σ) (fun r w => w = wX ad t σ ∧ r = c / (σ 1 0 * σ 2 0)) := by
  refine z_Ci_of (by decide +kernel) [some (.ref (ad 1)), some (.int (zI c))] rfl rfl (Nat.le_of_ble_eq_true rfl) fun K hl hD ht hR hn C ret => ?_
  subst hl; subst hD; subst ht
  have hW := zHw_wh hw
  refine z_iload_n C (z_d dtX3_floorOf_0 0 rfl) rfl ?_
  refine z_aload_n C (z_d dtX3_floorOf_0 1 rfl) rfl ?_
  refine gf_X3_15 C (z_d dtX3_floorOf_0 2 rfl) ?_
  refine z_aload_n C (z_d dtX3_floorOf_0 3 rfl) rfl ?_
  refine gf_X3_18 C (z_d dtX3_floorOf_0 4 rfl) ?_
  refine z_imul C (z_d dtX3_floorOf_0 5 rfl) ?_
  refine z_idiv C (z_d dtX3_floorOf_0 6 rfl) (by omega) ?_
  exact ret _ _ _ _ (z_d dtX3_floorOf_0 7 rfl) (⟨rfl, rfl⟩) rfl

set_option maxRecDepth 100000 in
set_option maxHeartbeats 4000000 in
theorem k_X3_targetOf {l : Launch} {D : va_G} {t : Nat → ClassId} {ad : Nat → Nat} {σ : zMem} {c d : Int} (hc : 0 ≤ c ∧ c < 72) (hd : 0 ≤ d ∧ d < 7) : z_Ci l D t yX3_targetOf cX3_targetOf 3 .int 0 0 0 0 [.ref (ad 1), .int (zI c), .int (zI d)] (wX ad t σ) (fun r w => w = wX ad t σ ∧ r = σ 33 (c * 7 + d)) := by
  refine z_Ci_of (by decide +kernel) [some (.ref (ad 1)), some (.int (zI c)), some (.int (zI d))] rfl rfl (Nat.le_of_ble_eq_true rfl) fun K hl hD ht hR hn C ret => ?_
  subst hl; subst hD; subst ht
  refine z_aload_n C (z_d dtX3_targetOf_0 0 rfl) rfl ?_
  refine gf_X3_40 C (z_d dtX3_targetOf_0 1 rfl) ?_
  refine z_iload_n C (z_d dtX3_targetOf_0 2 rfl) rfl ?_
  refine z_bipush C (z_d dtX3_targetOf_0 3 rfl) zb_7 ?_
  refine z_imul C (z_d dtX3_targetOf_0 4 rfl) ?_
  refine z_iload_n C (z_d dtX3_targetOf_0 5 rfl) rfl ?_
  refine z_iadd C (z_d dtX3_targetOf_0 6 rfl) ?_
  refine al_X11 C (z_d dtX3_targetOf_0 7 rfl) (by omega) ?_
  exact ret _ _ _ _ (z_d dtX3_targetOf_0 8 rfl) (⟨rfl, rfl⟩) rfl

set_option maxRecDepth 100000 in
set_option maxHeartbeats 4000000 in
theorem k_X3_likelyTo {l : Launch} {D : va_G} {t : Nat → ClassId} {ad : Nat → Nat} {σ : zMem} {d : Int} (hd : 0 ≤ d ∧ d < 7) : z_Ci l D t yX3_likelyTo cX3_likelyTo 2 .int 0 0 0 0 [.ref (ad 1), .int (zI d)] (wX ad t σ) (fun r w => w = wX ad t σ ∧ r = zLik σ d) := by
  refine z_Ci_of (by decide +kernel) [some (.ref (ad 1)), some (.int (zI d))] rfl rfl (Nat.le_of_ble_eq_true rfl) fun K hl hD ht hR hn C ret => ?_
  subst hl; subst hD; subst ht
  refine z_iload_n C (z_d dtX3_likelyTo_0 0 rfl) rfl ?_
  refine z_iconst C (z_d dtX3_likelyTo_0 1 rfl) ?_
  refine z_icmp_ne (tgt := 10) C (z_d dtX3_likelyTo_0 2 rfl) (by decide) (by omega) (fun h_2 => ?_) (fun h_2 => ?_)
  · refine z_iload_n C (z_d dtX3_likelyTo_0 6 rfl) rfl ?_
    refine z_if_eq (tgt := 20) C (z_d dtX3_likelyTo_0 7 rfl) (by decide) (by omega) (fun h_11 => ?_) (fun h_11 => ?_)
    · refine z_iconst C (z_d dtX3_likelyTo_0 11 rfl) ?_
      refine z_goto (tgt := 25) C (z_d dtX3_likelyTo_0 12 rfl) (by decide) ?_
      exact ret _ _ _ _ (z_d dtX3_likelyTo_0 14 rfl) (⟨rfl, by rw [zLik, if_neg (by omega)]; first | rw [if_pos (by omega)] | rw [if_neg (by omega)]⟩) rfl
    · refine z_iload_n C (z_d dtX3_likelyTo_0 8 rfl) rfl ?_
      refine z_bipush C (z_d dtX3_likelyTo_0 9 rfl) zb_6 ?_
      refine z_icmp_ne (tgt := 24) C (z_d dtX3_likelyTo_0 10 rfl) (by decide) (by omega) (fun h_17 => ?_) (fun h_17 => ?_)
      · refine z_iconst C (z_d dtX3_likelyTo_0 13 rfl) ?_
        exact ret _ _ _ _ (z_d dtX3_likelyTo_0 14 rfl) (⟨rfl, by rw [zLik, if_neg (by omega)]; first | rw [if_pos (by omega)] | rw [if_neg (by omega)]⟩) rfl
      · refine z_iconst C (z_d dtX3_likelyTo_0 11 rfl) ?_
        refine z_goto (tgt := 25) C (z_d dtX3_likelyTo_0 12 rfl) (by decide) ?_
        exact ret _ _ _ _ (z_d dtX3_likelyTo_0 14 rfl) (⟨rfl, by rw [zLik, if_neg (by omega)]; first | rw [if_pos (by omega)] | rw [if_neg (by omega)]⟩) rfl
  · refine z_aload_n C (z_d dtX3_likelyTo_0 3 rfl) rfl ?_
    refine gf_X3_27 C (z_d dtX3_likelyTo_0 4 rfl) ?_
    exact ret _ _ _ _ (z_d dtX3_likelyTo_0 5 rfl) (⟨rfl, by rw [zLik, if_pos (by omega)]⟩) rfl

set_option maxRecDepth 100000 in
set_option maxHeartbeats 4000000 in
theorem k_X3_likelyOfAll {l : Launch} {D : va_G} {t : Nat → ClassId} {ad : Nat → Nat} {σ : zMem} {c : Int} (hw : zHw σ) (hc : 0 ≤ c ∧ c < zN σ) (hs : 0 ≤ σ 3 0 ∧ σ 3 0 ≤ 9) (ht : zTb σ) : z_Ci l D t yX3_likelyOfAll cX3_likelyOfAll 4 .int 1 22 0 0 [.ref (ad 1), .int (zI c)] (wX ad t σ) (fun r w => w = wX ad t σ ∧ r = zAll σ c 7) := by
  refine z_Ci_of (by decide +kernel) [some (.ref (ad 1)), some (.int (zI c)), none, none] rfl rfl (Nat.le_of_ble_eq_true rfl) fun K hl hD ht hR hn C ret => ?_
  subst hl; subst hD; subst ht
  have hN := zHw_N hw
  have htb := zTb_b hw ht hc
  refine z_iconst C (z_d dtX3_likelyOfAll_0 0 rfl) ?_
  refine z_istore_n2 C (z_d dtX3_likelyOfAll_0 1 rfl) rfl ?_
  refine z_iconst C (z_d dtX3_likelyOfAll_0 2 rfl) ?_
  refine z_istore_n3 C (z_d dtX3_likelyOfAll_0 3 rfl) rfl ?_
  have lp_4 : ∀ (N_4 : Nat) (i : Nat) (d s : Int), (d = i ∧ i ≤ 7) → (s = zAll σ c i) → 7 - i < N_4 → Gd K 0 0 4 [some (.ref (ad 1)), some (.int (zI c)), some (.int (zI s)), some (.int (zI d))] [] (wX ad (z_t K) σ) := by
    intro N_4
    induction N_4 with
    | zero => intro i d s hi hs2 hm_4; exact absurd hm_4 (Nat.not_lt_zero _)
    | succ N_4 ih_4 =>
      intro i d s hi hs2 hm_4
      obtain ⟨rfl, hi⟩ := hi
      have hb := htb i (by omega)
      refine z_iload_n C (z_d dtX3_likelyOfAll_0 4 rfl) rfl ?_
      refine z_bipush C (z_d dtX3_likelyOfAll_0 5 rfl) zb_7 ?_
      refine z_icmp_ge (tgt := 34) C (z_d dtX3_likelyOfAll_0 6 rfl) (by decide) (by omega) (fun h_7 => ?_) (fun h_7 => ?_)
      · refine z_iload_n C (z_d dtX3_likelyOfAll_0 21 rfl) rfl ?_
        exact ret _ _ _ _ (z_d dtX3_likelyOfAll_0 22 rfl) (⟨rfl, by rw [hs2, show i = 7 by omega]⟩) rfl
      · refine z_aload_n C (z_d dtX3_likelyOfAll_0 7 rfl) rfl ?_
        refine z_iload_n C (z_d dtX3_likelyOfAll_0 8 rfl) rfl ?_
        refine z_iload_n C (z_d dtX3_likelyOfAll_0 9 rfl) rfl ?_
        refine z_callV C (z_d dtX3_likelyOfAll_0 10 rfl) (k_X3_targetOf  (by first | assumption | omega) (by first | assumption | omega)) cal_X3_targetOf gw_13_8 rfl 1 3 rfl rfl rfl rfl hR ⟨rfl, rfl, rfl, rfl⟩ rfl (fun r_13 w_13 h_13 => ?_)
        obtain ⟨rfl, rfl⟩ := h_13
        refine z_iconst C (z_d dtX3_likelyOfAll_0 11 rfl) ?_
        refine z_icmp_eq (tgt := 28) C (z_d dtX3_likelyOfAll_0 12 rfl) (by decide) (by omega) (fun h_17 => ?_) (fun h_17 => ?_)
        · refine z_iinc3 C (z_d dtX3_likelyOfAll_0 19 rfl) rfl ?_
          refine z_goto (tgt := 4) C (z_d dtX3_likelyOfAll_0 20 rfl) (by decide) ?_
          exact ih_4 (i + 1) _ _ (by omega) (by rw [zAll]; split <;> omega) (by omega)
        · refine z_iload_n C (z_d dtX3_likelyOfAll_0 13 rfl) rfl ?_
          refine z_aload_n C (z_d dtX3_likelyOfAll_0 14 rfl) rfl ?_
          refine z_iload_n C (z_d dtX3_likelyOfAll_0 15 rfl) rfl ?_
          refine z_callV C (z_d dtX3_likelyOfAll_0 16 rfl) (k_X3_likelyTo  (by first | assumption | omega)) cal_X3_likelyTo gw_13_12 rfl 1 3 rfl rfl rfl rfl hR ⟨rfl, rfl, rfl, rfl⟩ rfl (fun r_23 w_23 h_23 => ?_)
          obtain ⟨rfl, rfl⟩ := h_23
          refine z_iadd C (z_d dtX3_likelyOfAll_0 17 rfl) ?_
          refine z_istore_n2 C (z_d dtX3_likelyOfAll_0 18 rfl) rfl ?_
          refine z_iinc3 C (z_d dtX3_likelyOfAll_0 19 rfl) rfl ?_
          refine z_goto (tgt := 4) C (z_d dtX3_likelyOfAll_0 20 rfl) (by decide) ?_
          exact ih_4 (i + 1) _ _ (by omega) (by rw [zAll]; split <;> omega) (by omega)
  exact lp_4 _ 0 _ _ (by omega) rfl (Nat.lt_succ_self _)

set_option maxRecDepth 100000 in
set_option maxHeartbeats 4000000 in
theorem k_X3_likelyBetween {l : Launch} {D : va_G} {t : Nat → ClassId} {ad : Nat → Nat} {σ : zMem} {c to : Int} (hw : zHw σ) (hc : 0 ≤ c ∧ c < zN σ) (ht : zTb σ) (hto : -2147483648 ≤ to ∧ to < 2147483648) : z_Ci l D t yX3_likelyBetween cX3_likelyBetween 4 .int 1 22 0 0 [.ref (ad 1), .int (zI c), .int (zI to)] (wX ad t σ) (fun r w => w = wX ad t σ ∧ ((∃ d, 0 ≤ d ∧ d < 7 ∧ σ 33 (c * 7 + d) = to ∧ (∀ j, 0 ≤ j → j < d → σ 33 (c * 7 + j) ≠ to) ∧ r = zLik σ d) ∨ ((∀ d, 0 ≤ d → d < 7 → σ 33 (c * 7 + d) ≠ to) ∧ r = 0))) := by
  refine z_Ci_of (by decide +kernel) [some (.ref (ad 1)), some (.int (zI c)), some (.int (zI to)), none] rfl rfl (Nat.le_of_ble_eq_true rfl) fun K hl hD ht hR hn C ret => ?_
  subst hl; subst hD; subst ht
  have hN := zHw_N hw
  have htb := zTb_b hw ht hc
  refine z_iconst C (z_d dtX3_likelyBetween_0 0 rfl) ?_
  refine z_istore_n3 C (z_d dtX3_likelyBetween_0 1 rfl) rfl ?_
  have lp_2 : ∀ (N_2 : Nat) (d : Int), (0 ≤ d ∧ d ≤ 7) → (∀ j, 0 ≤ j → j < d → σ 33 (c * 7 + j) ≠ to) → (7 - d).toNat < N_2 → Gd K 0 0 2 [some (.ref (ad 1)), some (.int (zI c)), some (.int (zI to)), some (.int (zI d))] [] (wX ad (z_t K) σ) := by
    intro N_2
    induction N_2 with
    | zero => intro d hd hn hm_2; exact absurd hm_2 (Nat.not_lt_zero _)
    | succ N_2 ih_2 =>
      intro d hd hn hm_2
      have hb := htb d hd.1
      refine z_iload_n C (z_d dtX3_likelyBetween_0 2 rfl) rfl ?_
      refine z_bipush C (z_d dtX3_likelyBetween_0 3 rfl) zb_7 ?_
      refine z_icmp_ge (tgt := 30) C (z_d dtX3_likelyBetween_0 4 rfl) (by decide) (by omega) (fun h_5 => ?_) (fun h_5 => ?_)
      · refine z_iconst C (z_d dtX3_likelyBetween_0 17 rfl) ?_
        exact ret _ _ _ _ (z_d dtX3_likelyBetween_0 18 rfl) (⟨rfl, Or.inr ⟨fun j h0 h1 => hn j h0 (by omega), rfl⟩⟩) rfl
      · refine z_aload_n C (z_d dtX3_likelyBetween_0 5 rfl) rfl ?_
        refine z_iload_n C (z_d dtX3_likelyBetween_0 6 rfl) rfl ?_
        refine z_iload_n C (z_d dtX3_likelyBetween_0 7 rfl) rfl ?_
        refine z_callV C (z_d dtX3_likelyBetween_0 8 rfl) (k_X3_targetOf  (by first | assumption | omega) (by first | assumption | omega)) cal_X3_targetOf gw_13_8 rfl 1 3 rfl rfl rfl rfl hR ⟨rfl, rfl, rfl, rfl⟩ rfl (fun r_11 w_11 h_11 => ?_)
        obtain ⟨rfl, rfl⟩ := h_11
        refine z_iload_n C (z_d dtX3_likelyBetween_0 9 rfl) rfl ?_
        refine z_icmp_ne (tgt := 24) C (z_d dtX3_likelyBetween_0 10 rfl) (by decide) (by omega) (fun h_15 => ?_) (fun h_15 => ?_)
        · refine z_iinc3 C (z_d dtX3_likelyBetween_0 15 rfl) rfl ?_
          refine z_goto (tgt := 2) C (z_d dtX3_likelyBetween_0 16 rfl) (by decide) ?_
          exact ih_2 _ (by omega) (fun j h0 h1 => by
                by_cases e : j = d
                · subst e; omega
                · exact hn j h0 (by omega)) (by omega)
        · refine z_aload_n C (z_d dtX3_likelyBetween_0 11 rfl) rfl ?_
          refine z_iload_n C (z_d dtX3_likelyBetween_0 12 rfl) rfl ?_
          refine z_callV C (z_d dtX3_likelyBetween_0 13 rfl) (k_X3_likelyTo  (by first | assumption | omega)) cal_X3_likelyTo gw_13_12 rfl 1 3 rfl rfl rfl rfl hR ⟨rfl, rfl, rfl, rfl⟩ rfl (fun r_20 w_20 h_20 => ?_)
          obtain ⟨rfl, rfl⟩ := h_20
          exact ret _ _ _ _ (z_d dtX3_likelyBetween_0 14 rfl) (⟨rfl, Or.inl ⟨d, by omega, by omega, by omega, hn, rfl⟩⟩) rfl
  exact lp_2 _ _ (by omega) (fun j h0 h1 => absurd h1 (by omega)) (Nat.lt_succ_self _)

set_option maxRecDepth 100000 in
set_option maxHeartbeats 4000000 in
theorem k_X3_areBeside {l : Launch} {D : va_G} {t : Nat → ClassId} {ad : Nat → Nat} {σ : zMem} {a b : Int} (hw : zHw σ) (ha : 0 ≤ a ∧ a < zN σ) (hb : 0 ≤ b ∧ b < zN σ) : z_Ci l D t yX3_areBeside cX3_areBeside 4 .boolean 1 21 0 0 [.ref (ad 1), .int (zI a), .int (zI b)] (wX ad t σ) (fun r w => w = wX ad t σ ∧ ((r = 1 ∧ (a / (σ 1 0 * σ 2 0) = b / (σ 1 0 * σ 2 0) ∧ ((a % σ 1 0 = b % σ 1 0 ∧ (a / σ 1 0 % σ 2 0 - b / σ 1 0 % σ 2 0 = 1 ∨ a / σ 1 0 % σ 2 0 - b / σ 1 0 % σ 2 0 = -1)) ∨ (a / σ 1 0 % σ 2 0 = b / σ 1 0 % σ 2 0 ∧ (a % σ 1 0 - b % σ 1 0 = 1 ∨ a % σ 1 0 - b % σ 1 0 = -1))))) ∨ (r = 0 ∧ ¬ (a / (σ 1 0 * σ 2 0) = b / (σ 1 0 * σ 2 0) ∧ ((a % σ 1 0 = b % σ 1 0 ∧ (a / σ 1 0 % σ 2 0 - b / σ 1 0 % σ 2 0 = 1 ∨ a / σ 1 0 % σ 2 0 - b / σ 1 0 % σ 2 0 = -1)) ∨ (a / σ 1 0 % σ 2 0 = b / σ 1 0 % σ 2 0 ∧ (a % σ 1 0 - b % σ 1 0 = 1 ∨ a % σ 1 0 - b % σ 1 0 = -1))))))) := by
  refine z_Ci_of (by decide +kernel) [some (.ref (ad 1)), some (.int (zI a)), some (.int (zI b)), none] rfl rfl (Nat.le_of_ble_eq_true rfl) fun K hl hD ht hR hn C ret => ?_
  subst hl; subst hD; subst ht
  have hN := zHw_N hw
  have hW := hw; unfold zHw at hW
  have ga := zGeo hw ha
  have gb := zGeo hw hb
  refine z_aload_n C (z_d dtX3_areBeside_0 0 rfl) rfl ?_
  refine z_iload_n C (z_d dtX3_areBeside_0 1 rfl) rfl ?_
  refine z_callV C (z_d dtX3_areBeside_0 2 rfl) (k_X3_xOf  (by first | assumption | omega) (by first | assumption | omega)) cal_X3_xOf gw_5_13 rfl 1 3 rfl rfl rfl rfl hR ⟨rfl, rfl, rfl, rfl⟩ rfl (fun r_2 w_2 h_2 => ?_)
  obtain ⟨rfl, rfl⟩ := h_2
  refine z_aload_n C (z_d dtX3_areBeside_0 3 rfl) rfl ?_
  refine z_iload_n C (z_d dtX3_areBeside_0 4 rfl) rfl ?_
  refine z_callV C (z_d dtX3_areBeside_0 5 rfl) (k_X3_xOf  (by first | assumption | omega) (by first | assumption | omega)) cal_X3_xOf gw_5_13 rfl 1 3 rfl rfl rfl rfl hR ⟨rfl, rfl, rfl, rfl⟩ rfl (fun r_7 w_7 h_7 => ?_)
  obtain ⟨rfl, rfl⟩ := h_7
  refine z_isub C (z_d dtX3_areBeside_0 6 rfl) ?_
  refine z_mabsP C (z_d dtX3_areBeside_0 7 rfl) gw_10_9 gw_10_10 gw_9_20 gw_10_11 rfl (by rw [hR]; exact Nat.le_of_ble_eq_true rfl) (by rw [hR]; exact Nat.le_of_ble_eq_true rfl) (by rw [hR]; exact Nat.le_refl _) (by rw [hR]; exact Nat.le_refl _) (by omega) (fun m_11 h_11 => ?_)
  refine z_aload_n C (z_d dtX3_areBeside_0 8 rfl) rfl ?_
  refine z_iload_n C (z_d dtX3_areBeside_0 9 rfl) rfl ?_
  refine z_callV C (z_d dtX3_areBeside_0 10 rfl) (k_X3_yOf  (by first | assumption | omega) (by first | assumption | omega)) cal_X3_yOf gw_5_17 rfl 1 3 rfl rfl rfl rfl hR ⟨rfl, rfl, rfl, rfl⟩ rfl (fun r_16 w_16 h_16 => ?_)
  obtain ⟨rfl, rfl⟩ := h_16
  refine z_aload_n C (z_d dtX3_areBeside_0 11 rfl) rfl ?_
  refine z_iload_n C (z_d dtX3_areBeside_0 12 rfl) rfl ?_
  refine z_callV C (z_d dtX3_areBeside_0 13 rfl) (k_X3_yOf  (by first | assumption | omega) (by first | assumption | omega)) cal_X3_yOf gw_5_17 rfl 1 3 rfl rfl rfl rfl hR ⟨rfl, rfl, rfl, rfl⟩ rfl (fun r_21 w_21 h_21 => ?_)
  obtain ⟨rfl, rfl⟩ := h_21
  refine z_isub C (z_d dtX3_areBeside_0 14 rfl) ?_
  refine z_mabsP C (z_d dtX3_areBeside_0 15 rfl) gw_10_9 gw_10_10 gw_9_20 gw_10_11 rfl (by rw [hR]; exact Nat.le_of_ble_eq_true rfl) (by rw [hR]; exact Nat.le_of_ble_eq_true rfl) (by rw [hR]; exact Nat.le_refl _) (by rw [hR]; exact Nat.le_refl _) (by omega) (fun m_25 h_25 => ?_)
  refine z_iadd C (z_d dtX3_areBeside_0 16 rfl) ?_
  refine z_istore_n3 C (z_d dtX3_areBeside_0 17 rfl) rfl ?_
  refine z_aload_n C (z_d dtX3_areBeside_0 18 rfl) rfl ?_
  refine z_iload_n C (z_d dtX3_areBeside_0 19 rfl) rfl ?_
  refine z_callV C (z_d dtX3_areBeside_0 20 rfl) (k_X3_floorOf  (by first | assumption | omega) (by first | assumption | omega)) cal_X3_floorOf gw_5_21 rfl 1 3 rfl rfl rfl rfl hR ⟨rfl, rfl, rfl, rfl⟩ rfl (fun r_32 w_32 h_32 => ?_)
  obtain ⟨rfl, rfl⟩ := h_32
  refine z_aload_n C (z_d dtX3_areBeside_0 21 rfl) rfl ?_
  refine z_iload_n C (z_d dtX3_areBeside_0 22 rfl) rfl ?_
  refine z_callV C (z_d dtX3_areBeside_0 23 rfl) (k_X3_floorOf  (by first | assumption | omega) (by first | assumption | omega)) cal_X3_floorOf gw_5_21 rfl 1 3 rfl rfl rfl rfl hR ⟨rfl, rfl, rfl, rfl⟩ rfl (fun r_37 w_37 h_37 => ?_)
  obtain ⟨rfl, rfl⟩ := h_37
  refine z_icmp_ne (tgt := 52) C (z_d dtX3_areBeside_0 24 rfl) (by decide) (by omega) (fun h_40 => ?_) (fun h_40 => ?_)
  · refine z_iconst C (z_d dtX3_areBeside_0 30 rfl) ?_
    exact ret _ _ _ _ (z_d dtX3_areBeside_0 31 rfl) (⟨rfl, by omega⟩) (z_nb (by omega))
  · refine z_iload_n C (z_d dtX3_areBeside_0 25 rfl) rfl ?_
    refine z_iconst C (z_d dtX3_areBeside_0 26 rfl) ?_
    refine z_icmp_ne (tgt := 52) C (z_d dtX3_areBeside_0 27 rfl) (by decide) (by omega) (fun h_45 => ?_) (fun h_45 => ?_)
    · refine z_iconst C (z_d dtX3_areBeside_0 30 rfl) ?_
      exact ret _ _ _ _ (z_d dtX3_areBeside_0 31 rfl) (⟨rfl, by omega⟩) (z_nb (by omega))
    · refine z_iconst C (z_d dtX3_areBeside_0 28 rfl) ?_
      refine z_goto (tgt := 53) C (z_d dtX3_areBeside_0 29 rfl) (by decide) ?_
      exact ret _ _ _ _ (z_d dtX3_areBeside_0 31 rfl) (⟨rfl, by omega⟩) (z_nb (by omega))

set_option maxRecDepth 100000 in
set_option maxHeartbeats 4000000 in
theorem k_X3_chartStepsFrom {l : Launch} {D : va_G} {t : Nat → ClassId} {ad : Nat → Nat} {σ : zMem} {c : Int} (hw : zHw σ) (hc : 0 ≤ c ∧ c < zN σ) (hs : 0 ≤ σ 3 0 ∧ σ 3 0 ≤ 9) (h4 : zBo σ 4) (h5 : zBo σ 5) (h6 : zBo σ 6) : z_Cv l D t yX3_chartStepsFrom cX3_chartStepsFrom 7 1 21 0 0 [.ref (ad 1), .int (zI c), .int (zI (c * 7))] (wX ad t σ) (fun w => ∃ σ', w = wX ad t σ' ∧ zRow σ' σ (c * 7) c 7) := by
  refine z_Cv_of (by decide +kernel) [some (.ref (ad 1)), some (.int (zI c)), some (.int (zI (c * 7))), none, none, none, none] rfl rfl (Nat.le_of_ble_eq_true rfl) fun K hl hD ht hR hn C ret => ?_
  subst hl; subst hD; subst ht
  have hN := zHw_N hw
  have hW := hw; unfold zHw at hW
  have hwh := zHw_wh hw
  have g := zGeo hw hc
  have g2 := zGeo2 hw hc
  have b4 := h4 c
  have b41 := h4 (c - 1)
  have b5 := h5 c
  have b51 := h5 (c - σ 1 0)
  have b6 := h6 (c / σ 1 0 % σ 2 0 * σ 1 0 + c % σ 1 0)
  refine z_aload_n C (z_d dtX3_chartStepsFrom_0 0 rfl) rfl ?_
  refine z_iload_n C (z_d dtX3_chartStepsFrom_0 1 rfl) rfl ?_
  refine z_callV C (z_d dtX3_chartStepsFrom_0 2 rfl) (k_X3_xOf  (by first | assumption | omega) (by first | assumption | omega)) cal_X3_xOf gw_5_13 rfl 1 3 rfl rfl rfl rfl hR ⟨rfl, rfl, rfl, rfl⟩ rfl (fun r_2 w_2 h_2 => ?_)
  obtain ⟨rfl, rfl⟩ := h_2
  refine z_istore_n3 C (z_d dtX3_chartStepsFrom_0 3 rfl) rfl ?_
  refine z_aload_n C (z_d dtX3_chartStepsFrom_0 4 rfl) rfl ?_
  refine z_iload_n C (z_d dtX3_chartStepsFrom_0 5 rfl) rfl ?_
  refine z_callV C (z_d dtX3_chartStepsFrom_0 6 rfl) (k_X3_yOf  (by first | assumption | omega) (by first | assumption | omega)) cal_X3_yOf gw_5_17 rfl 1 3 rfl rfl rfl rfl hR ⟨rfl, rfl, rfl, rfl⟩ rfl (fun r_8 w_8 h_8 => ?_)
  obtain ⟨rfl, rfl⟩ := h_8
  refine z_istore4 C (z_d dtX3_chartStepsFrom_0 7 rfl) rfl ?_
  refine z_aload_n C (z_d dtX3_chartStepsFrom_0 8 rfl) rfl ?_
  refine z_iload_n C (z_d dtX3_chartStepsFrom_0 9 rfl) rfl ?_
  refine z_callV C (z_d dtX3_chartStepsFrom_0 10 rfl) (k_X3_floorOf  (by first | assumption | omega) (by first | assumption | omega)) cal_X3_floorOf gw_5_21 rfl 1 3 rfl rfl rfl rfl hR ⟨rfl, rfl, rfl, rfl⟩ rfl (fun r_15 w_15 h_15 => ?_)
  obtain ⟨rfl, rfl⟩ := h_15
  refine z_istore5 C (z_d dtX3_chartStepsFrom_0 11 rfl) rfl ?_
  refine z_aload_n C (z_d dtX3_chartStepsFrom_0 12 rfl) rfl ?_
  refine gf_X3_37 C (z_d dtX3_chartStepsFrom_0 13 rfl) ?_
  refine z_iload C (z_d dtX3_chartStepsFrom_0 14 rfl) rfl ?_
  refine z_aload_n C (z_d dtX3_chartStepsFrom_0 15 rfl) rfl ?_
  refine gf_X3_15 C (z_d dtX3_chartStepsFrom_0 16 rfl) ?_
  try simp (decide := true) only [zS_s, zS_o, zC, e0, e1, e2, e3, e4, e5, e6]
  refine z_imul C (z_d dtX3_chartStepsFrom_0 17 rfl) ?_
  refine z_iload_n C (z_d dtX3_chartStepsFrom_0 18 rfl) rfl ?_
  refine z_iadd C (z_d dtX3_chartStepsFrom_0 19 rfl) ?_
  refine al_X10 C (z_d dtX3_chartStepsFrom_0 20 rfl) (by omega) ?_
  try simp (decide := true) only [zS_s, zS_o, zC, e0, e1, e2, e3, e4, e5, e6]
  refine z_istore6 C (z_d dtX3_chartStepsFrom_0 21 rfl) rfl ?_
  have jn_265 : ∀ (v : Int) (μ : zMem), (v = zT6 σ c) → (zRow μ σ (c * 7) c 6) → Gd K 0 0 265 [some (.ref (ad 1)), some (.int (zI c)), some (.int (zI (c * 7))), some (.int (zI (c % σ 1 0))), some (.int (zI (c / σ 1 0 % σ 2 0))), some (.int (zI (c / (σ 1 0 * σ 2 0)))), some (.int (zI (σ 6 (c / σ 1 0 % σ 2 0 * σ 1 0 + c % σ 1 0))))] [.int (zI v), .int (zI (c * 7 + 6)), .ref (ad 11)] (wX ad (z_t K) μ) := by
    intro v μ hv hr
    have e0 := hr.1 0 (by decide)
    have e1 := hr.1 1 (by decide)
    have e2 := hr.1 2 (by decide)
    have e3 := hr.1 3 (by decide)
    have e4 := hr.1 4 (by decide)
    have e5 := hr.1 5 (by decide)
    have e6 := hr.1 6 (by decide)
    refine as_X11 C (z_d dtX3_chartStepsFrom_4 0 rfl) (by omega) ?_
    exact ret _ _ _ (z_d dtX3_chartStepsFrom_4 1 rfl) (⟨_, rfl, zRow_st hr (by omega) (by rw [hv]; simp [zTg]) (by omega)⟩)
  have jn_225 : ∀ (v : Int) (μ : zMem), (v = zT5 σ c) → (zRow μ σ (c * 7) c 5) → Gd K 0 0 225 [some (.ref (ad 1)), some (.int (zI c)), some (.int (zI (c * 7))), some (.int (zI (c % σ 1 0))), some (.int (zI (c / σ 1 0 % σ 2 0))), some (.int (zI (c / (σ 1 0 * σ 2 0)))), some (.int (zI (σ 6 (c / σ 1 0 % σ 2 0 * σ 1 0 + c % σ 1 0))))] [.int (zI v), .int (zI (c * 7 + 5)), .ref (ad 11)] (wX ad (z_t K) μ) := by
    intro v μ hv hr
    have e0 := hr.1 0 (by decide)
    have e1 := hr.1 1 (by decide)
    have e2 := hr.1 2 (by decide)
    have e3 := hr.1 3 (by decide)
    have e4 := hr.1 4 (by decide)
    have e5 := hr.1 5 (by decide)
    have e6 := hr.1 6 (by decide)
    refine as_X11 C (z_d dtX3_chartStepsFrom_3 17 rfl) (by omega) ?_
    refine z_aload_n C (z_d dtX3_chartStepsFrom_3 18 rfl) rfl ?_
    refine gf_X3_40 C (z_d dtX3_chartStepsFrom_3 19 rfl) ?_
    refine z_iload_n C (z_d dtX3_chartStepsFrom_3 20 rfl) rfl ?_
    refine z_bipush C (z_d dtX3_chartStepsFrom_3 21 rfl) zb_6 ?_
    refine z_iadd C (z_d dtX3_chartStepsFrom_3 22 rfl) ?_
    refine z_iload C (z_d dtX3_chartStepsFrom_3 23 rfl) rfl ?_
    refine z_if_eq (tgt := 264) C (z_d dtX3_chartStepsFrom_3 24 rfl) (by decide) (by omega) (fun h_236 => ?_) (fun h_236 => ?_)
    · refine z_iconst C (z_d dtX3_chartStepsFrom_3 39 rfl) ?_
      exact jn_265 _ _ (by unfold zT6; first | rw [if_pos (by omega)] | rw [if_neg (by omega)]) (zRow_st hr (by omega) (by rw [hv]; simp [zTg]) (by omega))
    · refine z_iload C (z_d dtX3_chartStepsFrom_3 25 rfl) rfl ?_
      refine z_aload_n C (z_d dtX3_chartStepsFrom_3 26 rfl) rfl ?_
      refine gf_X3_9 C (z_d dtX3_chartStepsFrom_3 27 rfl) ?_
      try simp (decide := true) only [zS_s, zS_o, zC, e0, e1, e2, e3, e4, e5, e6]
      refine z_iconst C (z_d dtX3_chartStepsFrom_3 28 rfl) ?_
      refine z_isub C (z_d dtX3_chartStepsFrom_3 29 rfl) ?_
      refine z_icmp_ge (tgt := 264) C (z_d dtX3_chartStepsFrom_3 30 rfl) (by decide) (by omega) (fun h_247 => ?_) (fun h_247 => ?_)
      · refine z_iconst C (z_d dtX3_chartStepsFrom_3 39 rfl) ?_
        exact jn_265 _ _ (by unfold zT6; first | rw [if_pos (by omega)] | rw [if_neg (by omega)]) (zRow_st hr (by omega) (by rw [hv]; simp [zTg]) (by omega))
      · refine z_iload_n C (z_d dtX3_chartStepsFrom_3 31 rfl) rfl ?_
        refine z_aload_n C (z_d dtX3_chartStepsFrom_3 32 rfl) rfl ?_
        refine gf_X3_15 C (z_d dtX3_chartStepsFrom_3 33 rfl) ?_
        try simp (decide := true) only [zS_s, zS_o, zC, e0, e1, e2, e3, e4, e5, e6]
        refine z_aload_n C (z_d dtX3_chartStepsFrom_3 34 rfl) rfl ?_
        refine gf_X3_18 C (z_d dtX3_chartStepsFrom_3 35 rfl) ?_
        try simp (decide := true) only [zS_s, zS_o, zC, e0, e1, e2, e3, e4, e5, e6]
        refine z_imul C (z_d dtX3_chartStepsFrom_3 36 rfl) ?_
        refine z_iadd C (z_d dtX3_chartStepsFrom_3 37 rfl) ?_
        refine z_goto (tgt := 265) C (z_d dtX3_chartStepsFrom_3 38 rfl) (by decide) ?_
        exact jn_265 _ _ (by unfold zT6; first | rw [if_pos (by omega)] | rw [if_neg (by omega)]) (zRow_st hr (by omega) (by rw [hv]; simp [zTg]) (by omega))
  have jn_187 : ∀ (v : Int) (μ : zMem), (v = zT4 σ c) → (zRow μ σ (c * 7) c 4) → Gd K 0 0 187 [some (.ref (ad 1)), some (.int (zI c)), some (.int (zI (c * 7))), some (.int (zI (c % σ 1 0))), some (.int (zI (c / σ 1 0 % σ 2 0))), some (.int (zI (c / (σ 1 0 * σ 2 0)))), some (.int (zI (σ 6 (c / σ 1 0 % σ 2 0 * σ 1 0 + c % σ 1 0))))] [.int (zI v), .int (zI (c * 7 + 4)), .ref (ad 11)] (wX ad (z_t K) μ) := by
    intro v μ hv hr
    have e0 := hr.1 0 (by decide)
    have e1 := hr.1 1 (by decide)
    have e2 := hr.1 2 (by decide)
    have e3 := hr.1 3 (by decide)
    have e4 := hr.1 4 (by decide)
    have e5 := hr.1 5 (by decide)
    have e6 := hr.1 6 (by decide)
    refine as_X11 C (z_d dtX3_chartStepsFrom_2 34 rfl) (by omega) ?_
    refine z_aload_n C (z_d dtX3_chartStepsFrom_2 35 rfl) rfl ?_
    refine gf_X3_40 C (z_d dtX3_chartStepsFrom_2 36 rfl) ?_
    refine z_iload_n C (z_d dtX3_chartStepsFrom_2 37 rfl) rfl ?_
    refine z_iconst C (z_d dtX3_chartStepsFrom_2 38 rfl) ?_
    refine z_iadd C (z_d dtX3_chartStepsFrom_2 39 rfl) ?_
    refine z_iload C (z_d dtX3_chartStepsFrom_3 0 rfl) rfl ?_
    refine z_aload_n C (z_d dtX3_chartStepsFrom_3 1 rfl) rfl ?_
    refine gf_X3_18 C (z_d dtX3_chartStepsFrom_3 2 rfl) ?_
    try simp (decide := true) only [zS_s, zS_o, zC, e0, e1, e2, e3, e4, e5, e6]
    refine z_iconst C (z_d dtX3_chartStepsFrom_3 3 rfl) ?_
    refine z_isub C (z_d dtX3_chartStepsFrom_3 4 rfl) ?_
    refine z_icmp_ge (tgt := 224) C (z_d dtX3_chartStepsFrom_3 5 rfl) (by decide) (by omega) (fun h_203 => ?_) (fun h_203 => ?_)
    · refine z_iconst C (z_d dtX3_chartStepsFrom_3 16 rfl) ?_
      exact jn_225 _ _ (by unfold zT5; first | rw [if_pos (by omega)] | rw [if_neg (by omega)]) (zRow_st hr (by omega) (by rw [hv]; simp [zTg]) (by omega))
    · refine z_aload_n C (z_d dtX3_chartStepsFrom_3 6 rfl) rfl ?_
      refine gf_X3_34 C (z_d dtX3_chartStepsFrom_3 7 rfl) ?_
      refine z_iload_n C (z_d dtX3_chartStepsFrom_3 8 rfl) rfl ?_
      refine al_X9 C (z_d dtX3_chartStepsFrom_3 9 rfl) (by omega) ?_
      try simp (decide := true) only [zS_s, zS_o, zC, e0, e1, e2, e3, e4, e5, e6]
      refine z_if_ne (tgt := 224) C (z_d dtX3_chartStepsFrom_3 10 rfl) (by decide) (by omega) (fun h_212 => ?_) (fun h_212 => ?_)
      · refine z_iconst C (z_d dtX3_chartStepsFrom_3 16 rfl) ?_
        exact jn_225 _ _ (by unfold zT5; first | rw [if_pos (by omega)] | rw [if_neg (by omega)]) (zRow_st hr (by omega) (by rw [hv]; simp [zTg]) (by omega))
      · refine z_iload_n C (z_d dtX3_chartStepsFrom_3 11 rfl) rfl ?_
        refine z_aload_n C (z_d dtX3_chartStepsFrom_3 12 rfl) rfl ?_
        refine gf_X3_15 C (z_d dtX3_chartStepsFrom_3 13 rfl) ?_
        try simp (decide := true) only [zS_s, zS_o, zC, e0, e1, e2, e3, e4, e5, e6]
        refine z_iadd C (z_d dtX3_chartStepsFrom_3 14 rfl) ?_
        refine z_goto (tgt := 225) C (z_d dtX3_chartStepsFrom_3 15 rfl) (by decide) ?_
        exact jn_225 _ _ (by unfold zT5; first | rw [if_pos (by omega)] | rw [if_neg (by omega)]) (zRow_st hr (by omega) (by rw [hv]; simp [zTg]) (by omega))
  have jn_153 : ∀ (v : Int) (μ : zMem), (v = zT3 σ c) → (zRow μ σ (c * 7) c 3) → Gd K 0 0 153 [some (.ref (ad 1)), some (.int (zI c)), some (.int (zI (c * 7))), some (.int (zI (c % σ 1 0))), some (.int (zI (c / σ 1 0 % σ 2 0))), some (.int (zI (c / (σ 1 0 * σ 2 0)))), some (.int (zI (σ 6 (c / σ 1 0 % σ 2 0 * σ 1 0 + c % σ 1 0))))] [.int (zI v), .int (zI (c * 7 + 3)), .ref (ad 11)] (wX ad (z_t K) μ) := by
    intro v μ hv hr
    have e0 := hr.1 0 (by decide)
    have e1 := hr.1 1 (by decide)
    have e2 := hr.1 2 (by decide)
    have e3 := hr.1 3 (by decide)
    have e4 := hr.1 4 (by decide)
    have e5 := hr.1 5 (by decide)
    have e6 := hr.1 6 (by decide)
    refine as_X11 C (z_d dtX3_chartStepsFrom_2 12 rfl) (by omega) ?_
    refine z_aload_n C (z_d dtX3_chartStepsFrom_2 13 rfl) rfl ?_
    refine gf_X3_40 C (z_d dtX3_chartStepsFrom_2 14 rfl) ?_
    refine z_iload_n C (z_d dtX3_chartStepsFrom_2 15 rfl) rfl ?_
    refine z_iconst C (z_d dtX3_chartStepsFrom_2 16 rfl) ?_
    refine z_iadd C (z_d dtX3_chartStepsFrom_2 17 rfl) ?_
    refine z_iload_n C (z_d dtX3_chartStepsFrom_2 18 rfl) rfl ?_
    refine z_aload_n C (z_d dtX3_chartStepsFrom_2 19 rfl) rfl ?_
    refine gf_X3_15 C (z_d dtX3_chartStepsFrom_2 20 rfl) ?_
    try simp (decide := true) only [zS_s, zS_o, zC, e0, e1, e2, e3, e4, e5, e6]
    refine z_iconst C (z_d dtX3_chartStepsFrom_2 21 rfl) ?_
    refine z_isub C (z_d dtX3_chartStepsFrom_2 22 rfl) ?_
    refine z_icmp_ge (tgt := 186) C (z_d dtX3_chartStepsFrom_2 23 rfl) (by decide) (by omega) (fun h_168 => ?_) (fun h_168 => ?_)
    · refine z_iconst C (z_d dtX3_chartStepsFrom_2 33 rfl) ?_
      exact jn_187 _ _ (by unfold zT4; first | rw [if_pos (by omega)] | rw [if_neg (by omega)]) (zRow_st hr (by omega) (by rw [hv]; simp [zTg]) (by omega))
    · refine z_aload_n C (z_d dtX3_chartStepsFrom_2 24 rfl) rfl ?_
      refine gf_X3_30 C (z_d dtX3_chartStepsFrom_2 25 rfl) ?_
      refine z_iload_n C (z_d dtX3_chartStepsFrom_2 26 rfl) rfl ?_
      refine al_X8 C (z_d dtX3_chartStepsFrom_2 27 rfl) (by omega) ?_
      try simp (decide := true) only [zS_s, zS_o, zC, e0, e1, e2, e3, e4, e5, e6]
      refine z_if_ne (tgt := 186) C (z_d dtX3_chartStepsFrom_2 28 rfl) (by decide) (by omega) (fun h_177 => ?_) (fun h_177 => ?_)
      · refine z_iconst C (z_d dtX3_chartStepsFrom_2 33 rfl) ?_
        exact jn_187 _ _ (by unfold zT4; first | rw [if_pos (by omega)] | rw [if_neg (by omega)]) (zRow_st hr (by omega) (by rw [hv]; simp [zTg]) (by omega))
      · refine z_iload_n C (z_d dtX3_chartStepsFrom_2 29 rfl) rfl ?_
        refine z_iconst C (z_d dtX3_chartStepsFrom_2 30 rfl) ?_
        refine z_iadd C (z_d dtX3_chartStepsFrom_2 31 rfl) ?_
        refine z_goto (tgt := 187) C (z_d dtX3_chartStepsFrom_2 32 rfl) (by decide) ?_
        exact jn_187 _ _ (by unfold zT4; first | rw [if_pos (by omega)] | rw [if_neg (by omega)]) (zRow_st hr (by omega) (by rw [hv]; simp [zTg]) (by omega))
  have jn_133 : ∀ (v : Int) (μ : zMem), (v = zT2 σ c) → (zRow μ σ (c * 7) c 2) → Gd K 0 0 133 [some (.ref (ad 1)), some (.int (zI c)), some (.int (zI (c * 7))), some (.int (zI (c % σ 1 0))), some (.int (zI (c / σ 1 0 % σ 2 0))), some (.int (zI (c / (σ 1 0 * σ 2 0)))), some (.int (zI (σ 6 (c / σ 1 0 % σ 2 0 * σ 1 0 + c % σ 1 0))))] [.int (zI v), .int (zI (c * 7 + 2)), .ref (ad 11)] (wX ad (z_t K) μ) := by
    intro v μ hv hr
    have e0 := hr.1 0 (by decide)
    have e1 := hr.1 1 (by decide)
    have e2 := hr.1 2 (by decide)
    have e3 := hr.1 3 (by decide)
    have e4 := hr.1 4 (by decide)
    have e5 := hr.1 5 (by decide)
    have e6 := hr.1 6 (by decide)
    refine as_X11 C (z_d dtX3_chartStepsFrom_2 0 rfl) (by omega) ?_
    refine z_aload_n C (z_d dtX3_chartStepsFrom_2 1 rfl) rfl ?_
    refine gf_X3_40 C (z_d dtX3_chartStepsFrom_2 2 rfl) ?_
    refine z_iload_n C (z_d dtX3_chartStepsFrom_2 3 rfl) rfl ?_
    refine z_iconst C (z_d dtX3_chartStepsFrom_2 4 rfl) ?_
    refine z_iadd C (z_d dtX3_chartStepsFrom_2 5 rfl) ?_
    refine z_aload_n C (z_d dtX3_chartStepsFrom_2 6 rfl) rfl ?_
    refine gf_X3_27 C (z_d dtX3_chartStepsFrom_2 7 rfl) ?_
    try simp (decide := true) only [zS_s, zS_o, zC, e0, e1, e2, e3, e4, e5, e6]
    refine z_if_le (tgt := 152) C (z_d dtX3_chartStepsFrom_2 8 rfl) (by decide) (by omega) (fun h_145 => ?_) (fun h_145 => ?_)
    · refine z_iconst C (z_d dtX3_chartStepsFrom_2 11 rfl) ?_
      exact jn_153 _ _ (by unfold zT3; first | rw [if_pos (by omega)] | rw [if_neg (by omega)]) (zRow_st hr (by omega) (by rw [hv]; simp [zTg]) (by omega))
    · refine z_iload_n C (z_d dtX3_chartStepsFrom_2 9 rfl) rfl ?_
      refine z_goto (tgt := 153) C (z_d dtX3_chartStepsFrom_2 10 rfl) (by decide) ?_
      exact jn_153 _ _ (by unfold zT3; first | rw [if_pos (by omega)] | rw [if_neg (by omega)]) (zRow_st hr (by omega) (by rw [hv]; simp [zTg]) (by omega))
  have jn_103 : ∀ (v : Int) (μ : zMem), (v = zT1 σ c) → (zRow μ σ (c * 7) c 1) → Gd K 0 0 103 [some (.ref (ad 1)), some (.int (zI c)), some (.int (zI (c * 7))), some (.int (zI (c % σ 1 0))), some (.int (zI (c / σ 1 0 % σ 2 0))), some (.int (zI (c / (σ 1 0 * σ 2 0)))), some (.int (zI (σ 6 (c / σ 1 0 % σ 2 0 * σ 1 0 + c % σ 1 0))))] [.int (zI v), .int (zI (c * 7 + 1)), .ref (ad 11)] (wX ad (z_t K) μ) := by
    intro v μ hv hr
    have e0 := hr.1 0 (by decide)
    have e1 := hr.1 1 (by decide)
    have e2 := hr.1 2 (by decide)
    have e3 := hr.1 3 (by decide)
    have e4 := hr.1 4 (by decide)
    have e5 := hr.1 5 (by decide)
    have e6 := hr.1 6 (by decide)
    refine as_X11 C (z_d dtX3_chartStepsFrom_1 20 rfl) (by omega) ?_
    refine z_aload_n C (z_d dtX3_chartStepsFrom_1 21 rfl) rfl ?_
    refine gf_X3_40 C (z_d dtX3_chartStepsFrom_1 22 rfl) ?_
    refine z_iload_n C (z_d dtX3_chartStepsFrom_1 23 rfl) rfl ?_
    refine z_iconst C (z_d dtX3_chartStepsFrom_1 24 rfl) ?_
    refine z_iadd C (z_d dtX3_chartStepsFrom_1 25 rfl) ?_
    refine z_iload_n C (z_d dtX3_chartStepsFrom_1 26 rfl) rfl ?_
    refine z_if_le (tgt := 132) C (z_d dtX3_chartStepsFrom_1 27 rfl) (by decide) (by omega) (fun h_112 => ?_) (fun h_112 => ?_)
    · refine z_iconst C (z_d dtX3_chartStepsFrom_1 39 rfl) ?_
      exact jn_133 _ _ (by unfold zT2; first | rw [if_pos (by omega)] | rw [if_neg (by omega)]) (zRow_st hr (by omega) (by rw [hv]; simp [zTg]) (by omega))
    · refine z_aload_n C (z_d dtX3_chartStepsFrom_1 28 rfl) rfl ?_
      refine gf_X3_30 C (z_d dtX3_chartStepsFrom_1 29 rfl) ?_
      refine z_iload_n C (z_d dtX3_chartStepsFrom_1 30 rfl) rfl ?_
      refine z_iconst C (z_d dtX3_chartStepsFrom_1 31 rfl) ?_
      refine z_isub C (z_d dtX3_chartStepsFrom_1 32 rfl) ?_
      refine al_X8 C (z_d dtX3_chartStepsFrom_1 33 rfl) (by omega) ?_
      try simp (decide := true) only [zS_s, zS_o, zC, e0, e1, e2, e3, e4, e5, e6]
      refine z_if_ne (tgt := 132) C (z_d dtX3_chartStepsFrom_1 34 rfl) (by decide) (by omega) (fun h_123 => ?_) (fun h_123 => ?_)
      · refine z_iconst C (z_d dtX3_chartStepsFrom_1 39 rfl) ?_
        exact jn_133 _ _ (by unfold zT2; first | rw [if_pos (by omega)] | rw [if_neg (by omega)]) (zRow_st hr (by omega) (by rw [hv]; simp [zTg]) (by omega))
      · refine z_iload_n C (z_d dtX3_chartStepsFrom_1 35 rfl) rfl ?_
        refine z_iconst C (z_d dtX3_chartStepsFrom_1 36 rfl) ?_
        refine z_isub C (z_d dtX3_chartStepsFrom_1 37 rfl) ?_
        refine z_goto (tgt := 133) C (z_d dtX3_chartStepsFrom_1 38 rfl) (by decide) ?_
        exact jn_133 _ _ (by unfold zT2; first | rw [if_pos (by omega)] | rw [if_neg (by omega)]) (zRow_st hr (by omega) (by rw [hv]; simp [zTg]) (by omega))
  have jn_66 : ∀ (v : Int) (μ : zMem), (v = zT0 σ c) → (zRow μ σ (c * 7) c 0) → Gd K 0 0 66 [some (.ref (ad 1)), some (.int (zI c)), some (.int (zI (c * 7))), some (.int (zI (c % σ 1 0))), some (.int (zI (c / σ 1 0 % σ 2 0))), some (.int (zI (c / (σ 1 0 * σ 2 0)))), some (.int (zI (σ 6 (c / σ 1 0 % σ 2 0 * σ 1 0 + c % σ 1 0))))] [.int (zI v), .int (zI (c * 7)), .ref (ad 11)] (wX ad (z_t K) μ) := by
    intro v μ hv hr
    have e0 := hr.1 0 (by decide)
    have e1 := hr.1 1 (by decide)
    have e2 := hr.1 2 (by decide)
    have e3 := hr.1 3 (by decide)
    have e4 := hr.1 4 (by decide)
    have e5 := hr.1 5 (by decide)
    have e6 := hr.1 6 (by decide)
    refine as_X11 C (z_d dtX3_chartStepsFrom_0 38 rfl) (by omega) ?_
    refine z_aload_n C (z_d dtX3_chartStepsFrom_0 39 rfl) rfl ?_
    refine gf_X3_40 C (z_d dtX3_chartStepsFrom_1 0 rfl) ?_
    refine z_iload_n C (z_d dtX3_chartStepsFrom_1 1 rfl) rfl ?_
    refine z_iconst C (z_d dtX3_chartStepsFrom_1 2 rfl) ?_
    refine z_iadd C (z_d dtX3_chartStepsFrom_1 3 rfl) ?_
    refine z_iload C (z_d dtX3_chartStepsFrom_1 4 rfl) rfl ?_
    refine z_if_le (tgt := 102) C (z_d dtX3_chartStepsFrom_1 5 rfl) (by decide) (by omega) (fun h_76 => ?_) (fun h_76 => ?_)
    · refine z_iconst C (z_d dtX3_chartStepsFrom_1 19 rfl) ?_
      exact jn_103 _ _ (by unfold zT1; first | rw [if_pos (by omega)] | rw [if_neg (by omega)]) (zRow_st hr (by omega) (by rw [hv]; simp [zTg]) (by omega))
    · refine z_aload_n C (z_d dtX3_chartStepsFrom_1 6 rfl) rfl ?_
      refine gf_X3_34 C (z_d dtX3_chartStepsFrom_1 7 rfl) ?_
      refine z_iload_n C (z_d dtX3_chartStepsFrom_1 8 rfl) rfl ?_
      refine z_aload_n C (z_d dtX3_chartStepsFrom_1 9 rfl) rfl ?_
      refine gf_X3_15 C (z_d dtX3_chartStepsFrom_1 10 rfl) ?_
      try simp (decide := true) only [zS_s, zS_o, zC, e0, e1, e2, e3, e4, e5, e6]
      refine z_isub C (z_d dtX3_chartStepsFrom_1 11 rfl) ?_
      refine al_X9 C (z_d dtX3_chartStepsFrom_1 12 rfl) (by omega) ?_
      try simp (decide := true) only [zS_s, zS_o, zC, e0, e1, e2, e3, e4, e5, e6]
      refine z_if_ne (tgt := 102) C (z_d dtX3_chartStepsFrom_1 13 rfl) (by decide) (by omega) (fun h_90 => ?_) (fun h_90 => ?_)
      · refine z_iconst C (z_d dtX3_chartStepsFrom_1 19 rfl) ?_
        exact jn_103 _ _ (by unfold zT1; first | rw [if_pos (by omega)] | rw [if_neg (by omega)]) (zRow_st hr (by omega) (by rw [hv]; simp [zTg]) (by omega))
      · refine z_iload_n C (z_d dtX3_chartStepsFrom_1 14 rfl) rfl ?_
        refine z_aload_n C (z_d dtX3_chartStepsFrom_1 15 rfl) rfl ?_
        refine gf_X3_15 C (z_d dtX3_chartStepsFrom_1 16 rfl) ?_
        try simp (decide := true) only [zS_s, zS_o, zC, e0, e1, e2, e3, e4, e5, e6]
        refine z_isub C (z_d dtX3_chartStepsFrom_1 17 rfl) ?_
        refine z_goto (tgt := 103) C (z_d dtX3_chartStepsFrom_1 18 rfl) (by decide) ?_
        exact jn_103 _ _ (by unfold zT1; first | rw [if_pos (by omega)] | rw [if_neg (by omega)]) (zRow_st hr (by omega) (by rw [hv]; simp [zTg]) (by omega))
  refine z_aload_n C (z_d dtX3_chartStepsFrom_0 22 rfl) rfl ?_
  refine gf_X3_40 C (z_d dtX3_chartStepsFrom_0 23 rfl) ?_
  refine z_iload_n C (z_d dtX3_chartStepsFrom_0 24 rfl) rfl ?_
  refine z_iload C (z_d dtX3_chartStepsFrom_0 25 rfl) rfl ?_
  refine z_if_eq (tgt := 65) C (z_d dtX3_chartStepsFrom_0 26 rfl) (by decide) (by omega) (fun h_43 => ?_) (fun h_43 => ?_)
  · refine z_iconst C (z_d dtX3_chartStepsFrom_0 37 rfl) ?_
    exact jn_66 _ _ (by unfold zT0; first | rw [if_pos (by omega)] | rw [if_neg (by omega)]) ⟨zE_rf, fun j h0 h1 => absurd h1 (by omega), fun _ _ => rfl⟩
  · refine z_iload C (z_d dtX3_chartStepsFrom_0 27 rfl) rfl ?_
    refine z_if_le (tgt := 65) C (z_d dtX3_chartStepsFrom_0 28 rfl) (by decide) (by omega) (fun h_48 => ?_) (fun h_48 => ?_)
    · refine z_iconst C (z_d dtX3_chartStepsFrom_0 37 rfl) ?_
      exact jn_66 _ _ (by unfold zT0; first | rw [if_pos (by omega)] | rw [if_neg (by omega)]) ⟨zE_rf, fun j h0 h1 => absurd h1 (by omega), fun _ _ => rfl⟩
    · refine z_iload_n C (z_d dtX3_chartStepsFrom_0 29 rfl) rfl ?_
      refine z_aload_n C (z_d dtX3_chartStepsFrom_0 30 rfl) rfl ?_
      refine gf_X3_15 C (z_d dtX3_chartStepsFrom_0 31 rfl) ?_
      try simp (decide := true) only [zS_s, zS_o, zC, e0, e1, e2, e3, e4, e5, e6]
      refine z_aload_n C (z_d dtX3_chartStepsFrom_0 32 rfl) rfl ?_
      refine gf_X3_18 C (z_d dtX3_chartStepsFrom_0 33 rfl) ?_
      try simp (decide := true) only [zS_s, zS_o, zC, e0, e1, e2, e3, e4, e5, e6]
      refine z_imul C (z_d dtX3_chartStepsFrom_0 34 rfl) ?_
      refine z_isub C (z_d dtX3_chartStepsFrom_0 35 rfl) ?_
      refine z_goto (tgt := 66) C (z_d dtX3_chartStepsFrom_0 36 rfl) (by decide) ?_
      exact jn_66 _ _ (by unfold zT0; first | rw [if_pos (by omega)] | rw [if_neg (by omega)]) ⟨zE_rf, fun j h0 h1 => absurd h1 (by omega), fun _ _ => rfl⟩
