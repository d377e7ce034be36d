/-! THE REFERENCE: walls, lifts, steps, surveys, offsets -/
abbrev zRt (σ : zMem) (a b : Int) : Prop := a / (σ 1 0 * σ 2 0) = b / (σ 1 0 * σ 2 0) ∧ a / σ 1 0 % σ 2 0 = b / σ 1 0 % σ 2 0 ∧ b % σ 1 0 = a % σ 1 0 + 1
abbrev zBl (σ : zMem) (a b : Int) : Prop := a / (σ 1 0 * σ 2 0) = b / (σ 1 0 * σ 2 0) ∧ a % σ 1 0 = b % σ 1 0 ∧ b / σ 1 0 % σ 2 0 = a / σ 1 0 % σ 2 0 + 1
def zLy (σ : zMem) (a b : Int) : Int := if a = b then σ 3 0 else if zRt σ (min a b) (max a b) then (if σ 4 (min a b) = 0 then 2 else 0) else if zBl σ (min a b) (max a b) then (if σ 5 (min a b) = 0 then 2 else 0) else if max a b - min a b = σ 1 0 * σ 2 0 ∧ ¬ σ 6 (min a b % (σ 1 0 * σ 2 0)) = 0 then 1 else 0
def okM (σ : zMem) : Prop := (zHw σ ∧ σ 60 0 = zN σ ∧ (0 ≤ σ 3 0 ∧ σ 3 0 ≤ 9) ∧ zBo σ 4 ∧ zBo σ 5 ∧ zBo σ 6 ∧ zBo σ 7) ∧ zMp σ ∧ ((∀ c, 0 ≤ c → c < zN σ → 0 ≤ σ 9 c ∧ σ 9 c ≤ 1000000) ∧ zSum (σ 9) (zN σ).toNat = 1000000) ∧ oW σ ∧ ((1 ≤ σ 11 0 ∧ σ 11 0 ≤ 20) ∧ (0 ≤ σ 12 0 ∧ σ 12 0 ≤ 30) ∧ ∀ i, 0 ≤ i → i < σ 12 0 → zIsA σ (σ 13 (5 * i)) (σ 13 (5 * i + 1)) (σ 13 (5 * i + 2)) (σ 13 (5 * i + 3)) (σ 13 (5 * i + 4))) ∧ oT σ ∧ (zBo σ 16 ∧ (∀ i, 0 ≤ σ 17 i ∧ σ 17 i ≤ 2) ∧ (∀ i, 0 ≤ σ 18 i ∧ σ 18 i ≤ 240) ∧ zIt σ)
def zOg (σ : zMem) (s row c : Int) (n : Nat) : Int × Int := if zRw σ s row c (-((n : Int) + 1)) (-1) 8 > (zOf σ s row c n).2 then (-((n : Int) + 1), zRw σ s row c (-((n : Int) + 1)) (-1) 8) else zOf σ s row c n
theorem zOf_g (σ : zMem) (s row c : Int) (n : Nat) : zOf σ s row c (n + 1) = if zRw σ s row c ((n : Int) + 1) (-1) 8 > (zOg σ s row c n).2 then ((n : Int) + 1, zRw σ s row c ((n : Int) + 1) (-1) 8) else zOg σ s row c n := rfl
theorem zOf_b {σ : zMem} (h : zMp σ) (s row c : Int) (n : Nat) : 0 ≤ (zOf σ s row c n).2 ∧ (zOf σ s row c n).2 ≤ 2048 := by
  induction n with
  | zero => have := zRw_b h s row c 0 (-1) 8; simp only [zOf]; omega
  | succ n ih =>
    have a := zRw_b h s row c (-((n : Int) + 1)) (-1) 8
    have b := zRw_b h s row c ((n : Int) + 1) (-1) 8
    have g : 0 ≤ (zOg σ s row c n).2 ∧ (zOg σ s row c n).2 ≤ 2048 := by
      unfold zOg
      split
      · exact ⟨a.1, by omega⟩
      · exact ih
    rw [zOf_g]
    split
    · exact ⟨b.1, by dsimp only; omega⟩
    · exact g
theorem zRp_m {σ : zMem} (h : ∀ i, 0 ≤ σ 18 i ∧ σ 18 i ≤ 240) (z row : Int) : (0 ≤ zRp σ z row ∧ zRp σ z row ≤ 2) ∧ (zRp σ z row = 0 → 0 ≤ row ∧ row < 30) := by
  have a := h z
  unfold zRp
  split
  · omega
  · split <;> omega

set_option maxRecDepth 100000 in
set_option maxHeartbeats 4000000 in
theorem k_X8_in {l : Launch} {D : va_G} {t : Nat → ClassId} {ad : Nat → Nat} {σ : zMem} {v a b : Int} (hv : -2147483648 ≤ v ∧ v < 2147483648) (ha : -2147483648 ≤ a ∧ a < 2147483648) (hb : -2147483648 ≤ b ∧ b < 2147483648) : z_Ci l D t yX8_in cX8_in 3 .boolean 0 0 0 0 [.int (zI v), .int (zI a), .int (zI b)] (wM ad t σ) (fun r w => w = wM ad t σ ∧ ((r = 1 ∧ (a ≤ v ∧ v ≤ b)) ∨ (r = 0 ∧ ¬ (a ≤ v ∧ v ≤ b)))) := by
  refine z_Ci_of (by decide +kernel) [some (.int (zI v)), some (.int (zI a)), some (.int (zI b))] rfl rfl (Nat.le_of_ble_eq_true rfl) fun K hl hD ht hR hnm C ret => ?_
  subst hl; subst hD; subst ht
  refine z_iload_n C (z_d dtX8_in_0 0 rfl) rfl ?_
  refine z_iload_n C (z_d dtX8_in_0 1 rfl) rfl ?_
  refine z_icmp_lt (tgt := 14) C (z_d dtX8_in_0 2 rfl) (by decide) (by omega) (fun h_2 => ?_) (fun h_2 => ?_)
  · refine z_iconst C (z_d dtX8_in_0 8 rfl) ?_
    exact ret _ _ _ _ (z_d dtX8_in_0 9 rfl) (⟨rfl, by omega⟩) (z_nb (by omega))
  · refine z_iload_n C (z_d dtX8_in_0 3 rfl) rfl ?_
    refine z_iload_n C (z_d dtX8_in_0 4 rfl) rfl ?_
    refine z_icmp_gt (tgt := 14) C (z_d dtX8_in_0 5 rfl) (by decide) (by omega) (fun h_7 => ?_) (fun h_7 => ?_)
    · refine z_iconst C (z_d dtX8_in_0 8 rfl) ?_
      exact ret _ _ _ _ (z_d dtX8_in_0 9 rfl) (⟨rfl, by omega⟩) (z_nb (by omega))
    · refine z_iconst C (z_d dtX8_in_0 6 rfl) ?_
      refine z_goto (tgt := 15) C (z_d dtX8_in_0 7 rfl) (by decide) ?_
      exact ret _ _ _ _ (z_d dtX8_in_0 9 rfl) (⟨rfl, by omega⟩) (z_nb (by omega))

set_option maxRecDepth 100000 in
set_option maxHeartbeats 4000000 in
theorem k_X8_isSheet {l : Launch} {D : va_G} {t : Nat → ClassId} {ad : Nat → Nat} {σ : zMem} {k : Int} (hk : -2147483648 ≤ k ∧ k < 2147483648) : z_Ci l D t yX8_isSheet cX8_isSheet 1 .boolean 1 22 0 0 [.int (zI k)] (wM ad t σ) (fun r w => w = wM ad t σ ∧ ((r = 1 ∧ (0 ≤ k ∧ k < 4)) ∨ (r = 0 ∧ ¬ (0 ≤ k ∧ k < 4)))) := by
  refine z_Ci_of (by decide +kernel) [some (.int (zI k))] rfl rfl (Nat.le_of_ble_eq_true rfl) fun K hl hD ht hR hnm C ret => ?_
  subst hl; subst hD; subst ht
  refine z_iload_n C (z_d dtX8_isSheet_0 0 rfl) rfl ?_
  refine z_iconst C (z_d dtX8_isSheet_0 1 rfl) ?_
  refine z_iconst C (z_d dtX8_isSheet_0 2 rfl) ?_
  refine z_callS C (z_d dtX8_isSheet_0 3 rfl) (k_X8_in  (by first | assumption | omega) (by first | assumption | omega) (by first | assumption | omega)) cal_X8_in gw_8_19 rfl rfl hR ⟨rfl, rfl, rfl, rfl⟩ rfl (fun r_3 w_3 h_3 => ?_)
  obtain ⟨rfl, h_3⟩ := h_3
  exact ret _ _ _ _ (z_d dtX8_isSheet_0 4 rfl) (⟨rfl, by omega⟩) (z_nb (by omega))

set_option maxRecDepth 100000 in
set_option maxHeartbeats 4000000 in
theorem k_X8_isCell {l : Launch} {D : va_G} {t : Nat → ClassId} {ad : Nat → Nat} {σ : zMem} {c : Int} (hw : zHw σ) (h60 : σ 60 0 = zN σ) (hc : -2147483648 ≤ c ∧ c < 2147483648) : z_Ci l D t yX8_isCell cX8_isCell 2 .boolean 1 22 0 0 [.ref (ad 0), .int (zI c)] (wM ad t σ) (fun r w => w = wM ad t σ ∧ ((r = 1 ∧ (0 ≤ c ∧ c < zN σ)) ∨ (r = 0 ∧ ¬ (0 ≤ c ∧ c < zN σ)))) := by
  refine z_Ci_of (by decide +kernel) [some (.ref (ad 0)), some (.int (zI c))] rfl rfl (Nat.le_of_ble_eq_true rfl) fun K hl hD ht hR hnm C ret => ?_
  subst hl; subst hD; subst ht
  have hN := zHw_N hw
  refine z_iload_n C (z_d dtX8_isCell_0 0 rfl) rfl ?_
  refine z_iconst C (z_d dtX8_isCell_0 1 rfl) ?_
  refine z_aload_n C (z_d dtX8_isCell_0 2 rfl) rfl ?_
  refine gf_X8_83 C (z_d dtX8_isCell_0 3 rfl) ?_
  refine z_iconst C (z_d dtX8_isCell_0 4 rfl) ?_
  refine z_isub C (z_d dtX8_isCell_0 5 rfl) ?_
  refine z_callS C (z_d dtX8_isCell_0 6 rfl) (k_X8_in  (by first | assumption | omega) (by first | assumption | omega) (by first | assumption | omega)) cal_X8_in gw_8_19 rfl rfl hR ⟨rfl, rfl, rfl, rfl⟩ rfl (fun r_8 w_8 h_8 => ?_)
  obtain ⟨rfl, h_8⟩ := h_8
  exact ret _ _ _ _ (z_d dtX8_isCell_0 7 rfl) (⟨rfl, by omega⟩) (z_nb (by omega))

set_option maxRecDepth 100000 in
set_option maxHeartbeats 4000000 in
theorem k_X8_floorOf {l : Launch} {D : va_G} {t : Nat → ClassId} {ad : Nat → Nat} {σ : zMem} {c : Int} (hw : zHw σ) (hc : 0 ≤ c ∧ c < 2147483648) : z_Ci l D t yX8_floorOf cX8_floorOf 2 .int 0 0 0 0 [.ref (ad 0), .int (zI c)] (wM ad t σ) (fun r w => w = wM ad t σ ∧ r = c / (σ 1 0 * σ 2 0)) := by
  refine z_Ci_of (by decide +kernel) [some (.ref (ad 0)), some (.int (zI c))] rfl rfl (Nat.le_of_ble_eq_true rfl) fun K hl hD ht hR hnm C ret => ?_
  subst hl; subst hD; subst ht
  have hW := zHw_wh hw
  refine z_iload_n C (z_d dtX8_floorOf_0 0 rfl) rfl ?_
  refine z_aload_n C (z_d dtX8_floorOf_0 1 rfl) rfl ?_
  refine gf_X8_93 C (z_d dtX8_floorOf_0 2 rfl) ?_
  refine z_aload_n C (z_d dtX8_floorOf_0 3 rfl) rfl ?_
  refine gf_X8_96 C (z_d dtX8_floorOf_0 4 rfl) ?_
  refine z_imul C (z_d dtX8_floorOf_0 5 rfl) ?_
  refine z_idiv C (z_d dtX8_floorOf_0 6 rfl) (by omega) ?_
  exact ret _ _ _ _ (z_d dtX8_floorOf_0 7 rfl) (⟨rfl, rfl⟩) rfl

set_option maxRecDepth 100000 in
set_option maxHeartbeats 4000000 in
theorem k_X8_xOf {l : Launch} {D : va_G} {t : Nat → ClassId} {ad : Nat → Nat} {σ : zMem} {c : Int} (hw : zHw σ) (hc : 0 ≤ c ∧ c < 2147483648) : z_Ci l D t yX8_xOf cX8_xOf 2 .int 0 0 0 0 [.ref (ad 0), .int (zI c)] (wM ad t σ) (fun r w => w = wM ad t σ ∧ r = c % σ 1 0) := by
  refine z_Ci_of (by decide +kernel) [some (.ref (ad 0)), some (.int (zI c))] rfl rfl (Nat.le_of_ble_eq_true rfl) fun K hl hD ht hR hnm C ret => ?_
  subst hl; subst hD; subst ht
  have hW := hw; unfold zHw at hW
  refine z_iload_n C (z_d dtX8_xOf_0 0 rfl) rfl ?_
  refine z_aload_n C (z_d dtX8_xOf_0 1 rfl) rfl ?_
  refine gf_X8_93 C (z_d dtX8_xOf_0 2 rfl) ?_
  refine z_irem C (z_d dtX8_xOf_0 3 rfl) (by omega) ?_
  exact ret _ _ _ _ (z_d dtX8_xOf_0 4 rfl) (⟨rfl, rfl⟩) rfl

set_option maxRecDepth 100000 in
set_option maxHeartbeats 4000000 in
theorem k_X8_yOf {l : Launch} {D : va_G} {t : Nat → ClassId} {ad : Nat → Nat} {σ : zMem} {c : Int} (hw : zHw σ) (hc : 0 ≤ c ∧ c < 2147483648) : z_Ci l D t yX8_yOf cX8_yOf 2 .int 0 0 0 0 [.ref (ad 0), .int (zI c)] (wM ad t σ) (fun r w => w = wM ad t σ ∧ r = c / σ 1 0 % σ 2 0) := by
  refine z_Ci_of (by decide +kernel) [some (.ref (ad 0)), some (.int (zI c))] rfl rfl (Nat.le_of_ble_eq_true rfl) fun K hl hD ht hR hnm C ret => ?_
  subst hl; subst hD; subst ht
  have hW := hw; unfold zHw at hW
  have q1 := Int.ediv_nonneg hc.1 (show 0 ≤ σ 1 0 by omega)
  have q2 := Int.ediv_le_self (σ 1 0) hc.1
  refine z_iload_n C (z_d dtX8_yOf_0 0 rfl) rfl ?_
  refine z_aload_n C (z_d dtX8_yOf_0 1 rfl) rfl ?_
  refine gf_X8_93 C (z_d dtX8_yOf_0 2 rfl) ?_
  refine z_idiv C (z_d dtX8_yOf_0 3 rfl) (by omega) ?_
  refine z_aload_n C (z_d dtX8_yOf_0 4 rfl) rfl ?_
  refine gf_X8_96 C (z_d dtX8_yOf_0 5 rfl) ?_
  refine z_irem C (z_d dtX8_yOf_0 6 rfl) (by omega) ?_
  exact ret _ _ _ _ (z_d dtX8_yOf_0 7 rfl) (⟨rfl, rfl⟩) rfl

set_option maxRecDepth 100000 in
set_option maxHeartbeats 4000000 in
theorem k_X8_isRightOf {l : Launch} {D : va_G} {t : Nat → ClassId} {ad : Nat → Nat} {σ : zMem} {a b : Int} (hw : zHw σ) (ha : 0 ≤ a ∧ a < zN σ) (hb : 0 ≤ b ∧ b < zN σ) : z_Ci l D t yX8_isRightOf cX8_isRightOf 3 .boolean 1 21 0 0 [.ref (ad 0), .int (zI a), .int (zI b)] (wM ad t σ) (fun r w => w = wM ad t σ ∧ ((r = 1 ∧ (zRt σ a b)) ∨ (r = 0 ∧ ¬ (zRt σ a b)))) := by
  refine z_Ci_of (by decide +kernel) [some (.ref (ad 0)), some (.int (zI a)), some (.int (zI b))] rfl rfl (Nat.le_of_ble_eq_true rfl) fun K hl hD ht hR hnm C ret => ?_
  subst hl; subst hD; subst ht
  have hN := zHw_N hw
  have hW := hw; unfold zHw at hW
  have ga := zGeo hw ha
  have gb := zGeo hw hb
  refine z_aload_n C (z_d dtX8_isRightOf_0 0 rfl) rfl ?_
  refine z_iload_n C (z_d dtX8_isRightOf_0 1 rfl) rfl ?_
  refine z_callV C (z_d dtX8_isRightOf_0 2 rfl) (k_X8_floorOf  (by first | assumption | omega) (by first | assumption | omega)) cal_X8_floorOf gw_11_4 rfl 0 8 rfl rfl rfl rfl hR ⟨rfl, rfl, rfl, rfl⟩ rfl (fun r_2 w_2 h_2 => ?_)
  obtain ⟨rfl, rfl⟩ := h_2
  refine z_aload_n C (z_d dtX8_isRightOf_0 3 rfl) rfl ?_
  refine z_iload_n C (z_d dtX8_isRightOf_0 4 rfl) rfl ?_
  refine z_callV C (z_d dtX8_isRightOf_0 5 rfl) (k_X8_floorOf  (by first | assumption | omega) (by first | assumption | omega)) cal_X8_floorOf gw_11_4 rfl 0 8 rfl rfl rfl rfl hR ⟨rfl, rfl, rfl, rfl⟩ rfl (fun r_7 w_7 h_7 => ?_)
  obtain ⟨rfl, rfl⟩ := h_7
  refine z_icmp_ne (tgt := 45) C (z_d dtX8_isRightOf_0 6 rfl) (by decide) (by omega) (fun h_10 => ?_) (fun h_10 => ?_)
  · refine z_iconst C (z_d dtX8_isRightOf_0 25 rfl) ?_
    exact ret _ _ _ _ (z_d dtX8_isRightOf_0 26 rfl) (⟨rfl, by omega⟩) (z_nb (by omega))
  · refine z_aload_n C (z_d dtX8_isRightOf_0 7 rfl) rfl ?_
    refine z_iload_n C (z_d dtX8_isRightOf_0 8 rfl) rfl ?_
    refine z_callV C (z_d dtX8_isRightOf_0 9 rfl) (k_X8_yOf  (by first | assumption | omega) (by first | assumption | omega)) cal_X8_yOf gw_11_8 rfl 0 8 rfl rfl rfl rfl hR ⟨rfl, rfl, rfl, rfl⟩ rfl (fun r_15 w_15 h_15 => ?_)
    obtain ⟨rfl, rfl⟩ := h_15
    refine z_aload_n C (z_d dtX8_isRightOf_0 10 rfl) rfl ?_
    refine z_iload_n C (z_d dtX8_isRightOf_0 11 rfl) rfl ?_
    refine z_callV C (z_d dtX8_isRightOf_0 12 rfl) (k_X8_yOf  (by first | assumption | omega) (by first | assumption | omega)) cal_X8_yOf gw_11_8 rfl 0 8 rfl rfl rfl rfl hR ⟨rfl, rfl, rfl, rfl⟩ rfl (fun r_20 w_20 h_20 => ?_)
    obtain ⟨rfl, rfl⟩ := h_20
    refine z_icmp_ne (tgt := 45) C (z_d dtX8_isRightOf_0 13 rfl) (by decide) (by omega) (fun h_23 => ?_) (fun h_23 => ?_)
    · refine z_iconst C (z_d dtX8_isRightOf_0 25 rfl) ?_
      exact ret _ _ _ _ (z_d dtX8_isRightOf_0 26 rfl) (⟨rfl, by omega⟩) (z_nb (by omega))
    · refine z_aload_n C (z_d dtX8_isRightOf_0 14 rfl) rfl ?_
      refine z_iload_n C (z_d dtX8_isRightOf_0 15 rfl) rfl ?_
      refine z_callV C (z_d dtX8_isRightOf_0 16 rfl) (k_X8_xOf  (by first | assumption | omega) (by first | assumption | omega)) cal_X8_xOf gw_11_12 rfl 0 8 rfl rfl rfl rfl hR ⟨rfl, rfl, rfl, rfl⟩ rfl (fun r_28 w_28 h_28 => ?_)
      obtain ⟨rfl, rfl⟩ := h_28
      refine z_aload_n C (z_d dtX8_isRightOf_0 17 rfl) rfl ?_
      refine z_iload_n C (z_d dtX8_isRightOf_0 18 rfl) rfl ?_
      refine z_callV C (z_d dtX8_isRightOf_0 19 rfl) (k_X8_xOf  (by first | assumption | omega) (by first | assumption | omega)) cal_X8_xOf gw_11_12 rfl 0 8 rfl rfl rfl rfl hR ⟨rfl, rfl, rfl, rfl⟩ rfl (fun r_33 w_33 h_33 => ?_)
      obtain ⟨rfl, rfl⟩ := h_33
      refine z_iconst C (z_d dtX8_isRightOf_0 20 rfl) ?_
      refine z_iadd C (z_d dtX8_isRightOf_0 21 rfl) ?_
      refine z_icmp_ne (tgt := 45) C (z_d dtX8_isRightOf_0 22 rfl) (by decide) (by omega) (fun h_38 => ?_) (fun h_38 => ?_)
      · refine z_iconst C (z_d dtX8_isRightOf_0 25 rfl) ?_
        exact ret _ _ _ _ (z_d dtX8_isRightOf_0 26 rfl) (⟨rfl, by omega⟩) (z_nb (by omega))
      · refine z_iconst C (z_d dtX8_isRightOf_0 23 rfl) ?_
        refine z_goto (tgt := 46) C (z_d dtX8_isRightOf_0 24 rfl) (by decide) ?_
        exact ret _ _ _ _ (z_d dtX8_isRightOf_0 26 rfl) (⟨rfl, by omega⟩) (z_nb (by omega))

set_option maxRecDepth 100000 in
set_option maxHeartbeats 4000000 in
theorem k_X8_isBelow {l : Launch} {D : va_G} {t : Nat → ClassId} {ad : Nat → Nat} {σ : zMem} {a b : Int} (hw : zHw σ) (ha : 0 ≤ a ∧ a < zN σ) (hb : 0 ≤ b ∧ b < zN σ) : z_Ci l D t yX8_isBelow cX8_isBelow 3 .boolean 1 21 0 0 [.ref (ad 0), .int (zI a), .int (zI b)] (wM ad t σ) (fun r w => w = wM ad t σ ∧ ((r = 1 ∧ (zBl σ a b)) ∨ (r = 0 ∧ ¬ (zBl σ a b)))) := by
  refine z_Ci_of (by decide +kernel) [some (.ref (ad 0)), some (.int (zI a)), some (.int (zI b))] rfl rfl (Nat.le_of_ble_eq_true rfl) fun K hl hD ht hR hnm C ret => ?_
  subst hl; subst hD; subst ht
  have hN := zHw_N hw
  have hW := hw; unfold zHw at hW
  have ga := zGeo hw ha
  have gb := zGeo hw hb
  refine z_aload_n C (z_d dtX8_isBelow_0 0 rfl) rfl ?_
  refine z_iload_n C (z_d dtX8_isBelow_0 1 rfl) rfl ?_
  refine z_callV C (z_d dtX8_isBelow_0 2 rfl) (k_X8_floorOf  (by first | assumption | omega) (by first | assumption | omega)) cal_X8_floorOf gw_11_4 rfl 0 8 rfl rfl rfl rfl hR ⟨rfl, rfl, rfl, rfl⟩ rfl (fun r_2 w_2 h_2 => ?_)
  obtain ⟨rfl, rfl⟩ := h_2
  refine z_aload_n C (z_d dtX8_isBelow_0 3 rfl) rfl ?_
  refine z_iload_n C (z_d dtX8_isBelow_0 4 rfl) rfl ?_
  refine z_callV C (z_d dtX8_isBelow_0 5 rfl) (k_X8_floorOf  (by first | assumption | omega) (by first | assumption | omega)) cal_X8_floorOf gw_11_4 rfl 0 8 rfl rfl rfl rfl hR ⟨rfl, rfl, rfl, rfl⟩ rfl (fun r_7 w_7 h_7 => ?_)
  obtain ⟨rfl, rfl⟩ := h_7
  refine z_icmp_ne (tgt := 45) C (z_d dtX8_isBelow_0 6 rfl) (by decide) (by omega) (fun h_10 => ?_) (fun h_10 => ?_)
  · refine z_iconst C (z_d dtX8_isBelow_0 25 rfl) ?_
    exact ret _ _ _ _ (z_d dtX8_isBelow_0 26 rfl) (⟨rfl, by omega⟩) (z_nb (by omega))
  · refine z_aload_n C (z_d dtX8_isBelow_0 7 rfl) rfl ?_
    refine z_iload_n C (z_d dtX8_isBelow_0 8 rfl) rfl ?_
    refine z_callV C (z_d dtX8_isBelow_0 9 rfl) (k_X8_xOf  (by first | assumption | omega) (by first | assumption | omega)) cal_X8_xOf gw_11_12 rfl 0 8 rfl rfl rfl rfl hR ⟨rfl, rfl, rfl, rfl⟩ rfl (fun r_15 w_15 h_15 => ?_)
    obtain ⟨rfl, rfl⟩ := h_15
    refine z_aload_n C (z_d dtX8_isBelow_0 10 rfl) rfl ?_
    refine z_iload_n C (z_d dtX8_isBelow_0 11 rfl) rfl ?_
    refine z_callV C (z_d dtX8_isBelow_0 12 rfl) (k_X8_xOf  (by first | assumption | omega) (by first | assumption | omega)) cal_X8_xOf gw_11_12 rfl 0 8 rfl rfl rfl rfl hR ⟨rfl, rfl, rfl, rfl⟩ rfl (fun r_20 w_20 h_20 => ?_)
    obtain ⟨rfl, rfl⟩ := h_20
    refine z_icmp_ne (tgt := 45) C (z_d dtX8_isBelow_0 13 rfl) (by decide) (by omega) (fun h_23 => ?_) (fun h_23 => ?_)
    · refine z_iconst C (z_d dtX8_isBelow_0 25 rfl) ?_
      exact ret _ _ _ _ (z_d dtX8_isBelow_0 26 rfl) (⟨rfl, by omega⟩) (z_nb (by omega))
    · refine z_aload_n C (z_d dtX8_isBelow_0 14 rfl) rfl ?_
      refine z_iload_n C (z_d dtX8_isBelow_0 15 rfl) rfl ?_
      refine z_callV C (z_d dtX8_isBelow_0 16 rfl) (k_X8_yOf  (by first | assumption | omega) (by first | assumption | omega)) cal_X8_yOf gw_11_8 rfl 0 8 rfl rfl rfl rfl hR ⟨rfl, rfl, rfl, rfl⟩ rfl (fun r_28 w_28 h_28 => ?_)
      obtain ⟨rfl, rfl⟩ := h_28
      refine z_aload_n C (z_d dtX8_isBelow_0 17 rfl) rfl ?_
      refine z_iload_n C (z_d dtX8_isBelow_0 18 rfl) rfl ?_
      refine z_callV C (z_d dtX8_isBelow_0 19 rfl) (k_X8_yOf  (by first | assumption | omega) (by first | assumption | omega)) cal_X8_yOf gw_11_8 rfl 0 8 rfl rfl rfl rfl hR ⟨rfl, rfl, rfl, rfl⟩ rfl (fun r_33 w_33 h_33 => ?_)
      obtain ⟨rfl, rfl⟩ := h_33
      refine z_iconst C (z_d dtX8_isBelow_0 20 rfl) ?_
      refine z_iadd C (z_d dtX8_isBelow_0 21 rfl) ?_
      refine z_icmp_ne (tgt := 45) C (z_d dtX8_isBelow_0 22 rfl) (by decide) (by omega) (fun h_38 => ?_) (fun h_38 => ?_)
      · refine z_iconst C (z_d dtX8_isBelow_0 25 rfl) ?_
        exact ret _ _ _ _ (z_d dtX8_isBelow_0 26 rfl) (⟨rfl, by omega⟩) (z_nb (by omega))
      · refine z_iconst C (z_d dtX8_isBelow_0 23 rfl) ?_
        refine z_goto (tgt := 46) C (z_d dtX8_isBelow_0 24 rfl) (by decide) ?_
        exact ret _ _ _ _ (z_d dtX8_isBelow_0 26 rfl) (⟨rfl, by omega⟩) (z_nb (by omega))

set_option maxRecDepth 100000 in
set_option maxHeartbeats 4000000 in
theorem k_X8_likely {l : Launch} {D : va_G} {t : Nat → ClassId} {ad : Nat → Nat} {σ : zMem} {a b : Int} (hw : zHw σ) (ha : 0 ≤ a ∧ a < zN σ) (hb : 0 ≤ b ∧ b < zN σ) (h4 : zBo σ 4) (h5 : zBo σ 5) (h6 : zBo σ 6) (hs : 0 ≤ σ 3 0 ∧ σ 3 0 ≤ 9) : z_Ci l D t yX8_likely cX8_likely 5 .int 2 43 0 0 [.ref (ad 0), .int (zI a), .int (zI b)] (wM ad t σ) (fun r w => w = wM ad t σ ∧ r = zLy σ a b) := by
  refine z_Ci_of (by decide +kernel) [some (.ref (ad 0)), some (.int (zI a)), some (.int (zI b)), none, none] rfl rfl (Nat.le_of_ble_eq_true rfl) fun K hl hD ht hR hnm C ret => ?_
  subst hl; subst hD; subst ht
  have hN := zHw_N hw
  have hW := hw; unfold zHw at hW
  have ga := zGeo hw ha
  have gb := zGeo hw hb
  have hwh := zHw_wh hw
  have b4 := h4 (min a b)
  have b5 := h5 (min a b)
  have b6 := h6 (min a b % (σ 1 0 * σ 2 0))
  have m0 := Int.emod_nonneg (min a b) (show σ 1 0 * σ 2 0 ≠ 0 by omega)
  have m1 := Int.emod_lt_of_pos (min a b) (show 0 < σ 1 0 * σ 2 0 by omega)
  refine z_iload_n C (z_d dtX8_likely_0 0 rfl) rfl ?_
  refine z_iload_n C (z_d dtX8_likely_0 1 rfl) rfl ?_
  refine z_icmp_ne (tgt := 10) C (z_d dtX8_likely_0 2 rfl) (by decide) (by omega) (fun h_2 => ?_) (fun h_2 => ?_)
  · have jn_33 : ∀ (u v : Int), (u = min a b) → (v = max a b) → Gd K 0 0 33 [some (.ref (ad 0)), some (.int (zI a)), some (.int (zI b)), some (.int (zI u)), some (.int (zI v))] [] (wM ad (z_t K) σ) := by
      intro u v hu hv
      subst hu; subst hv
      refine z_aload_n C (z_d dtX8_likely_0 20 rfl) rfl ?_
      refine z_iload_n C (z_d dtX8_likely_0 21 rfl) rfl ?_
      refine z_iload C (z_d dtX8_likely_0 22 rfl) rfl ?_
      refine z_callV C (z_d dtX8_likely_0 23 rfl) (k_X8_isRightOf  (by first | assumption | omega) (by omega) (by omega)) cal_X8_isRightOf gw_11_0 rfl 0 8 rfl rfl rfl rfl hR ⟨rfl, rfl, rfl, rfl⟩ rfl (fun r_37 w_37 h_37 => ?_)
      obtain ⟨rfl, h_37⟩ := h_37
      refine z_if_eq (tgt := 58) C (z_d dtX8_likely_0 24 rfl) (by decide) (by omega) (fun h_40 => ?_) (fun h_40 => ?_)
      · refine z_aload_n C (z_d dtX8_likely_0 34 rfl) rfl ?_
        refine z_iload_n C (z_d dtX8_likely_0 35 rfl) rfl ?_
        refine z_iload C (z_d dtX8_likely_0 36 rfl) rfl ?_
        refine z_callV C (z_d dtX8_likely_0 37 rfl) (k_X8_isBelow  (by first | assumption | omega) (by omega) (by omega)) cal_X8_isBelow gw_11_16 rfl 0 8 rfl rfl rfl rfl hR ⟨rfl, rfl, rfl, rfl⟩ rfl (fun r_62 w_62 h_62 => ?_)
        obtain ⟨rfl, h_62⟩ := h_62
        refine z_if_eq (tgt := 83) C (z_d dtX8_likely_0 38 rfl) (by decide) (by omega) (fun h_65 => ?_) (fun h_65 => ?_)
        · refine z_iload C (z_d dtX8_likely_1 8 rfl) rfl ?_
          refine z_iload_n C (z_d dtX8_likely_1 9 rfl) rfl ?_
          refine z_isub C (z_d dtX8_likely_1 10 rfl) ?_
          refine z_aload_n C (z_d dtX8_likely_1 11 rfl) rfl ?_
          refine gf_X8_93 C (z_d dtX8_likely_1 12 rfl) ?_
          refine z_aload_n C (z_d dtX8_likely_1 13 rfl) rfl ?_
          refine gf_X8_96 C (z_d dtX8_likely_1 14 rfl) ?_
          refine z_imul C (z_d dtX8_likely_1 15 rfl) ?_
          refine z_icmp_ne (tgt := 122) C (z_d dtX8_likely_1 16 rfl) (by decide) (by omega) (fun h_96 => ?_) (fun h_96 => ?_)
          · refine z_iconst C (z_d dtX8_likely_1 30 rfl) ?_
            exact ret _ _ _ _ (z_d dtX8_likely_1 31 rfl) (⟨rfl, by
                unfold zLy
                rw [if_neg (by omega)]
                first
                  | (rw [if_pos (by omega)]; first | rw [if_pos (by omega)] | rw [if_neg (by omega)])
                  | (rw [if_neg (by omega), if_pos (by omega)]; first | rw [if_pos (by omega)] | rw [if_neg (by omega)])
                  | (rw [if_neg (by omega), if_neg (by omega)]; first | rw [if_pos (by omega)] | rw [if_neg (by omega)])⟩) rfl
          · refine z_aload_n C (z_d dtX8_likely_1 17 rfl) rfl ?_
            refine gf_X8_16 C (z_d dtX8_likely_1 18 rfl) ?_
            refine z_iload_n C (z_d dtX8_likely_1 19 rfl) rfl ?_
            refine z_aload_n C (z_d dtX8_likely_1 20 rfl) rfl ?_
            refine gf_X8_93 C (z_d dtX8_likely_1 21 rfl) ?_
            refine z_aload_n C (z_d dtX8_likely_1 22 rfl) rfl ?_
            refine gf_X8_96 C (z_d dtX8_likely_1 23 rfl) ?_
            refine z_imul C (z_d dtX8_likely_1 24 rfl) ?_
            refine z_irem C (z_d dtX8_likely_1 25 rfl) (by omega) ?_
            refine al_M3 C (z_d dtX8_likely_1 26 rfl) (by omega) ?_
            refine z_if_eq (tgt := 122) C (z_d dtX8_likely_1 27 rfl) (by decide) (by omega) (fun h_115 => ?_) (fun h_115 => ?_)
            · refine z_iconst C (z_d dtX8_likely_1 30 rfl) ?_
              exact ret _ _ _ _ (z_d dtX8_likely_1 31 rfl) (⟨rfl, by
                  unfold zLy
                  rw [if_neg (by omega)]
                  first
                    | (rw [if_pos (by omega)]; first | rw [if_pos (by omega)] | rw [if_neg (by omega)])
                    | (rw [if_neg (by omega), if_pos (by omega)]; first | rw [if_pos (by omega)] | rw [if_neg (by omega)])
                    | (rw [if_neg (by omega), if_neg (by omega)]; first | rw [if_pos (by omega)] | rw [if_neg (by omega)])⟩) rfl
            · refine z_iconst C (z_d dtX8_likely_1 28 rfl) ?_
              refine z_goto (tgt := 123) C (z_d dtX8_likely_1 29 rfl) (by decide) ?_
              exact ret _ _ _ _ (z_d dtX8_likely_1 31 rfl) (⟨rfl, by
                  unfold zLy
                  rw [if_neg (by omega)]
                  first
                    | (rw [if_pos (by omega)]; first | rw [if_pos (by omega)] | rw [if_neg (by omega)])
                    | (rw [if_neg (by omega), if_pos (by omega)]; first | rw [if_pos (by omega)] | rw [if_neg (by omega)])
                    | (rw [if_neg (by omega), if_neg (by omega)]; first | rw [if_pos (by omega)] | rw [if_neg (by omega)])⟩) rfl
        · refine z_aload_n C (z_d dtX8_likely_0 39 rfl) rfl ?_
          refine gf_X8_13 C (z_d dtX8_likely_1 0 rfl) ?_
          refine z_iload_n C (z_d dtX8_likely_1 1 rfl) rfl ?_
          refine al_M2 C (z_d dtX8_likely_1 2 rfl) (by omega) ?_
          refine z_if_eq (tgt := 81) C (z_d dtX8_likely_1 3 rfl) (by decide) (by omega) (fun h_74 => ?_) (fun h_74 => ?_)
          · refine z_iconst C (z_d dtX8_likely_1 6 rfl) ?_
            exact ret _ _ _ _ (z_d dtX8_likely_1 7 rfl) (⟨rfl, by
                unfold zLy
                rw [if_neg (by omega)]
                first
                  | (rw [if_pos (by omega)]; first | rw [if_pos (by omega)] | rw [if_neg (by omega)])
                  | (rw [if_neg (by omega), if_pos (by omega)]; first | rw [if_pos (by omega)] | rw [if_neg (by omega)])
                  | (rw [if_neg (by omega), if_neg (by omega)]; first | rw [if_pos (by omega)] | rw [if_neg (by omega)])⟩) rfl
          · refine z_iconst C (z_d dtX8_likely_1 4 rfl) ?_
            refine z_goto (tgt := 82) C (z_d dtX8_likely_1 5 rfl) (by decide) ?_
            exact ret _ _ _ _ (z_d dtX8_likely_1 7 rfl) (⟨rfl, by
                unfold zLy
                rw [if_neg (by omega)]
                first
                  | (rw [if_pos (by omega)]; first | rw [if_pos (by omega)] | rw [if_neg (by omega)])
                  | (rw [if_neg (by omega), if_pos (by omega)]; first | rw [if_pos (by omega)] | rw [if_neg (by omega)])
                  | (rw [if_neg (by omega), if_neg (by omega)]; first | rw [if_pos (by omega)] | rw [if_neg (by omega)])⟩) rfl
      · refine z_aload_n C (z_d dtX8_likely_0 25 rfl) rfl ?_
        refine gf_X8_7 C (z_d dtX8_likely_0 26 rfl) ?_
        refine z_iload_n C (z_d dtX8_likely_0 27 rfl) rfl ?_
        refine al_M1 C (z_d dtX8_likely_0 28 rfl) (by omega) ?_
        refine z_if_eq (tgt := 56) C (z_d dtX8_likely_0 29 rfl) (by decide) (by omega) (fun h_49 => ?_) (fun h_49 => ?_)
        · refine z_iconst C (z_d dtX8_likely_0 32 rfl) ?_
          exact ret _ _ _ _ (z_d dtX8_likely_0 33 rfl) (⟨rfl, by
              unfold zLy
              rw [if_neg (by omega)]
              first
                | (rw [if_pos (by omega)]; first | rw [if_pos (by omega)] | rw [if_neg (by omega)])
                | (rw [if_neg (by omega), if_pos (by omega)]; first | rw [if_pos (by omega)] | rw [if_neg (by omega)])
                | (rw [if_neg (by omega), if_neg (by omega)]; first | rw [if_pos (by omega)] | rw [if_neg (by omega)])⟩) rfl
        · refine z_iconst C (z_d dtX8_likely_0 30 rfl) ?_
          refine z_goto (tgt := 57) C (z_d dtX8_likely_0 31 rfl) (by decide) ?_
          exact ret _ _ _ _ (z_d dtX8_likely_0 33 rfl) (⟨rfl, by
              unfold zLy
              rw [if_neg (by omega)]
              first
                | (rw [if_pos (by omega)]; first | rw [if_pos (by omega)] | rw [if_neg (by omega)])
                | (rw [if_neg (by omega), if_pos (by omega)]; first | rw [if_pos (by omega)] | rw [if_neg (by omega)])
                | (rw [if_neg (by omega), if_neg (by omega)]; first | rw [if_pos (by omega)] | rw [if_neg (by omega)])⟩) rfl
    refine z_iload_n C (z_d dtX8_likely_0 6 rfl) rfl ?_
    refine z_iload_n C (z_d dtX8_likely_0 7 rfl) rfl ?_
    refine z_icmp_ge (tgt := 19) C (z_d dtX8_likely_0 8 rfl) (by decide) (by omega) (fun h_12 => ?_) (fun h_12 => ?_)
    · refine z_iload_n C (z_d dtX8_likely_0 11 rfl) rfl ?_
      refine z_istore_n3 C (z_d dtX8_likely_0 12 rfl) rfl ?_
      refine z_iload_n C (z_d dtX8_likely_0 13 rfl) rfl ?_
      refine z_iload_n C (z_d dtX8_likely_0 14 rfl) rfl ?_
      refine z_icmp_ge (tgt := 30) C (z_d dtX8_likely_0 15 rfl) (by decide) (by omega) (fun h_23 => ?_) (fun h_23 => ?_)
      · refine z_iload_n C (z_d dtX8_likely_0 18 rfl) rfl ?_
        refine z_istore4 C (z_d dtX8_likely_0 19 rfl) rfl ?_
        exact jn_33 _ _ (by omega) (by omega)
      · refine z_iload_n C (z_d dtX8_likely_0 16 rfl) rfl ?_
        refine z_goto (tgt := 31) C (z_d dtX8_likely_0 17 rfl) (by decide) ?_
        refine z_istore4 C (z_d dtX8_likely_0 19 rfl) rfl ?_
        exact jn_33 _ _ (by omega) (by omega)
    · refine z_iload_n C (z_d dtX8_likely_0 9 rfl) rfl ?_
      refine z_goto (tgt := 20) C (z_d dtX8_likely_0 10 rfl) (by decide) ?_
      refine z_istore_n3 C (z_d dtX8_likely_0 12 rfl) rfl ?_
      refine z_iload_n C (z_d dtX8_likely_0 13 rfl) rfl ?_
      refine z_iload_n C (z_d dtX8_likely_0 14 rfl) rfl ?_
      refine z_icmp_ge (tgt := 30) C (z_d dtX8_likely_0 15 rfl) (by decide) (by omega) (fun h_23 => ?_) (fun h_23 => ?_)
      · refine z_iload_n C (z_d dtX8_likely_0 18 rfl) rfl ?_
        refine z_istore4 C (z_d dtX8_likely_0 19 rfl) rfl ?_
        exact jn_33 _ _ (by omega) (by omega)
      · refine z_iload_n C (z_d dtX8_likely_0 16 rfl) rfl ?_
        refine z_goto (tgt := 31) C (z_d dtX8_likely_0 17 rfl) (by decide) ?_
        refine z_istore4 C (z_d dtX8_likely_0 19 rfl) rfl ?_
        exact jn_33 _ _ (by omega) (by omega)
  · refine z_aload_n C (z_d dtX8_likely_0 3 rfl) rfl ?_
    refine gf_X8_19 C (z_d dtX8_likely_0 4 rfl) ?_
    exact ret _ _ _ _ (z_d dtX8_likely_0 5 rfl) (⟨rfl, by rw [zLy, if_pos (by omega)]⟩) rfl

set_option maxRecDepth 100000 in
set_option maxHeartbeats 4000000 in
theorem k_X8_rowsOf {l : Launch} {D : va_G} {t : Nat → ClassId} {ad : Nat → Nat} {σ : zMem} {z : Int} (hz : 0 ≤ z ∧ z < 4) (h18 : ∀ i, 0 ≤ σ 18 i ∧ σ 18 i ≤ 240) : z_Ci l D t yX8_rowsOf cX8_rowsOf 2 .int 0 0 0 0 [.ref (ad 0), .int (zI z)] (wM ad t σ) (fun r w => w = wM ad t σ ∧ r = σ 18 z / 8) := by
  refine z_Ci_of (by decide +kernel) [some (.ref (ad 0)), some (.int (zI z))] rfl rfl (Nat.le_of_ble_eq_true rfl) fun K hl hD ht hR hnm C ret => ?_
  subst hl; subst hD; subst ht
  have h18z := h18 z
  refine z_aload_n C (z_d dtX8_rowsOf_0 0 rfl) rfl ?_
  refine gf_X8_70 C (z_d dtX8_rowsOf_0 1 rfl) ?_
  refine z_iload_n C (z_d dtX8_rowsOf_0 2 rfl) rfl ?_
  refine al_M18 C (z_d dtX8_rowsOf_0 3 rfl) (by omega) ?_
  refine z_bipush C (z_d dtX8_rowsOf_0 4 rfl) zb_8 ?_
  refine z_idiv C (z_d dtX8_rowsOf_0 5 rfl) (by omega) ?_
  exact ret _ _ _ _ (z_d dtX8_rowsOf_0 6 rfl) (⟨rfl, rfl⟩) rfl

set_option maxRecDepth 100000 in
set_option maxHeartbeats 4000000 in
theorem k_X8_heard {l : Launch} {D : va_G} {t : Nat → ClassId} {ad : Nat → Nat} {σ : zMem} {z row k o : Int} (hz : 0 ≤ z ∧ z < 4) (hit : zIt σ) (hrow : 0 ≤ row ∧ row < 30) (hk : 0 ≤ k ∧ k < 8) (ho : -4 ≤ o ∧ o ≤ 4) : z_Ci l D t yX8_heard cX8_heard 7 .int 1 22 0 0 [.ref (ad 0), .int (zI z), .int (zI row), .int (zI k), .int (zI o)] (wM ad t σ) (fun r w => w = wM ad t σ ∧ r = zHo (zHv σ z row k) o) := by
  refine z_Ci_of (by decide +kernel) [some (.ref (ad 0)), some (.int (zI z)), some (.int (zI row)), some (.int (zI k)), some (.int (zI o)), none, none] rfl rfl (Nat.le_of_ble_eq_true rfl) fun K hl hD ht hR hnm C ret => ?_
  subst hl; subst hD; subst ht
  have hv := hit (240 * z + (row * 8 + k))
  have he : σ 20 (240 * z + 8 * row + k) = zHv σ z row k := by
    unfold zHv
    rw [show 240 * z + (row * 8 + k) = 240 * z + 8 * row + k by omega]
  have hv2 : -2147483648 ≤ zHv σ z row k ∧ zHv σ z row k < 2147483648 := hv
  refine z_aload_n C (z_d dtX8_heard_0 0 rfl) rfl ?_
  refine gf_X8_73 C (z_d dtX8_heard_0 1 rfl) ?_
  refine z_sipush C (z_d dtX8_heard_0 2 rfl) zs_240 ?_
  refine z_iload_n C (z_d dtX8_heard_0 3 rfl) rfl ?_
  refine z_imul C (z_d dtX8_heard_0 4 rfl) ?_
  refine z_bipush C (z_d dtX8_heard_0 5 rfl) zb_8 ?_
  refine z_iload_n C (z_d dtX8_heard_0 6 rfl) rfl ?_
  refine z_imul C (z_d dtX8_heard_0 7 rfl) ?_
  refine z_iadd C (z_d dtX8_heard_0 8 rfl) ?_
  refine z_iload_n C (z_d dtX8_heard_0 9 rfl) rfl ?_
  refine z_iadd C (z_d dtX8_heard_0 10 rfl) ?_
  refine al_M19 C (z_d dtX8_heard_0 11 rfl) (by omega) ?_
  refine z_top he ?_
  refine z_istore5 C (z_d dtX8_heard_0 12 rfl) rfl ?_
  refine z_iload C (z_d dtX8_heard_0 13 rfl) rfl ?_
  refine z_iconst C (z_d dtX8_heard_0 14 rfl) ?_
  refine z_bipush C (z_d dtX8_heard_0 15 rfl) zb_9 ?_
  refine z_callS C (z_d dtX8_heard_0 16 rfl) (k_X8_in  (by first | assumption | omega) (by first | assumption | omega) (by first | assumption | omega)) cal_X8_in gw_8_19 rfl rfl hR ⟨rfl, rfl, rfl, rfl⟩ rfl (fun r_24 w_24 h_24 => ?_)
  obtain ⟨rfl, h_24⟩ := h_24
  refine z_if_ne (tgt := 33) C (z_d dtX8_heard_0 17 rfl) (by decide) (by omega) (fun h_27 => ?_) (fun h_27 => ?_)
  · refine z_iload C (z_d dtX8_heard_0 20 rfl) rfl ?_
    refine z_iload C (z_d dtX8_heard_0 21 rfl) rfl ?_
    refine z_isub C (z_d dtX8_heard_0 22 rfl) ?_
    refine z_istore6 C (z_d dtX8_heard_0 23 rfl) rfl ?_
    refine z_iload C (z_d dtX8_heard_0 24 rfl) rfl ?_
    refine z_iconst C (z_d dtX8_heard_0 25 rfl) ?_
    refine z_icmp_ne (tgt := 50) C (z_d dtX8_heard_0 26 rfl) (by decide) (by omega) (fun h_43 => ?_) (fun h_43 => ?_)
    · refine z_iload C (z_d dtX8_heard_0 29 rfl) rfl ?_
      refine z_if_ge (tgt := 59) C (z_d dtX8_heard_0 30 rfl) (by decide) (by omega) (fun h_52 => ?_) (fun h_52 => ?_)
      · refine z_iload C (z_d dtX8_heard_0 33 rfl) rfl ?_
        refine z_bipush C (z_d dtX8_heard_0 34 rfl) zb_9 ?_
        refine z_icmp_le (tgt := 71) C (z_d dtX8_heard_0 35 rfl) (by decide) (by omega) (fun h_63 => ?_) (fun h_63 => ?_)
        · refine z_iload C (z_d dtX8_heard_0 38 rfl) rfl ?_
          exact ret _ _ _ _ (z_d dtX8_heard_0 39 rfl) (⟨rfl, by
              unfold zHo
              first
                | rw [if_neg (by omega)]
                | rw [if_pos (by omega), if_pos (by omega)]
                | rw [if_pos (by omega), if_neg (by omega), if_pos (by omega)]
                | rw [if_pos (by omega), if_neg (by omega), if_neg (by omega), if_pos (by omega)]
                | rw [if_pos (by omega), if_neg (by omega), if_neg (by omega), if_neg (by omega)]⟩) rfl
        · refine z_bipush C (z_d dtX8_heard_0 36 rfl) zb_9 ?_
          refine z_goto (tgt := 73) C (z_d dtX8_heard_0 37 rfl) (by decide) ?_
          exact ret _ _ _ _ (z_d dtX8_heard_0 39 rfl) (⟨rfl, by
              unfold zHo
              first
                | rw [if_neg (by omega)]
                | rw [if_pos (by omega), if_pos (by omega)]
                | rw [if_pos (by omega), if_neg (by omega), if_pos (by omega)]
                | rw [if_pos (by omega), if_neg (by omega), if_neg (by omega), if_pos (by omega)]
                | rw [if_pos (by omega), if_neg (by omega), if_neg (by omega), if_neg (by omega)]⟩) rfl
      · refine z_iconst C (z_d dtX8_heard_0 31 rfl) ?_
        refine z_goto (tgt := 73) C (z_d dtX8_heard_0 32 rfl) (by decide) ?_
        exact ret _ _ _ _ (z_d dtX8_heard_0 39 rfl) (⟨rfl, by
            unfold zHo
            first
              | rw [if_neg (by omega)]
              | rw [if_pos (by omega), if_pos (by omega)]
              | rw [if_pos (by omega), if_neg (by omega), if_pos (by omega)]
              | rw [if_pos (by omega), if_neg (by omega), if_neg (by omega), if_pos (by omega)]
              | rw [if_pos (by omega), if_neg (by omega), if_neg (by omega), if_neg (by omega)]⟩) rfl
    · refine z_iconst C (z_d dtX8_heard_0 27 rfl) ?_
      refine z_goto (tgt := 73) C (z_d dtX8_heard_0 28 rfl) (by decide) ?_
      exact ret _ _ _ _ (z_d dtX8_heard_0 39 rfl) (⟨rfl, by
          unfold zHo
          first
            | rw [if_neg (by omega)]
            | rw [if_pos (by omega), if_pos (by omega)]
            | rw [if_pos (by omega), if_neg (by omega), if_pos (by omega)]
            | rw [if_pos (by omega), if_neg (by omega), if_neg (by omega), if_pos (by omega)]
            | rw [if_pos (by omega), if_neg (by omega), if_neg (by omega), if_neg (by omega)]⟩) rfl
  · refine z_bipush C (z_d dtX8_heard_0 18 rfl) zb_m2 ?_
    exact ret _ _ _ _ (z_d dtX8_heard_0 19 rfl) (⟨rfl, by
        unfold zHo
        first
          | rw [if_neg (by omega)]
          | rw [if_pos (by omega), if_pos (by omega)]
          | rw [if_pos (by omega), if_neg (by omega), if_pos (by omega)]
          | rw [if_pos (by omega), if_neg (by omega), if_neg (by omega), if_pos (by omega)]
          | rw [if_pos (by omega), if_neg (by omega), if_neg (by omega), if_neg (by omega)]⟩) rfl

set_option maxRecDepth 100000 in
set_option maxHeartbeats 4000000 in
theorem k_X8_placeIn {l : Launch} {D : va_G} {t : Nat → ClassId} {ad : Nat → Nat} {σ : zMem} {k c v : Int}  : z_Ci l D t yX8_placeIn cX8_placeIn 4 .int 0 0 0 0 [.ref (ad 0), .int (zI k), .int (zI c), .int (zI v)] (wM ad t σ) (fun r w => w = wM ad t σ ∧ r = zAt k c v) := by
  refine z_Ci_of (by decide +kernel) [some (.ref (ad 0)), some (.int (zI k)), some (.int (zI c)), some (.int (zI v))] rfl rfl (Nat.le_of_ble_eq_true rfl) fun K hl hD ht hR hnm C ret => ?_
  subst hl; subst hD; subst ht
  refine z_sipush C (z_d dtX8_placeIn_0 0 rfl) zs_792 ?_
  refine z_iload_n C (z_d dtX8_placeIn_0 1 rfl) rfl ?_
  refine z_imul C (z_d dtX8_placeIn_0 2 rfl) ?_
  refine z_bipush C (z_d dtX8_placeIn_0 3 rfl) zb_11 ?_
  refine z_iload_n C (z_d dtX8_placeIn_0 4 rfl) rfl ?_
  refine z_imul C (z_d dtX8_placeIn_0 5 rfl) ?_
  refine z_iadd C (z_d dtX8_placeIn_0 6 rfl) ?_
  refine z_iload_n C (z_d dtX8_placeIn_0 7 rfl) rfl ?_
  refine z_iadd C (z_d dtX8_placeIn_0 8 rfl) ?_
  refine z_iconst C (z_d dtX8_placeIn_0 9 rfl) ?_
  refine z_iadd C (z_d dtX8_placeIn_0 10 rfl) ?_
  exact ret _ _ _ _ (z_d dtX8_placeIn_0 11 rfl) (⟨rfl, rfl⟩) rfl

set_option maxRecDepth 100000 in
set_option maxHeartbeats 4000000 in
theorem k_X8_weightOf {l : Launch} {D : va_G} {t : Nat → ClassId} {ad : Nat → Nat} {σ : zMem} {k c v : Int} (hk : 0 ≤ k ∧ k < 8) (hc : 0 ≤ c ∧ c < 72) (hv : -1 ≤ v ∧ v ≤ 9) : z_Ci l D t yX8_weightOf cX8_weightOf 4 .int 1 23 0 0 [.ref (ad 0), .int (zI k), .int (zI c), .int (zI v)] (wM ad t σ) (fun r w => w = wM ad t σ ∧ r = zWt σ k c v) := by
  refine z_Ci_of (by decide +kernel) [some (.ref (ad 0)), some (.int (zI k)), some (.int (zI c)), some (.int (zI v))] rfl rfl (Nat.le_of_ble_eq_true rfl) fun K hl hD ht hR hnm C ret => ?_
  subst hl; subst hD; subst ht
  have ha := zAt_b hk hc hv
  refine z_aload_n C (z_d dtX8_weightOf_0 0 rfl) rfl ?_
  refine gf_X8_26 C (z_d dtX8_weightOf_0 1 rfl) ?_
  refine z_aload_n C (z_d dtX8_weightOf_0 2 rfl) rfl ?_
  refine z_iload_n C (z_d dtX8_weightOf_0 3 rfl) rfl ?_
  refine z_iload_n C (z_d dtX8_weightOf_0 4 rfl) rfl ?_
  refine z_iload_n C (z_d dtX8_weightOf_0 5 rfl) rfl ?_
  refine z_callV C (z_d dtX8_weightOf_0 6 rfl) (k_X8_placeIn  ) cal_X8_placeIn gw_17_16 rfl 0 8 rfl rfl rfl rfl hR ⟨rfl, rfl, rfl, rfl⟩ rfl (fun r_8 w_8 h_8 => ?_)
  obtain ⟨rfl, rfl⟩ := h_8
  refine al_M5 C (z_d dtX8_weightOf_0 7 rfl) (by omega) ?_
  refine z_iconst C (z_d dtX8_weightOf_0 8 rfl) ?_
  refine z_iadd C (z_d dtX8_weightOf_0 9 rfl) ?_
  exact ret _ _ _ _ (z_d dtX8_weightOf_0 10 rfl) (⟨rfl, rfl⟩) rfl

set_option maxRecDepth 100000 in
set_option maxHeartbeats 4000000 in
theorem k_X8_meets {l : Launch} {D : va_G} {t : Nat → ClassId} {ad : Nat → Nat} {σ : zMem} {n : Int}  : z_Ci l D t yX8_meets cX8_meets 2 .int 0 0 0 0 [.ref (ad 0), .int (zI n)] (wM ad t σ) (fun r w => w = wM ad t (zS σ 19 (zC n)) ∧ r = -10 - n) := by
  refine z_Ci_of (by decide +kernel) [some (.ref (ad 0)), some (.int (zI n))] rfl rfl (Nat.le_of_ble_eq_true rfl) fun K hl hD ht hR hnm C ret => ?_
  subst hl; subst hD; subst ht
  refine z_aload_n C (z_d dtX8_meets_0 0 rfl) rfl ?_
  refine z_iload_n C (z_d dtX8_meets_0 1 rfl) rfl ?_
  refine pf_X8_196 C (z_d dtX8_meets_0 2 rfl) ?_
  refine z_bipush C (z_d dtX8_meets_0 3 rfl) zb_m10 ?_
  refine z_iload_n C (z_d dtX8_meets_0 4 rfl) rfl ?_
  refine z_isub C (z_d dtX8_meets_0 5 rfl) ?_
  exact ret _ _ _ _ (z_d dtX8_meets_0 6 rfl) (⟨rfl, rfl⟩) rfl

set_option maxRecDepth 100000 in
set_option maxHeartbeats 4000000 in
theorem k_X8_surveys {l : Launch} {D : va_G} {t : Nat → ClassId} {ad : Nat → Nat} {σ : zMem} {z row c : Int} (hz : 0 ≤ z ∧ z < 4) (hit : zIt σ) (hrow : 0 ≤ row ∧ row < 30) (hc : 0 ≤ c ∧ c < 72) (hmp : zMp σ) : z_Ci l D t yX8_surveys cX8_surveys 8 .int 2 48 0 0 [.ref (ad 0), .int (zI z), .int (zI row), .int (zI c)] (wM ad t σ) (fun r w => w = wM ad t (zS σ 8 (zSv σ z row c 8)) ∧ r = zSn σ z row 8) := by
  refine z_Ci_of (by decide +kernel) [some (.ref (ad 0)), some (.int (zI z)), some (.int (zI row)), some (.int (zI c)), none, none, none, none] rfl rfl (Nat.le_of_ble_eq_true rfl) fun K hl hD ht hR hnm C ret => ?_
  subst hl; subst hD; subst ht
  refine z_iconst C (z_d dtX8_surveys_0 0 rfl) ?_
  refine z_istore4 C (z_d dtX8_surveys_0 1 rfl) rfl ?_
  refine z_iconst C (z_d dtX8_surveys_0 2 rfl) ?_
  refine z_istore5 C (z_d dtX8_surveys_0 3 rfl) rfl ?_
  have lp_6 : ∀ (N_6 : Nat) (i : Nat) (k s : Int) (μ : zMem), (k = i ∧ i ≤ 8) → (s = zSn σ z row i) → (μ = zS σ 8 (zSv σ z row c i)) → 8 - i < N_6 → Gd K 0 0 6 [some (.ref (ad 0)), some (.int (zI z)), some (.int (zI row)), some (.int (zI c)), some (.int (zI s)), some (.int (zI k)), none, none] [] (wM ad (z_t K) μ) := by
    intro N_6
    induction N_6 with
    | zero => intro i k s μ hi hs hm hm_6; exact absurd hm_6 (Nat.not_lt_zero _)
    | succ N_6 ih_6 =>
      intro i k s μ hi hs hm hm_6
      obtain ⟨rfl, hi⟩ := hi
      have e8 : μ 8 = zSv σ z row c i := by rw [hm]; rfl
      have e20 : μ 20 = σ 20 := by rw [hm]; rfl
      have hit2 : zIt μ := by unfold zIt; rw [e20]; exact hit
      have hb := zSv_b hmp z row c i
      have hv9 := zH0_b (zHv σ z row i)
      have eV : zHv μ z row i = zHv σ z row i := by unfold zHv; rw [e20]
      refine z_iload C (z_d dtX8_surveys_0 4 rfl) rfl ?_
      refine z_bipush C (z_d dtX8_surveys_0 5 rfl) zb_8 ?_
      refine z_icmp_ge (tgt := 79) C (z_d dtX8_surveys_0 6 rfl) (by decide) (by omega) (fun h_10 => ?_) (fun h_10 => ?_)
      · refine z_iload C (z_d dtX8_surveys_1 2 rfl) rfl ?_
        exact ret _ _ _ _ (z_d dtX8_surveys_1 3 rfl) (⟨by rw [hm, show i = 8 by omega], by rw [hs, show i = 8 by omega]⟩) rfl
      · refine z_aload_n C (z_d dtX8_surveys_0 7 rfl) rfl ?_
        refine z_iload_n C (z_d dtX8_surveys_0 8 rfl) rfl ?_
        refine z_iload_n C (z_d dtX8_surveys_0 9 rfl) rfl ?_
        refine z_iload C (z_d dtX8_surveys_0 10 rfl) rfl ?_
        refine z_iconst C (z_d dtX8_surveys_0 11 rfl) ?_
        refine z_callV C (z_d dtX8_surveys_0 12 rfl) (k_X8_heard  (by first | assumption | omega) hit2 (by first | assumption | omega) (by first | assumption | omega) (by omega)) cal_X8_heard gw_17_12 rfl 0 8 rfl rfl rfl rfl hR ⟨rfl, rfl, rfl, rfl⟩ rfl (fun r_19 w_19 h_19 => ?_)
        obtain ⟨rfl, rfl⟩ := h_19
        rw [eV, zHo_0]
        refine z_istore6 C (z_d dtX8_surveys_0 13 rfl) rfl ?_
        refine z_iload C (z_d dtX8_surveys_0 14 rfl) rfl ?_
        refine z_bipush C (z_d dtX8_surveys_0 15 rfl) zb_m2 ?_
        refine z_icmp_eq (tgt := 73) C (z_d dtX8_surveys_0 16 rfl) (by decide) (by omega) (fun h_28 => ?_) (fun h_28 => ?_)
        · refine z_iinc5 C (z_d dtX8_surveys_1 0 rfl) rfl ?_
          refine z_goto (tgt := 6) C (z_d dtX8_surveys_1 1 rfl) (by decide) ?_
          refine z_drop6 ?_
          exact ih_6 (i + 1) _ _ _ (by omega) (by rw [zSn]; (first | rw [if_pos (by omega)] | rw [if_neg (by omega)]); omega) (by
                rw [zSv]
                first
                  | rw [if_pos (by omega)]; exact hm
                  | (rw [if_neg (by omega)]
                     first
                       | (rw [if_pos (by omega), hm, zS_zS, zS_s])
                       | (rw [if_neg (by omega), hm, zS_zS, zS_s]
                          rw [show (255 : Int) = zSv σ z row c i (zAt i c (zH0 (zHv σ z row i))) + 0 by omega]))) (by omega)
        · refine z_aload_n C (z_d dtX8_surveys_0 17 rfl) rfl ?_
          refine z_iload C (z_d dtX8_surveys_0 18 rfl) rfl ?_
          refine z_iload_n C (z_d dtX8_surveys_0 19 rfl) rfl ?_
          refine z_iload C (z_d dtX8_surveys_0 20 rfl) rfl ?_
          refine z_callV C (z_d dtX8_surveys_0 21 rfl) (k_X8_placeIn  ) cal_X8_placeIn gw_17_16 rfl 0 8 rfl rfl rfl rfl hR ⟨rfl, rfl, rfl, rfl⟩ rfl (fun r_37 w_37 h_37 => ?_)
          obtain ⟨rfl, rfl⟩ := h_37
          have ha := zAt_b (k := (i : Int)) (c := c) (v := zH0 (zHv σ z row i)) (by omega) hc (by omega)
          have hb3 := hb (zAt i c (zH0 (zHv σ z row i)))
          refine z_istore7 C (z_d dtX8_surveys_0 22 rfl) rfl ?_
          refine z_aload_n C (z_d dtX8_surveys_0 23 rfl) rfl ?_
          refine gf_X8_26 C (z_d dtX8_surveys_0 24 rfl) ?_
          refine z_iload C (z_d dtX8_surveys_0 25 rfl) rfl ?_
          refine z_dup2 C (z_d dtX8_surveys_0 26 rfl) rfl rfl ?_
          refine al_M5 C (z_d dtX8_surveys_0 27 rfl) (by omega) ?_
          try simp (decide := true) only [zS_s, zS_o, zC, e8]
          refine z_aload_n C (z_d dtX8_surveys_0 28 rfl) rfl ?_
          refine gf_X8_26 C (z_d dtX8_surveys_0 29 rfl) ?_
          refine z_iload C (z_d dtX8_surveys_0 30 rfl) rfl ?_
          refine al_M5 C (z_d dtX8_surveys_0 31 rfl) (by omega) ?_
          try simp (decide := true) only [zS_s, zS_o, zC, e8]
          refine z_sipush C (z_d dtX8_surveys_0 32 rfl) zs_255 ?_
          refine z_icmp_ge (tgt := 67) C (z_d dtX8_surveys_0 33 rfl) (by decide) (by omega) (fun h_60 => ?_) (fun h_60 => ?_)
          · refine z_iconst C (z_d dtX8_surveys_0 36 rfl) ?_
            refine z_iadd C (z_d dtX8_surveys_0 37 rfl) ?_
            refine as_M5 C (z_d dtX8_surveys_0 38 rfl) (by omega) ?_
            refine z_iinc4 C (z_d dtX8_surveys_0 39 rfl) rfl ?_
            refine z_iinc5 C (z_d dtX8_surveys_1 0 rfl) rfl ?_
            refine z_goto (tgt := 6) C (z_d dtX8_surveys_1 1 rfl) (by decide) ?_
            refine z_drop6 ?_
            refine z_drop7 ?_
            exact ih_6 (i + 1) _ _ _ (by omega) (by rw [zSn]; (first | rw [if_pos (by omega)] | rw [if_neg (by omega)]); omega) (by
                  rw [zSv]
                  first
                    | rw [if_pos (by omega)]; exact hm
                    | (rw [if_neg (by omega)]
                       first
                         | (rw [if_pos (by omega), hm, zS_zS, zS_s])
                         | (rw [if_neg (by omega), hm, zS_zS, zS_s]
                            rw [show (255 : Int) = zSv σ z row c i (zAt i c (zH0 (zHv σ z row i))) + 0 by omega]))) (by omega)
          · refine z_iconst C (z_d dtX8_surveys_0 34 rfl) ?_
            refine z_goto (tgt := 68) C (z_d dtX8_surveys_0 35 rfl) (by decide) ?_
            refine z_iadd C (z_d dtX8_surveys_0 37 rfl) ?_
            refine as_M5 C (z_d dtX8_surveys_0 38 rfl) (by omega) ?_
            refine z_iinc4 C (z_d dtX8_surveys_0 39 rfl) rfl ?_
            refine z_iinc5 C (z_d dtX8_surveys_1 0 rfl) rfl ?_
            refine z_goto (tgt := 6) C (z_d dtX8_surveys_1 1 rfl) (by decide) ?_
            refine z_drop6 ?_
            refine z_drop7 ?_
            exact ih_6 (i + 1) _ _ _ (by omega) (by rw [zSn]; (first | rw [if_pos (by omega)] | rw [if_neg (by omega)]); omega) (by
                  rw [zSv]
                  first
                    | rw [if_pos (by omega)]; exact hm
                    | (rw [if_neg (by omega)]
                       first
                         | (rw [if_pos (by omega), hm, zS_zS, zS_s])
                         | (rw [if_neg (by omega), hm, zS_zS, zS_s]
                            rw [show (255 : Int) = zSv σ z row c i (zAt i c (zH0 (zHv σ z row i))) + 0 by omega]))) (by omega)
  exact lp_6 _ 0 _ _ _ (by omega) rfl (by funext j; unfold zS; cases hj : Nat.beq j 8 with
      | true => rw [Nat.eq_of_beq_eq_true hj]; rfl
      | false => rfl) (Nat.lt_succ_self _)

set_option maxRecDepth 100000 in
set_option maxHeartbeats 4000000 in
theorem k_X8_lacksRow {l : Launch} {D : va_G} {t : Nat → ClassId} {ad : Nat → Nat} {σ : zMem} {z row : Int} (hz : 0 ≤ z ∧ z < 4) (h18 : ∀ i, 0 ≤ σ 18 i ∧ σ 18 i ≤ 240) (h16 : zBo σ 16) (hrow : -2147483648 ≤ row ∧ row < 2147483648) : z_Ci l D t yX8_lacksRow cX8_lacksRow 3 .int 1 22 0 0 [.ref (ad 0), .int (zI z), .int (zI row)] (wM ad t σ) (fun r w => w = wM ad t σ ∧ r = zRp σ z row) := by
  refine z_Ci_of (by decide +kernel) [some (.ref (ad 0)), some (.int (zI z)), some (.int (zI row))] rfl rfl (Nat.le_of_ble_eq_true rfl) fun K hl hD ht hR hnm C ret => ?_
  subst hl; subst hD; subst ht
  have h16z := h16 z
  have h18z := h18 z
  refine z_aload_n C (z_d dtX8_lacksRow_0 0 rfl) rfl ?_
  refine gf_X8_64 C (z_d dtX8_lacksRow_0 1 rfl) ?_
  refine z_iload_n C (z_d dtX8_lacksRow_0 2 rfl) rfl ?_
  refine al_M16 C (z_d dtX8_lacksRow_0 3 rfl) (by omega) ?_
  refine z_if_ne (tgt := 13) C (z_d dtX8_lacksRow_0 4 rfl) (by decide) (by omega) (fun h_6 => ?_) (fun h_6 => ?_)
  · refine z_iload_n C (z_d dtX8_lacksRow_0 7 rfl) rfl ?_
    refine z_iconst C (z_d dtX8_lacksRow_0 8 rfl) ?_
    refine z_aload_n C (z_d dtX8_lacksRow_0 9 rfl) rfl ?_
    refine z_iload_n C (z_d dtX8_lacksRow_0 10 rfl) rfl ?_
    refine z_callV C (z_d dtX8_lacksRow_0 11 rfl) (k_X8_rowsOf  (by first | assumption | omega) (by first | assumption | omega)) cal_X8_rowsOf gw_16_23 rfl 0 8 rfl rfl rfl rfl hR ⟨rfl, rfl, rfl, rfl⟩ rfl (fun r_17 w_17 h_17 => ?_)
    obtain ⟨rfl, rfl⟩ := h_17
    refine z_iconst C (z_d dtX8_lacksRow_0 12 rfl) ?_
    refine z_isub C (z_d dtX8_lacksRow_0 13 rfl) ?_
    refine z_callS C (z_d dtX8_lacksRow_0 14 rfl) (k_X8_in  (by first | assumption | omega) (by first | assumption | omega) (by first | assumption | omega)) cal_X8_in gw_8_19 rfl rfl hR ⟨rfl, rfl, rfl, rfl⟩ rfl (fun r_22 w_22 h_22 => ?_)
    obtain ⟨rfl, h_22⟩ := h_22
    refine z_if_eq (tgt := 32) C (z_d dtX8_lacksRow_0 15 rfl) (by decide) (by omega) (fun h_25 => ?_) (fun h_25 => ?_)
    · refine z_iconst C (z_d dtX8_lacksRow_0 18 rfl) ?_
      exact ret _ _ _ _ (z_d dtX8_lacksRow_0 19 rfl) (⟨rfl, by
          unfold zRp
          first
            | rw [if_pos (by omega)]
            | rw [if_neg (by omega), if_pos (by omega)]
            | rw [if_neg (by omega), if_neg (by omega)]⟩) rfl
    · refine z_iconst C (z_d dtX8_lacksRow_0 16 rfl) ?_
      refine z_goto (tgt := 33) C (z_d dtX8_lacksRow_0 17 rfl) (by decide) ?_
      exact ret _ _ _ _ (z_d dtX8_lacksRow_0 19 rfl) (⟨rfl, by
          unfold zRp
          first
            | rw [if_pos (by omega)]
            | rw [if_neg (by omega), if_pos (by omega)]
            | rw [if_neg (by omega), if_neg (by omega)]⟩) rfl
  · refine z_iconst C (z_d dtX8_lacksRow_0 5 rfl) ?_
    refine z_goto (tgt := 33) C (z_d dtX8_lacksRow_0 6 rfl) (by decide) ?_
    exact ret _ _ _ _ (z_d dtX8_lacksRow_0 19 rfl) (⟨rfl, by
        unfold zRp
        first
          | rw [if_pos (by omega)]
          | rw [if_neg (by omega), if_pos (by omega)]
          | rw [if_neg (by omega), if_neg (by omega)]⟩) rfl

set_option maxRecDepth 100000 in
set_option maxHeartbeats 4000000 in
theorem k_X8_weights {l : Launch} {D : va_G} {t : Nat → ClassId} {ad : Nat → Nat} {σ : zMem} {z row c o wo : Int} (hz : 0 ≤ z ∧ z < 4) (hit : zIt σ) (hrow : 0 ≤ row ∧ row < 30) (hc : 0 ≤ c ∧ c < 72) (hmp : zMp σ) (h7 : zBo σ 7) (ho : -4 ≤ o ∧ o ≤ 4) (hwo : -1 ≤ wo ∧ wo < 8) : z_Ci l D t yX8_weights cX8_weights 9 .int 2 48 0 0 [.ref (ad 0), .int (zI z), .int (zI row), .int (zI c), .int (zI o), .int (zI wo)] (wM ad t σ) (fun r w => w = wM ad t σ ∧ r = zRw σ z row c o wo 8) := by
  refine z_Ci_of (by decide +kernel) [some (.ref (ad 0)), some (.int (zI z)), some (.int (zI row)), some (.int (zI c)), some (.int (zI o)), some (.int (zI wo)), none, none, none] rfl rfl (Nat.le_of_ble_eq_true rfl) fun K hl hD ht hR hnm C ret => ?_
  subst hl; subst hD; subst ht
  refine z_iconst C (z_d dtX8_weights_0 0 rfl) ?_
  refine z_istore6 C (z_d dtX8_weights_0 1 rfl) rfl ?_
  refine z_iconst C (z_d dtX8_weights_0 2 rfl) ?_
  refine z_istore7 C (z_d dtX8_weights_0 3 rfl) rfl ?_
  have lp_6 : ∀ (N_6 : Nat) (i : Nat) (k s : Int), (k = i ∧ i ≤ 8) → (s = zRw σ z row c o wo i) → 8 - i < N_6 → Gd K 0 0 6 [some (.ref (ad 0)), some (.int (zI z)), some (.int (zI row)), some (.int (zI c)), some (.int (zI o)), some (.int (zI wo)), some (.int (zI s)), some (.int (zI k)), none] [] (wM ad (z_t K) σ) := by
    intro N_6
    induction N_6 with
    | zero => intro i k s hi hs hm_6; exact absurd hm_6 (Nat.not_lt_zero _)
    | succ N_6 ih_6 =>
      intro i k s hi hs hm_6
      obtain ⟨rfl, hi⟩ := hi
      have hv9 := zHo_b (zHv σ z row i) o
      have h7i := h7 i
      refine z_iload C (z_d dtX8_weights_0 4 rfl) rfl ?_
      refine z_bipush C (z_d dtX8_weights_0 5 rfl) zb_8 ?_
      refine z_icmp_ge (tgt := 73) C (z_d dtX8_weights_0 6 rfl) (by decide) (by omega) (fun h_10 => ?_) (fun h_10 => ?_)
      · refine z_iload C (z_d dtX8_weights_0 37 rfl) rfl ?_
        exact ret _ _ _ _ (z_d dtX8_weights_0 38 rfl) (⟨rfl, by rw [hs, show i = 8 by omega]⟩) rfl
      · refine z_aload_n C (z_d dtX8_weights_0 7 rfl) rfl ?_
        refine z_iload_n C (z_d dtX8_weights_0 8 rfl) rfl ?_
        refine z_iload_n C (z_d dtX8_weights_0 9 rfl) rfl ?_
        refine z_iload C (z_d dtX8_weights_0 10 rfl) rfl ?_
        refine z_iload C (z_d dtX8_weights_0 11 rfl) rfl ?_
        refine z_callV C (z_d dtX8_weights_0 12 rfl) (k_X8_heard  (by first | assumption | omega) (by first | assumption | omega) (by first | assumption | omega) (by first | assumption | omega) (by first | assumption | omega)) cal_X8_heard gw_17_12 rfl 0 8 rfl rfl rfl rfl hR ⟨rfl, rfl, rfl, rfl⟩ rfl (fun r_20 w_20 h_20 => ?_)
        obtain ⟨rfl, rfl⟩ := h_20
        refine z_istore8 C (z_d dtX8_weights_0 13 rfl) rfl ?_
        refine z_iload C (z_d dtX8_weights_0 14 rfl) rfl ?_
        refine z_iload C (z_d dtX8_weights_0 15 rfl) rfl ?_
        refine z_bipush C (z_d dtX8_weights_0 16 rfl) zb_m2 ?_
        refine z_icmp_eq (tgt := 63) C (z_d dtX8_weights_0 17 rfl) (by decide) (by omega) (fun h_31 => ?_) (fun h_31 => ?_)
        · refine z_iconst C (z_d dtX8_weights_0 32 rfl) ?_
          refine z_iadd C (z_d dtX8_weights_0 33 rfl) ?_
          refine z_istore6 C (z_d dtX8_weights_0 34 rfl) rfl ?_
          refine z_iinc7 C (z_d dtX8_weights_0 35 rfl) rfl ?_
          refine z_goto (tgt := 6) C (z_d dtX8_weights_0 36 rfl) (by decide) ?_
          refine z_drop8 ?_
          exact ih_6 (i + 1) _ _ (by omega) (by rw [zRw, hs]; (first | rw [if_pos (by omega)] | rw [if_neg (by omega)])) (by omega)
        · refine z_aload_n C (z_d dtX8_weights_0 18 rfl) rfl ?_
          refine gf_X8_23 C (z_d dtX8_weights_0 19 rfl) ?_
          refine z_iload C (z_d dtX8_weights_0 20 rfl) rfl ?_
          refine al_M4 C (z_d dtX8_weights_0 21 rfl) (by omega) ?_
          refine z_if_ne (tgt := 63) C (z_d dtX8_weights_0 22 rfl) (by decide) (by omega) (fun h_41 => ?_) (fun h_41 => ?_)
          · refine z_iconst C (z_d dtX8_weights_0 32 rfl) ?_
            refine z_iadd C (z_d dtX8_weights_0 33 rfl) ?_
            refine z_istore6 C (z_d dtX8_weights_0 34 rfl) rfl ?_
            refine z_iinc7 C (z_d dtX8_weights_0 35 rfl) rfl ?_
            refine z_goto (tgt := 6) C (z_d dtX8_weights_0 36 rfl) (by decide) ?_
            refine z_drop8 ?_
            exact ih_6 (i + 1) _ _ (by omega) (by rw [zRw, hs]; (first | rw [if_pos (by omega)] | rw [if_neg (by omega)])) (by omega)
          · refine z_iload C (z_d dtX8_weights_0 23 rfl) rfl ?_
            refine z_iload C (z_d dtX8_weights_0 24 rfl) rfl ?_
            refine z_icmp_eq (tgt := 63) C (z_d dtX8_weights_0 25 rfl) (by decide) (by omega) (fun h_48 => ?_) (fun h_48 => ?_)
            · refine z_iconst C (z_d dtX8_weights_0 32 rfl) ?_
              refine z_iadd C (z_d dtX8_weights_0 33 rfl) ?_
              refine z_istore6 C (z_d dtX8_weights_0 34 rfl) rfl ?_
              refine z_iinc7 C (z_d dtX8_weights_0 35 rfl) rfl ?_
              refine z_goto (tgt := 6) C (z_d dtX8_weights_0 36 rfl) (by decide) ?_
              refine z_drop8 ?_
              exact ih_6 (i + 1) _ _ (by omega) (by rw [zRw, hs]; (first | rw [if_pos (by omega)] | rw [if_neg (by omega)])) (by omega)
            · refine z_aload_n C (z_d dtX8_weights_0 26 rfl) rfl ?_
              refine z_iload C (z_d dtX8_weights_0 27 rfl) rfl ?_
              refine z_iload_n C (z_d dtX8_weights_0 28 rfl) rfl ?_
              refine z_iload C (z_d dtX8_weights_0 29 rfl) rfl ?_
              refine z_callV C (z_d dtX8_weights_0 30 rfl) (k_X8_weightOf  (by first | assumption | omega) (by first | assumption | omega) (by first | assumption | omega)) cal_X8_weightOf gw_18_8 rfl 0 8 rfl rfl rfl rfl hR ⟨rfl, rfl, rfl, rfl⟩ rfl (fun r_57 w_57 h_57 => ?_)
              obtain ⟨rfl, rfl⟩ := h_57
              refine z_goto (tgt := 64) C (z_d dtX8_weights_0 31 rfl) (by decide) ?_
              refine z_iadd C (z_d dtX8_weights_0 33 rfl) ?_
              refine z_istore6 C (z_d dtX8_weights_0 34 rfl) rfl ?_
              refine z_iinc7 C (z_d dtX8_weights_0 35 rfl) rfl ?_
              refine z_goto (tgt := 6) C (z_d dtX8_weights_0 36 rfl) (by decide) ?_
              refine z_drop8 ?_
              exact ih_6 (i + 1) _ _ (by omega) (by rw [zRw, hs]; (first | rw [if_pos (by omega)] | rw [if_neg (by omega)])) (by omega)
  exact lp_6 _ 0 _ _ (by omega) rfl (Nat.lt_succ_self _)

set_option maxRecDepth 100000 in
set_option maxHeartbeats 4000000 in
theorem k_X8_stay {l : Launch} {D : va_G} {t : Nat → ClassId} {ad : Nat → Nat} {σ : zMem} {s : Int} (ok : okM σ) (hs : -2147483648 ≤ s ∧ s < 2147483648) : z_Ci l D t yX8_stay cX8_stay 3 .int 1 22 0 0 [.ref (ad 0), .int (zI s)] (wM ad t σ) (fun r w => ∃ σ', w = wM ad t σ' ∧ ((¬ (0 ≤ s ∧ s ≤ 9) ∧ r = -2 ∧ σ' = σ) ∨ ((0 ≤ s ∧ s ≤ 9) ∧ r = σ 3 0 ∧ σ' = zS σ 3 (zC s)))) := by
  refine z_Ci_of (by decide +kernel) [some (.ref (ad 0)), some (.int (zI s)), none] rfl rfl (Nat.le_of_ble_eq_true rfl) fun K hl hD ht hR hnm C ret => ?_
  subst hl; subst hD; subst ht
  have ok2 := ok
  obtain ⟨⟨hw, h60, hs, h4, h5, h6, h7⟩, hmp, ⟨h9, hsum⟩, oW1, ⟨hle, hgi, hga⟩, oT1, ⟨h16, h17, h18, hit⟩⟩ := ok2
  have hN := zHw_N hw
  have hW := hw; unfold zHw at hW
  have hwh := zHw_wh hw
  refine z_iload_n C (z_d dtX8_stay_0 0 rfl) rfl ?_
  refine z_iconst C (z_d dtX8_stay_0 1 rfl) ?_
  refine z_bipush C (z_d dtX8_stay_0 2 rfl) zb_9 ?_
  refine z_callS C (z_d dtX8_stay_0 3 rfl) (k_X8_in  (by first | assumption | omega) (by first | assumption | omega) (by first | assumption | omega)) cal_X8_in gw_8_19 rfl rfl hR ⟨rfl, rfl, rfl, rfl⟩ rfl (fun r_4 w_4 h_4 => ?_)
  obtain ⟨rfl, h_4⟩ := h_4
  refine z_if_ne (tgt := 13) C (z_d dtX8_stay_0 4 rfl) (by decide) (by omega) (fun h_7 => ?_) (fun h_7 => ?_)
  · refine z_aload_n C (z_d dtX8_stay_0 7 rfl) rfl ?_
    refine gf_X8_19 C (z_d dtX8_stay_0 8 rfl) ?_
    refine z_istore_n2 C (z_d dtX8_stay_0 9 rfl) rfl ?_
    refine z_aload_n C (z_d dtX8_stay_0 10 rfl) rfl ?_
    refine z_iload_n C (z_d dtX8_stay_0 11 rfl) rfl ?_
    refine pf_X8_19 C (z_d dtX8_stay_0 12 rfl) ?_
    refine z_iload_n C (z_d dtX8_stay_0 13 rfl) rfl ?_
    exact ret _ _ _ _ (z_d dtX8_stay_0 14 rfl) (⟨_, rfl, Or.inr ⟨by omega, rfl, rfl⟩⟩) rfl
  · refine z_bipush C (z_d dtX8_stay_0 5 rfl) zb_m2 ?_
    exact ret _ _ _ _ (z_d dtX8_stay_0 6 rfl) (⟨σ, rfl, Or.inl ⟨by omega, rfl, rfl⟩⟩) rfl

set_option maxRecDepth 100000 in
set_option maxHeartbeats 4000000 in
theorem k_X8_wall {l : Launch} {D : va_G} {t : Nat → ClassId} {ad : Nat → Nat} {σ : zMem} {a b s : Int} (ok : okM σ) (ha : -2147483648 ≤ a ∧ a < 2147483648) (hb : -2147483648 ≤ b ∧ b < 2147483648) (h01 : s = 0 ∨ s = 1) : z_Ci l D t yX8_wall cX8_wall 7 .int 2 43 0 0 [.ref (ad 0), .int (zI a), .int (zI b), .int (zI s)] (wM ad t σ) (fun r w => ∃ σ', w = wM ad t σ' ∧ (((¬ ((0 ≤ a ∧ a < zN σ) ∧ (0 ≤ b ∧ b < zN σ)) ∨ (¬ zRt σ (min a b) (max a b) ∧ ¬ zBl σ (min a b) (max a b))) ∧ r = -2 ∧ σ' = σ) ∨ (((0 ≤ a ∧ a < zN σ) ∧ (0 ≤ b ∧ b < zN σ)) ∧ zRt σ (min a b) (max a b) ∧ (r = if σ 4 (min a b) = s then 0 else 1) ∧ σ' = zS σ 4 (zU (σ 4) (min a b) s)) ∨ (((0 ≤ a ∧ a < zN σ) ∧ (0 ≤ b ∧ b < zN σ)) ∧ ¬ zRt σ (min a b) (max a b) ∧ zBl σ (min a b) (max a b) ∧ (r = if σ 5 (min a b) = s then 0 else 1) ∧ σ' = zS σ 5 (zU (σ 5) (min a b) s)))) := by
  refine z_Ci_of (by decide +kernel) [some (.ref (ad 0)), some (.int (zI a)), some (.int (zI b)), some (.int (zI s)), none, none, none] rfl rfl (Nat.le_of_ble_eq_true rfl) fun K hl hD ht hR hnm C ret => ?_
  subst hl; subst hD; subst ht
  have ok2 := ok
  obtain ⟨⟨hw, h60, hs, h4, h5, h6, h7⟩, hmp, ⟨h9, hsum⟩, oW1, ⟨hle, hgi, hga⟩, oT1, ⟨h16, h17, h18, hit⟩⟩ := ok2
  have hN := zHw_N hw
  have hW := hw; unfold zHw at hW
  have hwh := zHw_wh hw
  have b4 := h4 (min a b)
  have b5 := h5 (min a b)
  refine z_aload_n C (z_d dtX8_wall_0 0 rfl) rfl ?_
  refine z_iload_n C (z_d dtX8_wall_0 1 rfl) rfl ?_
  refine z_callV C (z_d dtX8_wall_0 2 rfl) (k_X8_isCell  (by first | assumption | omega) (by first | assumption | omega) (by first | assumption | omega)) cal_X8_isCell gw_10_20 rfl 0 8 rfl rfl rfl rfl hR ⟨rfl, rfl, rfl, rfl⟩ rfl (fun r_2 w_2 h_2 => ?_)
  obtain ⟨rfl, h_2⟩ := h_2
  refine z_if_eq (tgt := 16) C (z_d dtX8_wall_0 3 rfl) (by decide) (by omega) (fun h_5 => ?_) (fun h_5 => ?_)
  · refine z_bipush C (z_d dtX8_wall_0 8 rfl) zb_m2 ?_
    exact ret _ _ _ _ (z_d dtX8_wall_0 9 rfl) (⟨σ, rfl, Or.inl ⟨by omega, rfl, rfl⟩⟩) rfl
  · refine z_aload_n C (z_d dtX8_wall_0 4 rfl) rfl ?_
    refine z_iload_n C (z_d dtX8_wall_0 5 rfl) rfl ?_
    refine z_callV C (z_d dtX8_wall_0 6 rfl) (k_X8_isCell  (by first | assumption | omega) (by first | assumption | omega) (by first | assumption | omega)) cal_X8_isCell gw_10_20 rfl 0 8 rfl rfl rfl rfl hR ⟨rfl, rfl, rfl, rfl⟩ rfl (fun r_10 w_10 h_10 => ?_)
    obtain ⟨rfl, h_10⟩ := h_10
    refine z_if_ne (tgt := 19) C (z_d dtX8_wall_0 7 rfl) (by decide) (by omega) (fun h_13 => ?_) (fun h_13 => ?_)
    · have jn_43 : ∀ (u v : Int), (u = min a b) → (v = max a b) → Gd K 0 0 43 [some (.ref (ad 0)), some (.int (zI a)), some (.int (zI b)), some (.int (zI s)), some (.int (zI u)), some (.int (zI v)), none] [] (wM ad (z_t K) σ) := by
        intro u v hu hv
        subst hu; subst hv
        refine z_aload_n C (z_d dtX8_wall_0 24 rfl) rfl ?_
        refine z_iload C (z_d dtX8_wall_0 25 rfl) rfl ?_
        refine z_iload C (z_d dtX8_wall_0 26 rfl) rfl ?_
        refine z_callV C (z_d dtX8_wall_0 27 rfl) (k_X8_isRightOf  (by first | assumption | omega) (by omega) (by omega)) cal_X8_isRightOf gw_11_0 rfl 0 8 rfl rfl rfl rfl hR ⟨rfl, rfl, rfl, rfl⟩ rfl (fun r_48 w_48 h_48 => ?_)
        obtain ⟨rfl, h_48⟩ := h_48
        refine z_if_eq (tgt := 91) C (z_d dtX8_wall_0 28 rfl) (by decide) (by omega) (fun h_51 => ?_) (fun h_51 => ?_)
        · refine z_aload_n C (z_d dtX8_wall_1 10 rfl) rfl ?_
          refine z_iload C (z_d dtX8_wall_1 11 rfl) rfl ?_
          refine z_iload C (z_d dtX8_wall_1 12 rfl) rfl ?_
          refine z_callV C (z_d dtX8_wall_1 13 rfl) (k_X8_isBelow  (by first | assumption | omega) (by omega) (by omega)) cal_X8_isBelow gw_11_16 rfl 0 8 rfl rfl rfl rfl hR ⟨rfl, rfl, rfl, rfl⟩ rfl (fun r_96 w_96 h_96 => ?_)
          obtain ⟨rfl, h_96⟩ := h_96
          refine z_if_eq (tgt := 139) C (z_d dtX8_wall_1 14 rfl) (by decide) (by omega) (fun h_99 => ?_) (fun h_99 => ?_)
          · refine z_bipush C (z_d dtX8_wall_1 36 rfl) zb_m2 ?_
            exact ret _ _ _ _ (z_d dtX8_wall_1 37 rfl) (⟨σ, rfl, Or.inl ⟨Or.inr (by omega), rfl, rfl⟩⟩) rfl
          · refine z_aload_n C (z_d dtX8_wall_1 15 rfl) rfl ?_
            refine gf_X8_13 C (z_d dtX8_wall_1 16 rfl) ?_
            refine z_iload C (z_d dtX8_wall_1 17 rfl) rfl ?_
            refine al_M2 C (z_d dtX8_wall_1 18 rfl) (by omega) ?_
            try simp (decide := true) only [zS_s, zS_o, zC]
            refine z_iload_n C (z_d dtX8_wall_1 19 rfl) rfl ?_
            refine z_icmp_ne (tgt := 117) C (z_d dtX8_wall_1 20 rfl) (by decide) (by omega) (fun h_110 => ?_) (fun h_110 => ?_)
            · refine z_iconst C (z_d dtX8_wall_1 23 rfl) ?_
              refine z_istore6 C (z_d dtX8_wall_1 24 rfl) rfl ?_
              refine z_aload_n C (z_d dtX8_wall_1 25 rfl) rfl ?_
              refine gf_X8_13 C (z_d dtX8_wall_1 26 rfl) ?_
              refine z_iload C (z_d dtX8_wall_1 27 rfl) rfl ?_
              refine z_iload_n C (z_d dtX8_wall_1 28 rfl) rfl ?_
              refine as_M2 C (z_d dtX8_wall_1 29 rfl) (by omega) (by omega) ?_
              refine z_iload C (z_d dtX8_wall_1 30 rfl) rfl ?_
              refine z_if_eq (tgt := 137) C (z_d dtX8_wall_1 31 rfl) (by decide) (by omega) (fun h_130 => ?_) (fun h_130 => ?_)
              · refine z_iconst C (z_d dtX8_wall_1 34 rfl) ?_
                exact ret _ _ _ _ (z_d dtX8_wall_1 35 rfl) (⟨_, rfl, Or.inr (Or.inr ⟨by omega, by omega, by omega, by first | (exfalso; omega) | rw [if_pos (by omega)] | rw [if_neg (by omega)], rfl⟩)⟩) rfl
              · refine z_iconst C (z_d dtX8_wall_1 32 rfl) ?_
                refine z_goto (tgt := 138) C (z_d dtX8_wall_1 33 rfl) (by decide) ?_
                exact ret _ _ _ _ (z_d dtX8_wall_1 35 rfl) (⟨_, rfl, Or.inr (Or.inr ⟨by omega, by omega, by omega, by first | (exfalso; omega) | rw [if_pos (by omega)] | rw [if_neg (by omega)], rfl⟩)⟩) rfl
            · refine z_iconst C (z_d dtX8_wall_1 21 rfl) ?_
              refine z_goto (tgt := 118) C (z_d dtX8_wall_1 22 rfl) (by decide) ?_
              refine z_istore6 C (z_d dtX8_wall_1 24 rfl) rfl ?_
              refine z_aload_n C (z_d dtX8_wall_1 25 rfl) rfl ?_
              refine gf_X8_13 C (z_d dtX8_wall_1 26 rfl) ?_
              refine z_iload C (z_d dtX8_wall_1 27 rfl) rfl ?_
              refine z_iload_n C (z_d dtX8_wall_1 28 rfl) rfl ?_
              refine as_M2 C (z_d dtX8_wall_1 29 rfl) (by omega) (by omega) ?_
              refine z_iload C (z_d dtX8_wall_1 30 rfl) rfl ?_
              refine z_if_eq (tgt := 137) C (z_d dtX8_wall_1 31 rfl) (by decide) (by omega) (fun h_130 => ?_) (fun h_130 => ?_)
              · refine z_iconst C (z_d dtX8_wall_1 34 rfl) ?_
                exact ret _ _ _ _ (z_d dtX8_wall_1 35 rfl) (⟨_, rfl, Or.inr (Or.inr ⟨by omega, by omega, by omega, by first | (exfalso; omega) | rw [if_pos (by omega)] | rw [if_neg (by omega)], rfl⟩)⟩) rfl
              · refine z_iconst C (z_d dtX8_wall_1 32 rfl) ?_
                refine z_goto (tgt := 138) C (z_d dtX8_wall_1 33 rfl) (by decide) ?_
                exact ret _ _ _ _ (z_d dtX8_wall_1 35 rfl) (⟨_, rfl, Or.inr (Or.inr ⟨by omega, by omega, by omega, by first | (exfalso; omega) | rw [if_pos (by omega)] | rw [if_neg (by omega)], rfl⟩)⟩) rfl
        · refine z_aload_n C (z_d dtX8_wall_0 29 rfl) rfl ?_
          refine gf_X8_7 C (z_d dtX8_wall_0 30 rfl) ?_
          refine z_iload C (z_d dtX8_wall_0 31 rfl) rfl ?_
          refine al_M1 C (z_d dtX8_wall_0 32 rfl) (by omega) ?_
          try simp (decide := true) only [zS_s, zS_o, zC]
          refine z_iload_n C (z_d dtX8_wall_0 33 rfl) rfl ?_
          refine z_icmp_ne (tgt := 69) C (z_d dtX8_wall_0 34 rfl) (by decide) (by omega) (fun h_62 => ?_) (fun h_62 => ?_)
          · refine z_iconst C (z_d dtX8_wall_0 37 rfl) ?_
            refine z_istore6 C (z_d dtX8_wall_0 38 rfl) rfl ?_
            refine z_aload_n C (z_d dtX8_wall_0 39 rfl) rfl ?_
            refine gf_X8_7 C (z_d dtX8_wall_1 0 rfl) ?_
            refine z_iload C (z_d dtX8_wall_1 1 rfl) rfl ?_
            refine z_iload_n C (z_d dtX8_wall_1 2 rfl) rfl ?_
            refine as_M1 C (z_d dtX8_wall_1 3 rfl) (by omega) (by omega) ?_
            refine z_iload C (z_d dtX8_wall_1 4 rfl) rfl ?_
            refine z_if_eq (tgt := 89) C (z_d dtX8_wall_1 5 rfl) (by decide) (by omega) (fun h_82 => ?_) (fun h_82 => ?_)
            · refine z_iconst C (z_d dtX8_wall_1 8 rfl) ?_
              exact ret _ _ _ _ (z_d dtX8_wall_1 9 rfl) (⟨_, rfl, Or.inr (Or.inl ⟨by omega, by omega, by first | (exfalso; omega) | rw [if_pos (by omega)] | rw [if_neg (by omega)], rfl⟩)⟩) rfl
            · refine z_iconst C (z_d dtX8_wall_1 6 rfl) ?_
              refine z_goto (tgt := 90) C (z_d dtX8_wall_1 7 rfl) (by decide) ?_
              exact ret _ _ _ _ (z_d dtX8_wall_1 9 rfl) (⟨_, rfl, Or.inr (Or.inl ⟨by omega, by omega, by first | (exfalso; omega) | rw [if_pos (by omega)] | rw [if_neg (by omega)], rfl⟩)⟩) rfl
          · refine z_iconst C (z_d dtX8_wall_0 35 rfl) ?_
            refine z_goto (tgt := 70) C (z_d dtX8_wall_0 36 rfl) (by decide) ?_
            refine z_istore6 C (z_d dtX8_wall_0 38 rfl) rfl ?_
            refine z_aload_n C (z_d dtX8_wall_0 39 rfl) rfl ?_
            refine gf_X8_7 C (z_d dtX8_wall_1 0 rfl) ?_
            refine z_iload C (z_d dtX8_wall_1 1 rfl) rfl ?_
            refine z_iload_n C (z_d dtX8_wall_1 2 rfl) rfl ?_
            refine as_M1 C (z_d dtX8_wall_1 3 rfl) (by omega) (by omega) ?_
            refine z_iload C (z_d dtX8_wall_1 4 rfl) rfl ?_
            refine z_if_eq (tgt := 89) C (z_d dtX8_wall_1 5 rfl) (by decide) (by omega) (fun h_82 => ?_) (fun h_82 => ?_)
            · refine z_iconst C (z_d dtX8_wall_1 8 rfl) ?_
              exact ret _ _ _ _ (z_d dtX8_wall_1 9 rfl) (⟨_, rfl, Or.inr (Or.inl ⟨by omega, by omega, by first | (exfalso; omega) | rw [if_pos (by omega)] | rw [if_neg (by omega)], rfl⟩)⟩) rfl
            · refine z_iconst C (z_d dtX8_wall_1 6 rfl) ?_
              refine z_goto (tgt := 90) C (z_d dtX8_wall_1 7 rfl) (by decide) ?_
              exact ret _ _ _ _ (z_d dtX8_wall_1 9 rfl) (⟨_, rfl, Or.inr (Or.inl ⟨by omega, by omega, by first | (exfalso; omega) | rw [if_pos (by omega)] | rw [if_neg (by omega)], rfl⟩)⟩) rfl
      refine z_iload_n C (z_d dtX8_wall_0 10 rfl) rfl ?_
      refine z_iload_n C (z_d dtX8_wall_0 11 rfl) rfl ?_
      refine z_icmp_ge (tgt := 28) C (z_d dtX8_wall_0 12 rfl) (by decide) (by omega) (fun h_21 => ?_) (fun h_21 => ?_)
      · refine z_iload_n C (z_d dtX8_wall_0 15 rfl) rfl ?_
        refine z_istore4 C (z_d dtX8_wall_0 16 rfl) rfl ?_
        refine z_iload_n C (z_d dtX8_wall_0 17 rfl) rfl ?_
        refine z_iload_n C (z_d dtX8_wall_0 18 rfl) rfl ?_
        refine z_icmp_ge (tgt := 40) C (z_d dtX8_wall_0 19 rfl) (by decide) (by omega) (fun h_33 => ?_) (fun h_33 => ?_)
        · refine z_iload_n C (z_d dtX8_wall_0 22 rfl) rfl ?_
          refine z_istore5 C (z_d dtX8_wall_0 23 rfl) rfl ?_
          exact jn_43 _ _ (by omega) (by omega)
        · refine z_iload_n C (z_d dtX8_wall_0 20 rfl) rfl ?_
          refine z_goto (tgt := 41) C (z_d dtX8_wall_0 21 rfl) (by decide) ?_
          refine z_istore5 C (z_d dtX8_wall_0 23 rfl) rfl ?_
          exact jn_43 _ _ (by omega) (by omega)
      · refine z_iload_n C (z_d dtX8_wall_0 13 rfl) rfl ?_
        refine z_goto (tgt := 29) C (z_d dtX8_wall_0 14 rfl) (by decide) ?_
        refine z_istore4 C (z_d dtX8_wall_0 16 rfl) rfl ?_
        refine z_iload_n C (z_d dtX8_wall_0 17 rfl) rfl ?_
        refine z_iload_n C (z_d dtX8_wall_0 18 rfl) rfl ?_
        refine z_icmp_ge (tgt := 40) C (z_d dtX8_wall_0 19 rfl) (by decide) (by omega) (fun h_33 => ?_) (fun h_33 => ?_)
        · refine z_iload_n C (z_d dtX8_wall_0 22 rfl) rfl ?_
          refine z_istore5 C (z_d dtX8_wall_0 23 rfl) rfl ?_
          exact jn_43 _ _ (by omega) (by omega)
        · refine z_iload_n C (z_d dtX8_wall_0 20 rfl) rfl ?_
          refine z_goto (tgt := 41) C (z_d dtX8_wall_0 21 rfl) (by decide) ?_
          refine z_istore5 C (z_d dtX8_wall_0 23 rfl) rfl ?_
          exact jn_43 _ _ (by omega) (by omega)
    · refine z_bipush C (z_d dtX8_wall_0 8 rfl) zb_m2 ?_
      exact ret _ _ _ _ (z_d dtX8_wall_0 9 rfl) (⟨σ, rfl, Or.inl ⟨by omega, rfl, rfl⟩⟩) rfl

set_option maxRecDepth 100000 in
set_option maxHeartbeats 4000000 in
theorem k_X8_lift {l : Launch} {D : va_G} {t : Nat → ClassId} {ad : Nat → Nat} {σ : zMem} {x y s : Int} (ok : okM σ) (hx : -2147483648 ≤ x ∧ x < 2147483648) (hy : -2147483648 ≤ y ∧ y < 2147483648) (h01 : s = 0 ∨ s = 1) : z_Ci l D t yX8_lift cX8_lift 5 .int 1 22 0 0 [.ref (ad 0), .int (zI x), .int (zI y), .int (zI s)] (wM ad t σ) (fun r w => ∃ σ', w = wM ad t σ' ∧ ((¬ ((0 ≤ x ∧ x < σ 1 0) ∧ (0 ≤ y ∧ y < σ 2 0)) ∧ r = -2 ∧ σ' = σ) ∨ (((0 ≤ x ∧ x < σ 1 0) ∧ (0 ≤ y ∧ y < σ 2 0)) ∧ (r = if σ 6 (y * σ 1 0 + x) = s then 0 else 1) ∧ σ' = zS σ 6 (zU (σ 6) (y * σ 1 0 + x) s)))) := by
  refine z_Ci_of (by decide +kernel) [some (.ref (ad 0)), some (.int (zI x)), some (.int (zI y)), some (.int (zI s)), none] rfl rfl (Nat.le_of_ble_eq_true rfl) fun K hl hD ht hR hnm C ret => ?_
  subst hl; subst hD; subst ht
  have ok2 := ok
  obtain ⟨⟨hw, h60, hs, h4, h5, h6, h7⟩, hmp, ⟨h9, hsum⟩, oW1, ⟨hle, hgi, hga⟩, oT1, ⟨h16, h17, h18, hit⟩⟩ := ok2
  have hN := zHw_N hw
  have hW := hw; unfold zHw at hW
  have hwh := zHw_wh hw
  have b6 := h6 (y * σ 1 0 + x)
  have hcm := Int.mul_comm (σ 1 0) y
  refine z_iload_n C (z_d dtX8_lift_0 0 rfl) rfl ?_
  refine z_iconst C (z_d dtX8_lift_0 1 rfl) ?_
  refine z_aload_n C (z_d dtX8_lift_0 2 rfl) rfl ?_
  refine gf_X8_93 C (z_d dtX8_lift_0 3 rfl) ?_
  try simp (decide := true) only [zS_s, zS_o, zC]
  refine z_iconst C (z_d dtX8_lift_0 4 rfl) ?_
  refine z_isub C (z_d dtX8_lift_0 5 rfl) ?_
  refine z_callS C (z_d dtX8_lift_0 6 rfl) (k_X8_in  (by first | assumption | omega) (by first | assumption | omega) (by first | assumption | omega)) cal_X8_in gw_8_19 rfl rfl hR ⟨rfl, rfl, rfl, rfl⟩ rfl (fun r_8 w_8 h_8 => ?_)
  obtain ⟨rfl, h_8⟩ := h_8
  refine z_if_eq (tgt := 28) C (z_d dtX8_lift_0 7 rfl) (by decide) (by omega) (fun h_11 => ?_) (fun h_11 => ?_)
  · refine z_bipush C (z_d dtX8_lift_0 16 rfl) zb_m2 ?_
    exact ret _ _ _ _ (z_d dtX8_lift_0 17 rfl) (⟨σ, rfl, Or.inl ⟨by omega, rfl, rfl⟩⟩) rfl
  · refine z_iload_n C (z_d dtX8_lift_0 8 rfl) rfl ?_
    refine z_iconst C (z_d dtX8_lift_0 9 rfl) ?_
    refine z_aload_n C (z_d dtX8_lift_0 10 rfl) rfl ?_
    refine gf_X8_96 C (z_d dtX8_lift_0 11 rfl) ?_
    try simp (decide := true) only [zS_s, zS_o, zC]
    refine z_iconst C (z_d dtX8_lift_0 12 rfl) ?_
    refine z_isub C (z_d dtX8_lift_0 13 rfl) ?_
    refine z_callS C (z_d dtX8_lift_0 14 rfl) (k_X8_in  (by first | assumption | omega) (by first | assumption | omega) (by first | assumption | omega)) cal_X8_in gw_8_19 rfl rfl hR ⟨rfl, rfl, rfl, rfl⟩ rfl (fun r_22 w_22 h_22 => ?_)
    obtain ⟨rfl, h_22⟩ := h_22
    refine z_if_ne (tgt := 31) C (z_d dtX8_lift_0 15 rfl) (by decide) (by omega) (fun h_25 => ?_) (fun h_25 => ?_)
    · have hpl : ((0 ≤ x ∧ x < σ 1 0) ∧ (0 ≤ y ∧ y < σ 2 0)) := by omega
      have hpp := zPlace hw hpl.1 hpl.2
      refine z_aload_n C (z_d dtX8_lift_0 18 rfl) rfl ?_
      refine gf_X8_16 C (z_d dtX8_lift_0 19 rfl) ?_
      refine z_aload_n C (z_d dtX8_lift_0 20 rfl) rfl ?_
      refine gf_X8_93 C (z_d dtX8_lift_0 21 rfl) ?_
      try simp (decide := true) only [zS_s, zS_o, zC]
      refine z_iload_n C (z_d dtX8_lift_0 22 rfl) rfl ?_
      refine z_imul C (z_d dtX8_lift_0 23 rfl) ?_
      refine z_iload_n C (z_d dtX8_lift_0 24 rfl) rfl ?_
      refine z_iadd C (z_d dtX8_lift_0 25 rfl) ?_
      refine z_top (show σ 1 0 * y + x = y * σ 1 0 + x by omega) ?_
      refine al_M3 C (z_d dtX8_lift_0 26 rfl) (by omega) ?_
      try simp (decide := true) only [zS_s, zS_o, zC]
      refine z_iload_n C (z_d dtX8_lift_0 27 rfl) rfl ?_
      refine z_icmp_ne (tgt := 52) C (z_d dtX8_lift_0 28 rfl) (by decide) (by omega) (fun h_45 => ?_) (fun h_45 => ?_)
      · refine z_iconst C (z_d dtX8_lift_0 31 rfl) ?_
        refine z_istore4 C (z_d dtX8_lift_0 32 rfl) rfl ?_
        refine z_aload_n C (z_d dtX8_lift_0 33 rfl) rfl ?_
        refine gf_X8_16 C (z_d dtX8_lift_0 34 rfl) ?_
        refine z_aload_n C (z_d dtX8_lift_0 35 rfl) rfl ?_
        refine gf_X8_93 C (z_d dtX8_lift_0 36 rfl) ?_
        try simp (decide := true) only [zS_s, zS_o, zC]
        refine z_iload_n C (z_d dtX8_lift_0 37 rfl) rfl ?_
        refine z_imul C (z_d dtX8_lift_0 38 rfl) ?_
        refine z_iload_n C (z_d dtX8_lift_0 39 rfl) rfl ?_
        refine z_iadd C (z_d dtX8_lift_1 0 rfl) ?_
        refine z_top (show σ 1 0 * y + x = y * σ 1 0 + x by omega) ?_
        refine z_iload_n C (z_d dtX8_lift_1 1 rfl) rfl ?_
        refine as_M3 C (z_d dtX8_lift_1 2 rfl) (by omega) (by omega) ?_
        refine z_iload C (z_d dtX8_lift_1 3 rfl) rfl ?_
        refine z_if_eq (tgt := 78) C (z_d dtX8_lift_1 4 rfl) (by decide) (by omega) (fun h_71 => ?_) (fun h_71 => ?_)
        · refine z_iconst C (z_d dtX8_lift_1 7 rfl) ?_
          exact ret _ _ _ _ (z_d dtX8_lift_1 8 rfl) (⟨_, rfl, Or.inr ⟨hpl, by first | (exfalso; omega) | rw [if_pos (by omega)] | rw [if_neg (by omega)], rfl⟩⟩) rfl
        · refine z_iconst C (z_d dtX8_lift_1 5 rfl) ?_
          refine z_goto (tgt := 79) C (z_d dtX8_lift_1 6 rfl) (by decide) ?_
          exact ret _ _ _ _ (z_d dtX8_lift_1 8 rfl) (⟨_, rfl, Or.inr ⟨hpl, by first | (exfalso; omega) | rw [if_pos (by omega)] | rw [if_neg (by omega)], rfl⟩⟩) rfl
      · refine z_iconst C (z_d dtX8_lift_0 29 rfl) ?_
        refine z_goto (tgt := 53) C (z_d dtX8_lift_0 30 rfl) (by decide) ?_
        refine z_istore4 C (z_d dtX8_lift_0 32 rfl) rfl ?_
        refine z_aload_n C (z_d dtX8_lift_0 33 rfl) rfl ?_
        refine gf_X8_16 C (z_d dtX8_lift_0 34 rfl) ?_
        refine z_aload_n C (z_d dtX8_lift_0 35 rfl) rfl ?_
        refine gf_X8_93 C (z_d dtX8_lift_0 36 rfl) ?_
        try simp (decide := true) only [zS_s, zS_o, zC]
        refine z_iload_n C (z_d dtX8_lift_0 37 rfl) rfl ?_
        refine z_imul C (z_d dtX8_lift_0 38 rfl) ?_
        refine z_iload_n C (z_d dtX8_lift_0 39 rfl) rfl ?_
        refine z_iadd C (z_d dtX8_lift_1 0 rfl) ?_
        refine z_top (show σ 1 0 * y + x = y * σ 1 0 + x by omega) ?_
        refine z_iload_n C (z_d dtX8_lift_1 1 rfl) rfl ?_
        refine as_M3 C (z_d dtX8_lift_1 2 rfl) (by omega) (by omega) ?_
        refine z_iload C (z_d dtX8_lift_1 3 rfl) rfl ?_
        refine z_if_eq (tgt := 78) C (z_d dtX8_lift_1 4 rfl) (by decide) (by omega) (fun h_71 => ?_) (fun h_71 => ?_)
        · refine z_iconst C (z_d dtX8_lift_1 7 rfl) ?_
          exact ret _ _ _ _ (z_d dtX8_lift_1 8 rfl) (⟨_, rfl, Or.inr ⟨hpl, by first | (exfalso; omega) | rw [if_pos (by omega)] | rw [if_neg (by omega)], rfl⟩⟩) rfl
        · refine z_iconst C (z_d dtX8_lift_1 5 rfl) ?_
          refine z_goto (tgt := 79) C (z_d dtX8_lift_1 6 rfl) (by decide) ?_
          exact ret _ _ _ _ (z_d dtX8_lift_1 8 rfl) (⟨_, rfl, Or.inr ⟨hpl, by first | (exfalso; omega) | rw [if_pos (by omega)] | rw [if_neg (by omega)], rfl⟩⟩) rfl
    · refine z_bipush C (z_d dtX8_lift_0 16 rfl) zb_m2 ?_
      exact ret _ _ _ _ (z_d dtX8_lift_0 17 rfl) (⟨σ, rfl, Or.inl ⟨by omega, rfl, rfl⟩⟩) rfl

set_option maxRecDepth 100000 in
set_option maxHeartbeats 4000000 in
theorem k_X8_step {l : Launch} {D : va_G} {t : Nat → ClassId} {ad : Nat → Nat} {σ : zMem} {a b : Int} (ok : okM σ) (ha : -2147483648 ≤ a ∧ a < 2147483648) (hb : -2147483648 ≤ b ∧ b < 2147483648) : z_Ci l D t yX8_step cX8_step 3 .int 3 67 0 0 [.ref (ad 0), .int (zI a), .int (zI b)] (wM ad t σ) (fun r w => w = wM ad t σ ∧ ((¬ ((0 ≤ a ∧ a < zN σ) ∧ (0 ≤ b ∧ b < zN σ)) ∧ r = -2) ∨ (((0 ≤ a ∧ a < zN σ) ∧ (0 ≤ b ∧ b < zN σ)) ∧ r = zLy σ a b))) := by
  refine z_Ci_of (by decide +kernel) [some (.ref (ad 0)), some (.int (zI a)), some (.int (zI b))] rfl rfl (Nat.le_of_ble_eq_true rfl) fun K hl hD ht hR hnm C ret => ?_
  subst hl; subst hD; subst ht
  have ok2 := ok
  obtain ⟨⟨hw, h60, hs, h4, h5, h6, h7⟩, hmp, ⟨h9, hsum⟩, oW1, ⟨hle, hgi, hga⟩, oT1, ⟨h16, h17, h18, hit⟩⟩ := ok2
  have hN := zHw_N hw
  have hW := hw; unfold zHw at hW
  have hwh := zHw_wh hw
  refine z_aload_n C (z_d dtX8_step_0 0 rfl) rfl ?_
  refine z_iload_n C (z_d dtX8_step_0 1 rfl) rfl ?_
  refine z_callV C (z_d dtX8_step_0 2 rfl) (k_X8_isCell  (by first | assumption | omega) (by first | assumption | omega) (by first | assumption | omega)) cal_X8_isCell gw_10_20 rfl 0 8 rfl rfl rfl rfl hR ⟨rfl, rfl, rfl, rfl⟩ rfl (fun r_2 w_2 h_2 => ?_)
  obtain ⟨rfl, h_2⟩ := h_2
  refine z_if_eq (tgt := 25) C (z_d dtX8_step_0 3 rfl) (by decide) (by omega) (fun h_5 => ?_) (fun h_5 => ?_)
  · refine z_bipush C (z_d dtX8_step_0 13 rfl) zb_m2 ?_
    exact ret _ _ _ _ (z_d dtX8_step_0 14 rfl) (⟨rfl, by
        first
          | exact Or.inl ⟨by omega, rfl⟩
          | exact Or.inr ⟨by omega, rfl⟩⟩) rfl
  · refine z_aload_n C (z_d dtX8_step_0 4 rfl) rfl ?_
    refine z_iload_n C (z_d dtX8_step_0 5 rfl) rfl ?_
    refine z_callV C (z_d dtX8_step_0 6 rfl) (k_X8_isCell  (by first | assumption | omega) (by first | assumption | omega) (by first | assumption | omega)) cal_X8_isCell gw_10_20 rfl 0 8 rfl rfl rfl rfl hR ⟨rfl, rfl, rfl, rfl⟩ rfl (fun r_10 w_10 h_10 => ?_)
    obtain ⟨rfl, h_10⟩ := h_10
    refine z_if_eq (tgt := 25) C (z_d dtX8_step_0 7 rfl) (by decide) (by omega) (fun h_13 => ?_) (fun h_13 => ?_)
    · refine z_bipush C (z_d dtX8_step_0 13 rfl) zb_m2 ?_
      exact ret _ _ _ _ (z_d dtX8_step_0 14 rfl) (⟨rfl, by
          first
            | exact Or.inl ⟨by omega, rfl⟩
            | exact Or.inr ⟨by omega, rfl⟩⟩) rfl
    · refine z_aload_n C (z_d dtX8_step_0 8 rfl) rfl ?_
      refine z_iload_n C (z_d dtX8_step_0 9 rfl) rfl ?_
      refine z_iload_n C (z_d dtX8_step_0 10 rfl) rfl ?_
      refine z_callV C (z_d dtX8_step_0 11 rfl) (k_X8_likely  (by first | assumption | omega) (by first | assumption | omega) (by first | assumption | omega) (by first | assumption | omega) (by first | assumption | omega) (by first | assumption | omega) (by first | assumption | omega)) cal_X8_likely gw_13_20 rfl 0 8 rfl rfl rfl rfl hR ⟨rfl, rfl, rfl, rfl⟩ rfl (fun r_19 w_19 h_19 => ?_)
      obtain ⟨rfl, rfl⟩ := h_19
      refine z_goto (tgt := 27) C (z_d dtX8_step_0 12 rfl) (by decide) ?_
      exact ret _ _ _ _ (z_d dtX8_step_0 14 rfl) (⟨rfl, by
          first
            | exact Or.inl ⟨by omega, rfl⟩
            | exact Or.inr ⟨by omega, rfl⟩⟩) rfl

set_option maxRecDepth 100000 in
set_option maxHeartbeats 4000000 in
theorem k_X8_dead {l : Launch} {D : va_G} {t : Nat → ClassId} {ad : Nat → Nat} {σ : zMem} {k s : Int} (ok : okM σ) (hk : -2147483648 ≤ k ∧ k < 2147483648) (h01 : s = 0 ∨ s = 1) : z_Ci l D t yX8_dead cX8_dead 3 .int 1 22 0 0 [.ref (ad 0), .int (zI k), .int (zI s)] (wM ad t σ) (fun r w => ∃ σ', w = wM ad t σ' ∧ ((¬ (0 ≤ k ∧ k < 8) ∧ r = -2 ∧ σ' = σ) ∨ ((0 ≤ k ∧ k < 8) ∧ r = 1 ∧ σ' = zS σ 7 (zU (σ 7) k s)))) := by
  refine z_Ci_of (by decide +kernel) [some (.ref (ad 0)), some (.int (zI k)), some (.int (zI s))] rfl rfl (Nat.le_of_ble_eq_true rfl) fun K hl hD ht hR hnm C ret => ?_
  subst hl; subst hD; subst ht
  have ok2 := ok
  obtain ⟨⟨hw, h60, hs, h4, h5, h6, h7⟩, hmp, ⟨h9, hsum⟩, oW1, ⟨hle, hgi, hga⟩, oT1, ⟨h16, h17, h18, hit⟩⟩ := ok2
  have hN := zHw_N hw
  have hW := hw; unfold zHw at hW
  have hwh := zHw_wh hw
  refine z_iload_n C (z_d dtX8_dead_0 0 rfl) rfl ?_
  refine z_iconst C (z_d dtX8_dead_0 1 rfl) ?_
  refine z_bipush C (z_d dtX8_dead_0 2 rfl) zb_7 ?_
  refine z_callS C (z_d dtX8_dead_0 3 rfl) (k_X8_in  (by first | assumption | omega) (by first | assumption | omega) (by first | assumption | omega)) cal_X8_in gw_8_19 rfl rfl hR ⟨rfl, rfl, rfl, rfl⟩ rfl (fun r_4 w_4 h_4 => ?_)
  obtain ⟨rfl, h_4⟩ := h_4
  refine z_if_ne (tgt := 13) C (z_d dtX8_dead_0 4 rfl) (by decide) (by omega) (fun h_7 => ?_) (fun h_7 => ?_)
  · refine z_aload_n C (z_d dtX8_dead_0 7 rfl) rfl ?_
    refine gf_X8_23 C (z_d dtX8_dead_0 8 rfl) ?_
    refine z_iload_n C (z_d dtX8_dead_0 9 rfl) rfl ?_
    refine z_iload_n C (z_d dtX8_dead_0 10 rfl) rfl ?_
    refine as_M4 C (z_d dtX8_dead_0 11 rfl) (by omega) (by omega) ?_
    refine z_iconst C (z_d dtX8_dead_0 12 rfl) ?_
    exact ret _ _ _ _ (z_d dtX8_dead_0 13 rfl) (⟨_, rfl, Or.inr ⟨by omega, rfl, rfl⟩⟩) rfl
  · refine z_bipush C (z_d dtX8_dead_0 5 rfl) zb_m2 ?_
    exact ret _ _ _ _ (z_d dtX8_dead_0 6 rfl) (⟨σ, rfl, Or.inl ⟨by omega, rfl, rfl⟩⟩) rfl

set_option maxRecDepth 100000 in
set_option maxHeartbeats 4000000 in
theorem k_X8_survey {l : Launch} {D : va_G} {t : Nat → ClassId} {ad : Nat → Nat} {σ : zMem} {z row c : Int} (ok : okM σ) (hz : -2147483648 ≤ z ∧ z < 2147483648) (hrow : -2147483648 ≤ row ∧ row < 2147483648) (hc : -2147483648 ≤ c ∧ c < 2147483648) : z_Ci l D t yX8_survey cX8_survey 5 .int 3 75 0 0 [.ref (ad 0), .int (zI z), .int (zI row), .int (zI c)] (wM ad t σ) (fun r w => ∃ σ', w = wM ad t σ' ∧ ((¬ ((0 ≤ z ∧ z < 4) ∧ (0 ≤ c ∧ c < zN σ)) ∧ r = -2 ∧ σ' = σ) ∨ (((0 ≤ z ∧ z < 4) ∧ (0 ≤ c ∧ c < zN σ)) ∧ ((¬ zRp σ z row = 0 ∧ r = -10 - zRp σ z row ∧ σ' = zS σ 19 (zC (zRp σ z row))) ∨ (zRp σ z row = 0 ∧ r = zSn σ z row 8 ∧ σ' = zS σ 8 (zSv σ z row c 8)))))) := by
  refine z_Ci_of (by decide +kernel) [some (.ref (ad 0)), some (.int (zI z)), some (.int (zI row)), some (.int (zI c)), none] rfl rfl (Nat.le_of_ble_eq_true rfl) fun K hl hD ht hR hnm C ret => ?_
  subst hl; subst hD; subst ht
  have ok2 := ok
  obtain ⟨⟨hw, h60, hs, h4, h5, h6, h7⟩, hmp, ⟨h9, hsum⟩, oW1, ⟨hle, hgi, hga⟩, oT1, ⟨h16, h17, h18, hit⟩⟩ := ok2
  have hN := zHw_N hw
  have hW := hw; unfold zHw at hW
  have hwh := zHw_wh hw
  have hrp : (0 ≤ zRp σ z row ∧ zRp σ z row ≤ 2) ∧ (zRp σ z row = 0 → 0 ≤ row ∧ row < 30) := zRp_m h18 z row
  refine z_iload_n C (z_d dtX8_survey_0 0 rfl) rfl ?_
  refine z_callS C (z_d dtX8_survey_0 1 rfl) (k_X8_isSheet  (by first | assumption | omega)) cal_X8_isSheet gw_16_16 rfl rfl hR ⟨rfl, rfl, rfl, rfl⟩ rfl (fun r_1 w_1 h_1 => ?_)
  obtain ⟨rfl, h_1⟩ := h_1
  refine z_if_eq (tgt := 15) C (z_d dtX8_survey_0 2 rfl) (by decide) (by omega) (fun h_4 => ?_) (fun h_4 => ?_)
  · refine z_bipush C (z_d dtX8_survey_0 7 rfl) zb_m2 ?_
    exact ret _ _ _ _ (z_d dtX8_survey_0 8 rfl) (⟨σ, rfl, Or.inl ⟨by omega, rfl, rfl⟩⟩) rfl
  · refine z_aload_n C (z_d dtX8_survey_0 3 rfl) rfl ?_
    refine z_iload_n C (z_d dtX8_survey_0 4 rfl) rfl ?_
    refine z_callV C (z_d dtX8_survey_0 5 rfl) (k_X8_isCell  (by first | assumption | omega) (by first | assumption | omega) (by first | assumption | omega)) cal_X8_isCell gw_10_20 rfl 0 8 rfl rfl rfl rfl hR ⟨rfl, rfl, rfl, rfl⟩ rfl (fun r_9 w_9 h_9 => ?_)
    obtain ⟨rfl, h_9⟩ := h_9
    refine z_if_ne (tgt := 18) C (z_d dtX8_survey_0 6 rfl) (by decide) (by omega) (fun h_12 => ?_) (fun h_12 => ?_)
    · refine z_aload_n C (z_d dtX8_survey_0 9 rfl) rfl ?_
      refine z_iload_n C (z_d dtX8_survey_0 10 rfl) rfl ?_
      refine z_iload_n C (z_d dtX8_survey_0 11 rfl) rfl ?_
      refine z_callV C (z_d dtX8_survey_0 12 rfl) (k_X8_lacksRow  (by omega) (by first | assumption | omega) (by first | assumption | omega) (by first | assumption | omega)) cal_X8_lacksRow gw_16_19 rfl 0 8 rfl rfl rfl rfl hR ⟨rfl, rfl, rfl, rfl⟩ rfl (fun r_21 w_21 h_21 => ?_)
      obtain ⟨rfl, rfl⟩ := h_21
      refine z_istore4 C (z_d dtX8_survey_0 13 rfl) rfl ?_
      refine z_iload C (z_d dtX8_survey_0 14 rfl) rfl ?_
      refine z_if_le (tgt := 40) C (z_d dtX8_survey_0 15 rfl) (by decide) (by omega) (fun h_28 => ?_) (fun h_28 => ?_)
      · refine z_aload_n C (z_d dtX8_survey_0 20 rfl) rfl ?_
        refine z_iload_n C (z_d dtX8_survey_0 21 rfl) rfl ?_
        refine z_iload_n C (z_d dtX8_survey_0 22 rfl) rfl ?_
        refine z_iload_n C (z_d dtX8_survey_0 23 rfl) rfl ?_
        refine z_callV C (z_d dtX8_survey_0 24 rfl) (k_X8_surveys  (by omega) (by first | assumption | omega) (hrp.2 (by omega)) (by omega) (by first | assumption | omega)) cal_X8_surveys gw_17_8 rfl 0 8 rfl rfl rfl rfl hR ⟨rfl, rfl, rfl, rfl⟩ rfl (fun r_44 w_44 h_44 => ?_)
        obtain ⟨rfl, rfl⟩ := h_44
        exact ret _ _ _ _ (z_d dtX8_survey_0 25 rfl) (by
            first
              | exact ⟨_, rfl, Or.inr ⟨by omega, Or.inl ⟨by omega, rfl, rfl⟩⟩⟩
              | exact ⟨_, rfl, Or.inr ⟨by omega, Or.inr ⟨by omega, rfl, rfl⟩⟩⟩) rfl
      · refine z_aload_n C (z_d dtX8_survey_0 16 rfl) rfl ?_
        refine z_iload C (z_d dtX8_survey_0 17 rfl) rfl ?_
        refine z_callV C (z_d dtX8_survey_0 18 rfl) (k_X8_meets  ) cal_X8_meets gw_17_3 rfl 0 8 rfl rfl rfl rfl hR ⟨rfl, rfl, rfl, rfl⟩ rfl (fun r_34 w_34 h_34 => ?_)
        obtain ⟨rfl, rfl⟩ := h_34
        refine z_goto (tgt := 47) C (z_d dtX8_survey_0 19 rfl) (by decide) ?_
        exact ret _ _ _ _ (z_d dtX8_survey_0 25 rfl) (by
            first
              | exact ⟨_, rfl, Or.inr ⟨by omega, Or.inl ⟨by omega, rfl, rfl⟩⟩⟩
              | exact ⟨_, rfl, Or.inr ⟨by omega, Or.inr ⟨by omega, rfl, rfl⟩⟩⟩) rfl
    · refine z_bipush C (z_d dtX8_survey_0 7 rfl) zb_m2 ?_
      exact ret _ _ _ _ (z_d dtX8_survey_0 8 rfl) (⟨σ, rfl, Or.inl ⟨by omega, rfl, rfl⟩⟩) rfl

set_option maxRecDepth 100000 in
set_option maxHeartbeats 4000000 in
theorem k_X8_weight {l : Launch} {D : va_G} {t : Nat → ClassId} {ad : Nat → Nat} {σ : zMem} {k c v : Int} (ok : okM σ) (hk : -2147483648 ≤ k ∧ k < 2147483648) (hc : -2147483648 ≤ c ∧ c < 2147483648) (hv : -2147483648 ≤ v ∧ v < 2147483648) : z_Ci l D t yX8_weight cX8_weight 4 .int 2 46 0 0 [.ref (ad 0), .int (zI k), .int (zI c), .int (zI v)] (wM ad t σ) (fun r w => w = wM ad t σ ∧ ((¬ ((0 ≤ k ∧ k < 8) ∧ (0 ≤ c ∧ c < zN σ) ∧ (-1 ≤ v ∧ v ≤ 9)) ∧ r = -2) ∨ (((0 ≤ k ∧ k < 8) ∧ (0 ≤ c ∧ c < zN σ) ∧ (-1 ≤ v ∧ v ≤ 9)) ∧ r = zWt σ k c v))) := by
  refine z_Ci_of (by decide +kernel) [some (.ref (ad 0)), some (.int (zI k)), some (.int (zI c)), some (.int (zI v))] rfl rfl (Nat.le_of_ble_eq_true rfl) fun K hl hD ht hR hnm C ret => ?_
  subst hl; subst hD; subst ht
  have ok2 := ok
  obtain ⟨⟨hw, h60, hs, h4, h5, h6, h7⟩, hmp, ⟨h9, hsum⟩, oW1, ⟨hle, hgi, hga⟩, oT1, ⟨h16, h17, h18, hit⟩⟩ := ok2
  have hN := zHw_N hw
  have hW := hw; unfold zHw at hW
  have hwh := zHw_wh hw
  refine z_iload_n C (z_d dtX8_weight_0 0 rfl) rfl ?_
  refine z_iconst C (z_d dtX8_weight_0 1 rfl) ?_
  refine z_bipush C (z_d dtX8_weight_0 2 rfl) zb_7 ?_
  refine z_callS C (z_d dtX8_weight_0 3 rfl) (k_X8_in  (by first | assumption | omega) (by first | assumption | omega) (by first | assumption | omega)) cal_X8_in gw_8_19 rfl rfl hR ⟨rfl, rfl, rfl, rfl⟩ rfl (fun r_4 w_4 h_4 => ?_)
  obtain ⟨rfl, h_4⟩ := h_4
  refine z_if_eq (tgt := 38) C (z_d dtX8_weight_0 4 rfl) (by decide) (by omega) (fun h_7 => ?_) (fun h_7 => ?_)
  · refine z_bipush C (z_d dtX8_weight_0 20 rfl) zb_m2 ?_
    exact ret _ _ _ _ (z_d dtX8_weight_0 21 rfl) (⟨rfl, by
        first
          | exact Or.inl ⟨by omega, rfl⟩
          | exact Or.inr ⟨by omega, rfl⟩⟩) rfl
  · refine z_aload_n C (z_d dtX8_weight_0 5 rfl) rfl ?_
    refine z_iload_n C (z_d dtX8_weight_0 6 rfl) rfl ?_
    refine z_callV C (z_d dtX8_weight_0 7 rfl) (k_X8_isCell  (by first | assumption | omega) (by first | assumption | omega) (by first | assumption | omega)) cal_X8_isCell gw_10_20 rfl 0 8 rfl rfl rfl rfl hR ⟨rfl, rfl, rfl, rfl⟩ rfl (fun r_12 w_12 h_12 => ?_)
    obtain ⟨rfl, h_12⟩ := h_12
    refine z_if_eq (tgt := 38) C (z_d dtX8_weight_0 8 rfl) (by decide) (by omega) (fun h_15 => ?_) (fun h_15 => ?_)
    · refine z_bipush C (z_d dtX8_weight_0 20 rfl) zb_m2 ?_
      exact ret _ _ _ _ (z_d dtX8_weight_0 21 rfl) (⟨rfl, by
          first
            | exact Or.inl ⟨by omega, rfl⟩
            | exact Or.inr ⟨by omega, rfl⟩⟩) rfl
    · refine z_iload_n C (z_d dtX8_weight_0 9 rfl) rfl ?_
      refine z_iconst C (z_d dtX8_weight_0 10 rfl) ?_
      refine z_bipush C (z_d dtX8_weight_0 11 rfl) zb_9 ?_
      refine z_callS C (z_d dtX8_weight_0 12 rfl) (k_X8_in  (by first | assumption | omega) (by first | assumption | omega) (by first | assumption | omega)) cal_X8_in gw_8_19 rfl rfl hR ⟨rfl, rfl, rfl, rfl⟩ rfl (fun r_22 w_22 h_22 => ?_)
      obtain ⟨rfl, h_22⟩ := h_22
      refine z_if_eq (tgt := 38) C (z_d dtX8_weight_0 13 rfl) (by decide) (by omega) (fun h_25 => ?_) (fun h_25 => ?_)
      · refine z_bipush C (z_d dtX8_weight_0 20 rfl) zb_m2 ?_
        exact ret _ _ _ _ (z_d dtX8_weight_0 21 rfl) (⟨rfl, by
            first
              | exact Or.inl ⟨by omega, rfl⟩
              | exact Or.inr ⟨by omega, rfl⟩⟩) rfl
      · refine z_aload_n C (z_d dtX8_weight_0 14 rfl) rfl ?_
        refine z_iload_n C (z_d dtX8_weight_0 15 rfl) rfl ?_
        refine z_iload_n C (z_d dtX8_weight_0 16 rfl) rfl ?_
        refine z_iload_n C (z_d dtX8_weight_0 17 rfl) rfl ?_
        refine z_callV C (z_d dtX8_weight_0 18 rfl) (k_X8_weightOf  (by first | assumption | omega) (by first | assumption | omega) (by first | assumption | omega)) cal_X8_weightOf gw_18_8 rfl 0 8 rfl rfl rfl rfl hR ⟨rfl, rfl, rfl, rfl⟩ rfl (fun r_32 w_32 h_32 => ?_)
        obtain ⟨rfl, rfl⟩ := h_32
        refine z_goto (tgt := 40) C (z_d dtX8_weight_0 19 rfl) (by decide) ?_
        exact ret _ _ _ _ (z_d dtX8_weight_0 21 rfl) (⟨rfl, by
            first
              | exact Or.inl ⟨by omega, rfl⟩
              | exact Or.inr ⟨by omega, rfl⟩⟩) rfl

set_option maxRecDepth 100000 in
set_option maxHeartbeats 4000000 in
theorem k_X8_offset {l : Launch} {D : va_G} {t : Nat → ClassId} {ad : Nat → Nat} {σ : zMem} {z row c : Int} (ok : okM σ) (hz : -2147483648 ≤ z ∧ z < 2147483648) (hrow : -2147483648 ≤ row ∧ row < 2147483648) (hc : -2147483648 ≤ c ∧ c < 2147483648) : z_Ci l D t yX8_offset cX8_offset 10 .int 3 76 0 0 [.ref (ad 0), .int (zI z), .int (zI row), .int (zI c)] (wM ad t σ) (fun r w => ∃ σ', w = wM ad t σ' ∧ ((¬ ((0 ≤ z ∧ z < 4) ∧ (0 ≤ c ∧ c < zN σ)) ∧ r = -100 ∧ σ' = σ) ∨ (((0 ≤ z ∧ z < 4) ∧ (0 ≤ c ∧ c < zN σ)) ∧ ((¬ zRp σ z row = 0 ∧ r = -10 - zRp σ z row ∧ σ' = zS σ 19 (zC (zRp σ z row))) ∨ (zRp σ z row = 0 ∧ r = (zOf σ z row c 4).1 ∧ σ' = σ))))) := by
  refine z_Ci_of (by decide +kernel) [some (.ref (ad 0)), some (.int (zI z)), some (.int (zI row)), some (.int (zI c)), none, none, none, none, none, none] rfl rfl (Nat.le_of_ble_eq_true rfl) fun K hl hD ht hR hnm C ret => ?_
  subst hl; subst hD; subst ht
  have ok2 := ok
  obtain ⟨⟨hw, h60, hs, h4, h5, h6, h7⟩, hmp, ⟨h9, hsum⟩, oW1, ⟨hle, hgi, hga⟩, oT1, ⟨h16, h17, h18, hit⟩⟩ := ok2
  have hN := zHw_N hw
  have hW := hw; unfold zHw at hW
  have hwh := zHw_wh hw
  have hrp : (0 ≤ zRp σ z row ∧ zRp σ z row ≤ 2) ∧ (zRp σ z row = 0 → 0 ≤ row ∧ row < 30) := zRp_m h18 z row
  refine z_iload_n C (z_d dtX8_offset_0 0 rfl) rfl ?_
  refine z_callS C (z_d dtX8_offset_0 1 rfl) (k_X8_isSheet  (by first | assumption | omega)) cal_X8_isSheet gw_16_16 rfl rfl hR ⟨rfl, rfl, rfl, rfl⟩ rfl (fun r_1 w_1 h_1 => ?_)
  obtain ⟨rfl, h_1⟩ := h_1
  refine z_if_eq (tgt := 15) C (z_d dtX8_offset_0 2 rfl) (by decide) (by omega) (fun h_4 => ?_) (fun h_4 => ?_)
  · refine z_bipush C (z_d dtX8_offset_0 7 rfl) zb_m100 ?_
    exact ret _ _ _ _ (z_d dtX8_offset_0 8 rfl) (⟨σ, rfl, Or.inl ⟨by omega, rfl, rfl⟩⟩) rfl
  · refine z_aload_n C (z_d dtX8_offset_0 3 rfl) rfl ?_
    refine z_iload_n C (z_d dtX8_offset_0 4 rfl) rfl ?_
    refine z_callV C (z_d dtX8_offset_0 5 rfl) (k_X8_isCell  (by first | assumption | omega) (by first | assumption | omega) (by first | assumption | omega)) cal_X8_isCell gw_10_20 rfl 0 8 rfl rfl rfl rfl hR ⟨rfl, rfl, rfl, rfl⟩ rfl (fun r_9 w_9 h_9 => ?_)
    obtain ⟨rfl, h_9⟩ := h_9
    refine z_if_ne (tgt := 18) C (z_d dtX8_offset_0 6 rfl) (by decide) (by omega) (fun h_12 => ?_) (fun h_12 => ?_)
    · refine z_aload_n C (z_d dtX8_offset_0 9 rfl) rfl ?_
      refine z_iload_n C (z_d dtX8_offset_0 10 rfl) rfl ?_
      refine z_iload_n C (z_d dtX8_offset_0 11 rfl) rfl ?_
      refine z_callV C (z_d dtX8_offset_0 12 rfl) (k_X8_lacksRow  (by omega) (by first | assumption | omega) (by first | assumption | omega) (by first | assumption | omega)) cal_X8_lacksRow gw_16_19 rfl 0 8 rfl rfl rfl rfl hR ⟨rfl, rfl, rfl, rfl⟩ rfl (fun r_21 w_21 h_21 => ?_)
      obtain ⟨rfl, rfl⟩ := h_21
      refine z_istore4 C (z_d dtX8_offset_0 13 rfl) rfl ?_
      refine z_iload C (z_d dtX8_offset_0 14 rfl) rfl ?_
      refine z_if_le (tgt := 38) C (z_d dtX8_offset_0 15 rfl) (by decide) (by omega) (fun h_28 => ?_) (fun h_28 => ?_)
      · refine z_iconst C (z_d dtX8_offset_0 20 rfl) ?_
        refine z_istore5 C (z_d dtX8_offset_0 21 rfl) rfl ?_
        refine z_aload_n C (z_d dtX8_offset_0 22 rfl) rfl ?_
        refine z_iload_n C (z_d dtX8_offset_0 23 rfl) rfl ?_
        refine z_iload_n C (z_d dtX8_offset_0 24 rfl) rfl ?_
        refine z_iload_n C (z_d dtX8_offset_0 25 rfl) rfl ?_
        refine z_iconst C (z_d dtX8_offset_0 26 rfl) ?_
        refine z_iconst C (z_d dtX8_offset_0 27 rfl) ?_
        refine z_callV C (z_d dtX8_offset_0 28 rfl) (k_X8_weights  (by omega) (by first | assumption | omega) (hrp.2 (by omega)) (by omega) (by first | assumption | omega) (by first | assumption | omega) (by omega) (by omega)) cal_X8_weights gw_19_16 rfl 0 8 rfl rfl rfl rfl hR ⟨rfl, rfl, rfl, rfl⟩ rfl (fun r_47 w_47 h_47 => ?_)
        obtain ⟨rfl, rfl⟩ := h_47
        refine z_istore6 C (z_d dtX8_offset_0 29 rfl) rfl ?_
        refine z_iconst C (z_d dtX8_offset_0 30 rfl) ?_
        refine z_istore7 C (z_d dtX8_offset_0 31 rfl) rfl ?_
        have lp_55 : ∀ (N_55 : Nat) (i : Nat) (a b m : Int), (a = i + 1 ∧ i ≤ 4) → ((b, m) = zOf σ z row c i) → 4 - i < N_55 → Gd K 0 0 55 [some (.ref (ad 0)), some (.int (zI z)), some (.int (zI row)), some (.int (zI c)), some (.int (zI (zRp σ z row))), some (.int (zI b)), some (.int (zI m)), some (.int (zI a)), none, none] [] (wM ad (z_t K) σ) := by
          intro N_55
          induction N_55 with
          | zero => intro i a b m hi hs2 hm_55; exact absurd hm_55 (Nat.not_lt_zero _)
          | succ N_55 ih_55 =>
            intro i a b m hi hs2 hm_55
            obtain ⟨rfl, hi⟩ := hi
            refine z_iload C (z_d dtX8_offset_0 32 rfl) rfl ?_
            refine z_iconst C (z_d dtX8_offset_0 33 rfl) ?_
            refine z_icmp_ge (tgt := 118) C (z_d dtX8_offset_0 34 rfl) (by decide) (by omega) (fun h_58 => ?_) (fun h_58 => ?_)
            · refine z_iload C (z_d dtX8_offset_1 25 rfl) rfl ?_
              exact ret _ _ _ _ (z_d dtX8_offset_1 26 rfl) (⟨_, rfl, Or.inr ⟨by omega, Or.inr ⟨by omega, by rw [show (4 : Nat) = i by omega, ← hs2], rfl⟩⟩⟩) rfl
            · refine z_iload C (z_d dtX8_offset_0 35 rfl) rfl ?_
              refine z_ineg C (z_d dtX8_offset_0 36 rfl) ?_
              refine z_istore8 C (z_d dtX8_offset_0 37 rfl) rfl ?_
              have lp_66 : ∀ (N_66 : Nat) (o b2 m2 : Int), ((o = -((i : Int) + 1) ∧ (b2, m2) = zOf σ z row c i) ∨ (o = (i : Int) + 1 ∧ (b2, m2) = zOg σ z row c i) ∨ (o = 3 * ((i : Int) + 1) ∧ (b2, m2) = zOf σ z row c (i + 1))) → (4 * (i : Int) + 5 - o).toNat < N_66 → Gd K 0 0 66 [some (.ref (ad 0)), some (.int (zI z)), some (.int (zI row)), some (.int (zI c)), some (.int (zI (zRp σ z row))), some (.int (zI b2)), some (.int (zI m2)), some (.int (zI ((i : Int) + 1))), some (.int (zI o)), none] [] (wM ad (z_t K) σ) := by
                intro N_66
                induction N_66 with
                | zero => intro o b2 m2 ho3 hm_66; exact absurd hm_66 (Nat.not_lt_zero _)
                | succ N_66 ih_66 =>
                  intro o b2 m2 ho3 hm_66
                  have hb1 := zOf_b hmp z row c i
                  have hb2 := zOf_b hmp z row c (i + 1)
                  have hw1 := zRw_b hmp z row c (-((i : Int) + 1)) (-1) 8
                  have hw2 := zRw_b hmp z row c ((i : Int) + 1) (-1) 8
                  have hob : -4 ≤ o ∧ (o = -((i : Int) + 1) ∨ o = (i : Int) + 1 ∨ o = 3 * ((i : Int) + 1)) := by
                    rcases ho3 with ⟨q, e⟩ | ⟨q, e⟩ | ⟨q, e⟩ <;> omega
                  have hm2 : 0 ≤ m2 ∧ m2 ≤ 2048 := by
                    rcases ho3 with ⟨q, e⟩ | ⟨q, e⟩ | ⟨q, e⟩
                    · rw [← e] at hb1; exact hb1
                    · have : (zOg σ z row c i).2 = m2 := by rw [← e]
                      unfold zOg at this
                      split at this
                      · dsimp only at this; omega
                      · omega
                    · rw [← e] at hb2; exact hb2
                  have hwo2 := zRw_b hmp z row c o (-1) 8
                  refine z_iload C (z_d dtX8_offset_0 38 rfl) rfl ?_
                  refine z_iload C (z_d dtX8_offset_0 39 rfl) rfl ?_
                  refine z_icmp_gt (tgt := 112) C (z_d dtX8_offset_1 0 rfl) (by decide) (by omega) (fun h_70 => ?_) (fun h_70 => ?_)
                  · refine z_iinc7 C (z_d dtX8_offset_1 23 rfl) rfl ?_
                    refine z_goto (tgt := 55) C (z_d dtX8_offset_1 24 rfl) (by decide) ?_
                    refine z_drop8 ?_
                    exact ih_55 (i + 1) _ _ _ (by omega) (by
                            rcases ho3 with ⟨q, e⟩ | ⟨q, e⟩ | ⟨q, e⟩
                            · omega
                            · omega
                            · exact e) (by omega)
                  · refine z_aload_n C (z_d dtX8_offset_1 1 rfl) rfl ?_
                    refine z_iload_n C (z_d dtX8_offset_1 2 rfl) rfl ?_
                    refine z_iload_n C (z_d dtX8_offset_1 3 rfl) rfl ?_
                    refine z_iload_n C (z_d dtX8_offset_1 4 rfl) rfl ?_
                    refine z_iload C (z_d dtX8_offset_1 5 rfl) rfl ?_
                    refine z_iconst C (z_d dtX8_offset_1 6 rfl) ?_
                    refine z_callV C (z_d dtX8_offset_1 7 rfl) (k_X8_weights  (by omega) (by first | assumption | omega) (hrp.2 (by omega)) (by omega) (by first | assumption | omega) (by first | assumption | omega) (by omega) (by omega)) cal_X8_weights gw_19_16 rfl 0 8 rfl rfl rfl rfl hR ⟨rfl, rfl, rfl, rfl⟩ rfl (fun r_80 w_80 h_80 => ?_)
                    obtain ⟨rfl, rfl⟩ := h_80
                    refine z_istore9 C (z_d dtX8_offset_1 8 rfl) rfl ?_
                    refine z_iload C (z_d dtX8_offset_1 9 rfl) rfl ?_
                    refine z_iload C (z_d dtX8_offset_1 10 rfl) rfl ?_
                    refine z_icmp_le (tgt := 100) C (z_d dtX8_offset_1 11 rfl) (by decide) (by omega) (fun h_89 => ?_) (fun h_89 => ?_)
                    · refine z_iload C (z_d dtX8_offset_1 16 rfl) rfl ?_
                      refine z_iconst C (z_d dtX8_offset_1 17 rfl) ?_
                      refine z_iload C (z_d dtX8_offset_1 18 rfl) rfl ?_
                      refine z_imul C (z_d dtX8_offset_1 19 rfl) ?_
                      refine z_iadd C (z_d dtX8_offset_1 20 rfl) ?_
                      refine z_istore8 C (z_d dtX8_offset_1 21 rfl) rfl ?_
                      refine z_goto (tgt := 66) C (z_d dtX8_offset_1 22 rfl) (by decide) ?_
                      refine z_drop9 ?_
                      exact ih_66 _ _ _ (by
                              rcases ho3 with ⟨q, e⟩ | ⟨q, e⟩ | ⟨q, e⟩
                              · right; left
                                subst q
                                refine ⟨by omega, ?_⟩
                                unfold zOg
                                rw [← e]
                                dsimp only
                                first | rw [if_pos (show _ > _ by omega)] | rw [if_neg (show ¬ _ > _ by omega)]
                              · right; right
                                subst q
                                refine ⟨by omega, ?_⟩
                                rw [zOf_g, ← e]
                                dsimp only
                                first | rw [if_pos (show _ > _ by omega)] | rw [if_neg (show ¬ _ > _ by omega)]
                              · omega) (by omega)
                    · refine z_iload C (z_d dtX8_offset_1 12 rfl) rfl ?_
                      refine z_istore6 C (z_d dtX8_offset_1 13 rfl) rfl ?_
                      refine z_iload C (z_d dtX8_offset_1 14 rfl) rfl ?_
                      refine z_istore5 C (z_d dtX8_offset_1 15 rfl) rfl ?_
                      refine z_iload C (z_d dtX8_offset_1 16 rfl) rfl ?_
                      refine z_iconst C (z_d dtX8_offset_1 17 rfl) ?_
                      refine z_iload C (z_d dtX8_offset_1 18 rfl) rfl ?_
                      refine z_imul C (z_d dtX8_offset_1 19 rfl) ?_
                      refine z_iadd C (z_d dtX8_offset_1 20 rfl) ?_
                      refine z_istore8 C (z_d dtX8_offset_1 21 rfl) rfl ?_
                      refine z_goto (tgt := 66) C (z_d dtX8_offset_1 22 rfl) (by decide) ?_
                      refine z_drop9 ?_
                      exact ih_66 _ _ _ (by
                              rcases ho3 with ⟨q, e⟩ | ⟨q, e⟩ | ⟨q, e⟩
                              · right; left
                                subst q
                                refine ⟨by omega, ?_⟩
                                unfold zOg
                                rw [← e]
                                dsimp only
                                first | rw [if_pos (show _ > _ by omega)] | rw [if_neg (show ¬ _ > _ by omega)]
                              · right; right
                                subst q
                                refine ⟨by omega, ?_⟩
                                rw [zOf_g, ← e]
                                dsimp only
                                first | rw [if_pos (show _ > _ by omega)] | rw [if_neg (show ¬ _ > _ by omega)]
                              · omega) (by omega)
              exact lp_66 _ _ _ _ (Or.inl ⟨rfl, hs2⟩) (Nat.lt_succ_self _)
        exact lp_55 _ 0 _ _ _ (by omega) rfl (Nat.lt_succ_self _)
      · refine z_aload_n C (z_d dtX8_offset_0 16 rfl) rfl ?_
        refine z_iload C (z_d dtX8_offset_0 17 rfl) rfl ?_
        refine z_callV C (z_d dtX8_offset_0 18 rfl) (k_X8_meets  ) cal_X8_meets gw_17_3 rfl 0 8 rfl rfl rfl rfl hR ⟨rfl, rfl, rfl, rfl⟩ rfl (fun r_34 w_34 h_34 => ?_)
        obtain ⟨rfl, rfl⟩ := h_34
        exact ret _ _ _ _ (z_d dtX8_offset_0 19 rfl) (⟨_, rfl, Or.inr ⟨by omega, Or.inl ⟨by omega, rfl, rfl⟩⟩⟩) rfl
    · refine z_bipush C (z_d dtX8_offset_0 7 rfl) zb_m100 ?_
      exact ret _ _ _ _ (z_d dtX8_offset_0 8 rfl) (⟨σ, rfl, Or.inl ⟨by omega, rfl, rfl⟩⟩) rfl
