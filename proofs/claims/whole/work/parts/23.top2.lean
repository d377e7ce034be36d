/-! THE SYSTEM: its calls -/
theorem zRp_b {σ : zMem} (h : oB σ) (z row : Int) : (0 ≤ zRp σ z row ∧ zRp σ z row ≤ 2) ∧ (zRp σ z row = 0 → 0 ≤ row ∧ row < 30) := by
  have a := h.2.2.1 z
  unfold zRp
  split
  · omega
  · split <;> omega

set_option maxRecDepth 100000 in
set_option maxHeartbeats 4000000 in
theorem k_X7_stay {l : Launch} {D : va_G} {t : Nat → ClassId} {ad : Nat → Nat} {σ : zMem} {s : Int} (ok : okX σ) (hs : -2147483648 ≤ s ∧ s < 2147483648) : z_Ci l D t yX7_stay cX7_stay 2 .int 4 90 0 0 [.ref (ad 0), .int (zI s)] (wX ad t σ) (fun r w => ∃ σ', w = wX ad t σ' ∧ ((¬ (0 ≤ s ∧ s ≤ 9) ∧ r = -2 ∧ σ' = σ) ∨ ((0 ≤ s ∧ s ≤ 9) ∧ r = σ 3 0 ∧ zE σ' (zS σ 3 (zC s)) [33] ∧ zTb σ'))) := by
  refine z_Ci_of (by decide +kernel) [some (.ref (ad 0)), some (.int (zI s))] rfl rfl (Nat.le_of_ble_eq_true rfl) fun K hl hD ht hR hnm C ret => ?_
  subst hl; subst hD; subst ht
  have ok2 := ok
  obtain ⟨⟨hw, hs, ht, h4, h5, h6, hwc, hlc⟩, ⟨h7, hdd⟩, hmp, oS1, oW1, oA1, oT1, oB1⟩ := ok2
  have hN := zHw_N hw
  have hW := hw; unfold zHw at hW
  refine z_iload_n C (z_d dtX7_stay_0 0 rfl) rfl ?_
  refine z_if_lt (tgt := 10) C (z_d dtX7_stay_0 1 rfl) (by decide) (by omega) (fun h_1 => ?_) (fun h_1 => ?_)
  · refine z_bipush C (z_d dtX7_stay_0 5 rfl) zb_m2 ?_
    exact ret _ _ _ _ (z_d dtX7_stay_0 6 rfl) (⟨σ, rfl, Or.inl ⟨by omega, rfl, rfl⟩⟩) rfl
  · refine z_iload_n C (z_d dtX7_stay_0 2 rfl) rfl ?_
    refine z_bipush C (z_d dtX7_stay_0 3 rfl) zb_9 ?_
    refine z_icmp_le (tgt := 13) C (z_d dtX7_stay_0 4 rfl) (by decide) (by omega) (fun h_7 => ?_) (fun h_7 => ?_)
    · refine z_aload_n C (z_d dtX7_stay_0 7 rfl) rfl ?_
      refine gf_X7_10 C (z_d dtX7_stay_0 8 rfl) ?_
      refine z_iload_n C (z_d dtX7_stay_0 9 rfl) rfl ?_
      refine z_callV C (z_d dtX7_stay_0 10 rfl) (k_X3_putStay  (by first | assumption | omega) (by first | assumption | omega) (by first | assumption | omega) (by first | assumption | omega) (by first | assumption | omega)) cal_X3_putStay gw_12_16 rfl 1 3 rfl rfl rfl rfl hR ⟨rfl, rfl, rfl, rfl⟩ rfl (fun r_18 w_18 h_18 => ?_)
      obtain ⟨σ_18, rfl, h_18⟩ := h_18
      exact ret _ _ _ _ (z_d dtX7_stay_0 11 rfl) (⟨_, rfl, Or.inr ⟨by omega, h_18⟩⟩) rfl
    · refine z_bipush C (z_d dtX7_stay_0 5 rfl) zb_m2 ?_
      exact ret _ _ _ _ (z_d dtX7_stay_0 6 rfl) (⟨σ, rfl, Or.inl ⟨by omega, rfl, rfl⟩⟩) rfl

set_option maxRecDepth 100000 in
set_option maxHeartbeats 4000000 in
theorem k_X7_step {l : Launch} {D : va_G} {t : Nat → ClassId} {ad : Nat → Nat} {σ : zMem} {a b : Int} (ok : okX σ) (ha : -2147483648 ≤ a ∧ a < 2147483648) (hb : -2147483648 ≤ b ∧ b < 2147483648) : z_Ci l D t yX7_step cX7_step 3 .int 2 45 0 0 [.ref (ad 0), .int (zI a), .int (zI b)] (wX ad t σ) (fun r w => w = wX ad t σ ∧ ((¬ ((0 ≤ a ∧ a < zN σ) ∧ (0 ≤ b ∧ b < zN σ)) ∧ r = -2) ∨ (((0 ≤ a ∧ a < zN σ) ∧ (0 ≤ b ∧ b < zN σ)) ∧ ((∃ d, 0 ≤ d ∧ d < 7 ∧ σ 33 (a * 7 + d) = b ∧ (∀ j, 0 ≤ j → j < d → σ 33 (a * 7 + j) ≠ b) ∧ r = zLik σ d) ∨ ((∀ d, 0 ≤ d → d < 7 → σ 33 (a * 7 + d) ≠ b) ∧ r = 0))))) := by
  refine z_Ci_of (by decide +kernel) [some (.ref (ad 0)), some (.int (zI a)), some (.int (zI b))] rfl rfl (Nat.le_of_ble_eq_true rfl) fun K hl hD ht hR hnm C ret => ?_
  subst hl; subst hD; subst ht
  have ok2 := ok
  obtain ⟨⟨hw, hs, ht, h4, h5, h6, hwc, hlc⟩, ⟨h7, hdd⟩, hmp, oS1, oW1, oA1, oT1, oB1⟩ := ok2
  have hN := zHw_N hw
  have hW := hw; unfold zHw at hW
  refine z_aload_n C (z_d dtX7_step_0 0 rfl) rfl ?_
  refine gf_X7_10 C (z_d dtX7_step_0 1 rfl) ?_
  refine z_iload_n C (z_d dtX7_step_0 2 rfl) rfl ?_
  refine z_callV C (z_d dtX7_step_0 3 rfl) (k_X3_hasCell  (by first | assumption | omega) (by first | assumption | omega)) cal_X3_hasCell gw_10_1 rfl 1 3 rfl rfl rfl rfl hR ⟨rfl, rfl, rfl, rfl⟩ rfl (fun r_5 w_5 h_5 => ?_)
  obtain ⟨rfl, h_5⟩ := h_5
  refine z_if_eq (tgt := 22) C (z_d dtX7_step_0 4 rfl) (by decide) (by omega) (fun h_8 => ?_) (fun h_8 => ?_)
  · refine z_bipush C (z_d dtX7_step_0 10 rfl) zb_m2 ?_
    exact ret _ _ _ _ (z_d dtX7_step_0 11 rfl) (⟨rfl, Or.inl ⟨by omega, rfl⟩⟩) rfl
  · refine z_aload_n C (z_d dtX7_step_0 5 rfl) rfl ?_
    refine gf_X7_10 C (z_d dtX7_step_0 6 rfl) ?_
    refine z_iload_n C (z_d dtX7_step_0 7 rfl) rfl ?_
    refine z_callV C (z_d dtX7_step_0 8 rfl) (k_X3_hasCell  (by first | assumption | omega) (by first | assumption | omega)) cal_X3_hasCell gw_10_1 rfl 1 3 rfl rfl rfl rfl hR ⟨rfl, rfl, rfl, rfl⟩ rfl (fun r_16 w_16 h_16 => ?_)
    obtain ⟨rfl, h_16⟩ := h_16
    refine z_if_ne (tgt := 25) C (z_d dtX7_step_0 9 rfl) (by decide) (by omega) (fun h_19 => ?_) (fun h_19 => ?_)
    · have hcc : (0 ≤ a ∧ a < zN σ) ∧ (0 ≤ b ∧ b < zN σ) := by omega
      refine z_aload_n C (z_d dtX7_step_0 12 rfl) rfl ?_
      refine gf_X7_10 C (z_d dtX7_step_0 13 rfl) ?_
      refine z_iload_n C (z_d dtX7_step_0 14 rfl) rfl ?_
      refine z_iload_n C (z_d dtX7_step_0 15 rfl) rfl ?_
      refine z_callV C (z_d dtX7_step_0 16 rfl) (k_X3_likelyBetween  (by first | assumption | omega) (by omega) (by first | assumption | omega) (by first | assumption | omega)) cal_X3_likelyBetween gw_13_4 rfl 1 3 rfl rfl rfl rfl hR ⟨rfl, rfl, rfl, rfl⟩ rfl (fun r_31 w_31 h_31 => ?_)
      obtain ⟨rfl, h_31⟩ := h_31
      exact ret _ _ _ _ (z_d dtX7_step_0 17 rfl) (⟨rfl, Or.inr ⟨hcc, h_31⟩⟩) rfl
    · refine z_bipush C (z_d dtX7_step_0 10 rfl) zb_m2 ?_
      exact ret _ _ _ _ (z_d dtX7_step_0 11 rfl) (⟨rfl, Or.inl ⟨by omega, rfl⟩⟩) rfl

set_option maxRecDepth 100000 in
set_option maxHeartbeats 4000000 in
theorem k_X7_dead {l : Launch} {D : va_G} {t : Nat → ClassId} {ad : Nat → Nat} {σ : zMem} {k s : Int} (ok : okX σ) (hk : -2147483648 ≤ k ∧ k < 2147483648) (h01 : s = 0 ∨ s = 1) : z_Ci l D t yX7_dead cX7_dead 3 .int 1 22 0 0 [.ref (ad 0), .int (zI k), .int (zI s)] (wX ad t σ) (fun r w => ∃ σ', w = wX ad t σ' ∧ ((¬ (0 ≤ k ∧ k < 8) ∧ r = -2 ∧ σ' = σ) ∨ ((0 ≤ k ∧ k < 8) ∧ r = 1 ∧ σ' = zS σ 30 (zC (zDb (zU (σ 7) k s)))))) := by
  refine z_Ci_of (by decide +kernel) [some (.ref (ad 0)), some (.int (zI k)), some (.int (zI s))] rfl rfl (Nat.le_of_ble_eq_true rfl) fun K hl hD ht hR hnm C ret => ?_
  subst hl; subst hD; subst ht
  have ok2 := ok
  obtain ⟨⟨hw, hs, ht, h4, h5, h6, hwc, hlc⟩, ⟨h7, hdd⟩, hmp, oS1, oW1, oA1, oT1, oB1⟩ := ok2
  have hN := zHw_N hw
  have hW := hw; unfold zHw at hW
  refine z_iload_n C (z_d dtX7_dead_0 0 rfl) rfl ?_
  refine z_callS C (z_d dtX7_dead_0 1 rfl) (k_X7_isSender  (by first | assumption | omega)) cal_X7_isSender gw_14_18 rfl rfl hR ⟨rfl, rfl, rfl, rfl⟩ rfl (fun r_1 w_1 h_1 => ?_)
  obtain ⟨rfl, h_1⟩ := h_1
  refine z_if_ne (tgt := 10) C (z_d dtX7_dead_0 2 rfl) (by decide) (by omega) (fun h_4 => ?_) (fun h_4 => ?_)
  · refine z_aload_n C (z_d dtX7_dead_0 5 rfl) rfl ?_
    refine gf_X7_19 C (z_d dtX7_dead_0 6 rfl) ?_
    refine z_iload_n C (z_d dtX7_dead_0 7 rfl) rfl ?_
    refine z_iload_n C (z_d dtX7_dead_0 8 rfl) rfl ?_
    refine z_callVv C (z_d dtX7_dead_0 9 rfl) (k_X4_putDead  (by omega) (by first | assumption | omega) (by first | assumption | omega) (by first | assumption | omega)) cal_X4_putDead gw_14_21 rfl 2 4 rfl rfl rfl rfl hR ⟨rfl, rfl, rfl, rfl⟩ rfl (fun w_16 h_16 => ?_)
    obtain rfl := h_16
    refine z_iconst C (z_d dtX7_dead_0 10 rfl) ?_
    exact ret _ _ _ _ (z_d dtX7_dead_0 11 rfl) (⟨_, rfl, Or.inr ⟨by omega, rfl, rfl⟩⟩) rfl
  · refine z_bipush C (z_d dtX7_dead_0 3 rfl) zb_m2 ?_
    exact ret _ _ _ _ (z_d dtX7_dead_0 4 rfl) (⟨σ, rfl, Or.inl ⟨by omega, rfl, rfl⟩⟩) rfl

set_option maxRecDepth 100000 in
set_option maxHeartbeats 4000000 in
theorem k_X7_survey {l : Launch} {D : va_G} {t : Nat → ClassId} {ad : Nat → Nat} {σ : zMem} {z row c : Int} (ok : okX σ) (hz : -2147483648 ≤ z ∧ z < 2147483648) (hrow : -2147483648 ≤ row ∧ row < 2147483648) (hc : -2147483648 ≤ c ∧ c < 2147483648) : z_Ci l D t yX7_survey cX7_survey 5 .int 2 50 0 0 [.ref (ad 0), .int (zI z), .int (zI row), .int (zI c)] (wX ad t σ) (fun r w => ∃ σ', w = wX ad t σ' ∧ ((¬ ((0 ≤ z ∧ z < 4) ∧ (0 ≤ c ∧ c < zN σ)) ∧ r = -2 ∧ σ' = σ) ∨ (((0 ≤ z ∧ z < 4) ∧ (0 ≤ c ∧ c < zN σ)) ∧ ((¬ zRp σ z row = 0 ∧ r = -10 - zRp σ z row ∧ σ' = zS σ 19 (zC (zRp σ z row))) ∨ (zRp σ z row = 0 ∧ r = zSn σ z row 8 ∧ σ' = zS σ 8 (zSv σ z row c 8)))))) := by
  refine z_Ci_of (by decide +kernel) [some (.ref (ad 0)), some (.int (zI z)), some (.int (zI row)), some (.int (zI c)), none] rfl rfl (Nat.le_of_ble_eq_true rfl) fun K hl hD ht hR hnm C ret => ?_
  subst hl; subst hD; subst ht
  have ok2 := ok
  obtain ⟨⟨hw, hs, ht, h4, h5, h6, hwc, hlc⟩, ⟨h7, hdd⟩, hmp, oS1, oW1, oA1, oT1, oB1⟩ := ok2
  have hN := zHw_N hw
  have hW := hw; unfold zHw at hW
  have hit := oB1.2.2.2.1
  have h16 := oB1.1
  have hff := oB1.2.1
  have hsz := oB_s oB1
  have h40 := oB1.2.2.2.2
  have hrp := zRp_b oB1 z row
  refine z_iload_n C (z_d dtX7_survey_0 0 rfl) rfl ?_
  refine z_callS C (z_d dtX7_survey_0 1 rfl) (k_X7_isSheet  (by first | assumption | omega)) cal_X7_isSheet gw_15_9 rfl rfl hR ⟨rfl, rfl, rfl, rfl⟩ rfl (fun r_1 w_1 h_1 => ?_)
  obtain ⟨rfl, h_1⟩ := h_1
  refine z_if_eq (tgt := 18) C (z_d dtX7_survey_0 2 rfl) (by decide) (by omega) (fun h_4 => ?_) (fun h_4 => ?_)
  · refine z_bipush C (z_d dtX7_survey_0 8 rfl) zb_m2 ?_
    exact ret _ _ _ _ (z_d dtX7_survey_0 9 rfl) (⟨σ, rfl, Or.inl ⟨by omega, rfl, rfl⟩⟩) rfl
  · refine z_aload_n C (z_d dtX7_survey_0 3 rfl) rfl ?_
    refine gf_X7_10 C (z_d dtX7_survey_0 4 rfl) ?_
    refine z_iload_n C (z_d dtX7_survey_0 5 rfl) rfl ?_
    refine z_callV C (z_d dtX7_survey_0 6 rfl) (k_X3_hasCell  (by first | assumption | omega) (by first | assumption | omega)) cal_X3_hasCell gw_10_1 rfl 1 3 rfl rfl rfl rfl hR ⟨rfl, rfl, rfl, rfl⟩ rfl (fun r_12 w_12 h_12 => ?_)
    obtain ⟨rfl, h_12⟩ := h_12
    refine z_if_ne (tgt := 21) C (z_d dtX7_survey_0 7 rfl) (by decide) (by omega) (fun h_15 => ?_) (fun h_15 => ?_)
    · refine z_aload_n C (z_d dtX7_survey_0 10 rfl) rfl ?_
      refine gf_X7_46 C (z_d dtX7_survey_0 11 rfl) ?_
      refine z_iload_n C (z_d dtX7_survey_0 12 rfl) rfl ?_
      refine al_Xsh C (z_d dtX7_survey_0 13 rfl) (by omega) ?_
      refine z_iload_n C (z_d dtX7_survey_0 14 rfl) rfl ?_
      refine z_callS C (z_d dtX7_survey_0 15 rfl) (k_X7_rowProblem  (by first | assumption | omega) (by first | assumption | omega) (by first | assumption | omega)) cal_X7_rowProblem gw_15_12 rfl rfl hR ⟨rfl, rfl, rfl, rfl⟩ rfl (fun r_28 w_28 h_28 => ?_)
      obtain ⟨rfl, rfl⟩ := h_28
      refine z_istore4 C (z_d dtX7_survey_0 16 rfl) rfl ?_
      refine z_iload C (z_d dtX7_survey_0 17 rfl) rfl ?_
      refine z_if_eq (tgt := 45) C (z_d dtX7_survey_0 18 rfl) (by decide) (by omega) (fun h_35 => ?_) (fun h_35 => ?_)
      · refine z_aload_n C (z_d dtX7_survey_0 23 rfl) rfl ?_
        refine gf_X7_19 C (z_d dtX7_survey_0 24 rfl) ?_
        refine z_aload_n C (z_d dtX7_survey_0 25 rfl) rfl ?_
        refine gf_X7_46 C (z_d dtX7_survey_0 26 rfl) ?_
        refine z_iload_n C (z_d dtX7_survey_0 27 rfl) rfl ?_
        refine al_Xsh C (z_d dtX7_survey_0 28 rfl) (by omega) ?_
        refine z_iload_n C (z_d dtX7_survey_0 29 rfl) rfl ?_
        refine z_iload_n C (z_d dtX7_survey_0 30 rfl) rfl ?_
        refine z_callV C (z_d dtX7_survey_0 31 rfl) (k_X4_addRow  (by omega) hit (hrp.2 (by omega)) (by omega) (by first | assumption | omega)) cal_X4_addRow gw_16_0 rfl 2 4 rfl rfl rfl rfl hR ⟨rfl, rfl, rfl, rfl⟩ rfl (fun r_57 w_57 h_57 => ?_)
        obtain ⟨rfl, rfl⟩ := h_57
        exact ret _ _ _ _ (z_d dtX7_survey_0 32 rfl) (⟨_, rfl, Or.inr ⟨by omega, Or.inr ⟨by omega, rfl, rfl⟩⟩⟩) rfl
      · refine z_aload_n C (z_d dtX7_survey_0 19 rfl) rfl ?_
        refine z_iload C (z_d dtX7_survey_0 20 rfl) rfl ?_
        refine z_callV C (z_d dtX7_survey_0 21 rfl) (k_X7_finding  ) cal_X7_finding gw_15_20 rfl 0 7 rfl rfl rfl rfl hR ⟨rfl, rfl, rfl, rfl⟩ rfl (fun r_41 w_41 h_41 => ?_)
        obtain ⟨rfl, rfl⟩ := h_41
        exact ret _ _ _ _ (z_d dtX7_survey_0 22 rfl) (⟨_, rfl, Or.inr ⟨by omega, Or.inl ⟨by omega, rfl, rfl⟩⟩⟩) rfl
    · refine z_bipush C (z_d dtX7_survey_0 8 rfl) zb_m2 ?_
      exact ret _ _ _ _ (z_d dtX7_survey_0 9 rfl) (⟨σ, rfl, Or.inl ⟨by omega, rfl, rfl⟩⟩) rfl

set_option maxRecDepth 100000 in
set_option maxHeartbeats 4000000 in
theorem k_X7_weight {l : Launch} {D : va_G} {t : Nat → ClassId} {ad : Nat → Nat} {σ : zMem} {k c v : Int} (ok : okX σ) (hk : -2147483648 ≤ k ∧ k < 2147483648) (hc : -2147483648 ≤ c ∧ c < 2147483648) (hv : -2147483648 ≤ v ∧ v < 2147483648) : z_Ci l D t yX7_weight cX7_weight 4 .int 2 45 0 0 [.ref (ad 0), .int (zI k), .int (zI c), .int (zI v)] (wX ad t σ) (fun r w => w = wX ad t σ ∧ ((¬ ((0 ≤ k ∧ k < 8) ∧ (0 ≤ c ∧ c < zN σ) ∧ (-1 ≤ v ∧ v ≤ 9)) ∧ r = -2) ∨ (((0 ≤ k ∧ k < 8) ∧ (0 ≤ c ∧ c < zN σ) ∧ (-1 ≤ v ∧ v ≤ 9)) ∧ r = zWt σ k c v))) := by
  refine z_Ci_of (by decide +kernel) [some (.ref (ad 0)), some (.int (zI k)), some (.int (zI c)), some (.int (zI v))] rfl rfl (Nat.le_of_ble_eq_true rfl) fun K hl hD ht hR hnm C ret => ?_
  subst hl; subst hD; subst ht
  have ok2 := ok
  obtain ⟨⟨hw, hs, ht, h4, h5, h6, hwc, hlc⟩, ⟨h7, hdd⟩, hmp, oS1, oW1, oA1, oT1, oB1⟩ := ok2
  have hN := zHw_N hw
  have hW := hw; unfold zHw at hW
  refine z_iload_n C (z_d dtX7_weight_0 0 rfl) rfl ?_
  refine z_callS C (z_d dtX7_weight_0 1 rfl) (k_X7_isSender  (by first | assumption | omega)) cal_X7_isSender gw_14_18 rfl rfl hR ⟨rfl, rfl, rfl, rfl⟩ rfl (fun r_1 w_1 h_1 => ?_)
  obtain ⟨rfl, h_1⟩ := h_1
  refine z_if_eq (tgt := 29) C (z_d dtX7_weight_0 2 rfl) (by decide) (by omega) (fun h_4 => ?_) (fun h_4 => ?_)
  · refine z_bipush C (z_d dtX7_weight_0 14 rfl) zb_m2 ?_
    exact ret _ _ _ _ (z_d dtX7_weight_0 15 rfl) (⟨rfl, Or.inl ⟨by omega, rfl⟩⟩) rfl
  · refine z_aload_n C (z_d dtX7_weight_0 3 rfl) rfl ?_
    refine gf_X7_10 C (z_d dtX7_weight_0 4 rfl) ?_
    refine z_iload_n C (z_d dtX7_weight_0 5 rfl) rfl ?_
    refine z_callV C (z_d dtX7_weight_0 6 rfl) (k_X3_hasCell  (by first | assumption | omega) (by first | assumption | omega)) cal_X3_hasCell gw_10_1 rfl 1 3 rfl rfl rfl rfl hR ⟨rfl, rfl, rfl, rfl⟩ rfl (fun r_12 w_12 h_12 => ?_)
    obtain ⟨rfl, h_12⟩ := h_12
    refine z_if_eq (tgt := 29) C (z_d dtX7_weight_0 7 rfl) (by decide) (by omega) (fun h_15 => ?_) (fun h_15 => ?_)
    · refine z_bipush C (z_d dtX7_weight_0 14 rfl) zb_m2 ?_
      exact ret _ _ _ _ (z_d dtX7_weight_0 15 rfl) (⟨rfl, Or.inl ⟨by omega, rfl⟩⟩) rfl
    · refine z_iload_n C (z_d dtX7_weight_0 8 rfl) rfl ?_
      refine z_iconst C (z_d dtX7_weight_0 9 rfl) ?_
      refine z_icmp_lt (tgt := 29) C (z_d dtX7_weight_0 10 rfl) (by decide) (by omega) (fun h_20 => ?_) (fun h_20 => ?_)
      · refine z_bipush C (z_d dtX7_weight_0 14 rfl) zb_m2 ?_
        exact ret _ _ _ _ (z_d dtX7_weight_0 15 rfl) (⟨rfl, Or.inl ⟨by omega, rfl⟩⟩) rfl
      · refine z_iload_n C (z_d dtX7_weight_0 11 rfl) rfl ?_
        refine z_bipush C (z_d dtX7_weight_0 12 rfl) zb_9 ?_
        refine z_icmp_le (tgt := 32) C (z_d dtX7_weight_0 13 rfl) (by decide) (by omega) (fun h_26 => ?_) (fun h_26 => ?_)
        · refine z_aload_n C (z_d dtX7_weight_0 16 rfl) rfl ?_
          refine gf_X7_19 C (z_d dtX7_weight_0 17 rfl) ?_
          refine z_iload_n C (z_d dtX7_weight_0 18 rfl) rfl ?_
          refine z_iload_n C (z_d dtX7_weight_0 19 rfl) rfl ?_
          refine z_iload_n C (z_d dtX7_weight_0 20 rfl) rfl ?_
          refine z_callV C (z_d dtX7_weight_0 21 rfl) (k_X4_weightOf  (by omega) (by omega) (by omega)) cal_X4_weightOf gw_18_0 rfl 2 4 rfl rfl rfl rfl hR ⟨rfl, rfl, rfl, rfl⟩ rfl (fun r_39 w_39 h_39 => ?_)
          obtain ⟨rfl, rfl⟩ := h_39
          exact ret _ _ _ _ (z_d dtX7_weight_0 22 rfl) (⟨rfl, Or.inr ⟨by omega, rfl⟩⟩) rfl
        · refine z_bipush C (z_d dtX7_weight_0 14 rfl) zb_m2 ?_
          exact ret _ _ _ _ (z_d dtX7_weight_0 15 rfl) (⟨rfl, Or.inl ⟨by omega, rfl⟩⟩) rfl

set_option maxRecDepth 100000 in
set_option maxHeartbeats 4000000 in
theorem k_X7_offset {l : Launch} {D : va_G} {t : Nat → ClassId} {ad : Nat → Nat} {σ : zMem} {z row c : Int} (ok : okX σ) (hz : -2147483648 ≤ z ∧ z < 2147483648) (hrow : -2147483648 ≤ row ∧ row < 2147483648) (hc : -2147483648 ≤ c ∧ c < 2147483648) : z_Ci l D t yX7_offset cX7_offset 5 .int 4 103 0 0 [.ref (ad 0), .int (zI z), .int (zI row), .int (zI c)] (wX ad t σ) (fun r w => ∃ σ', w = wX ad t σ' ∧ ((¬ ((0 ≤ z ∧ z < 4) ∧ (0 ≤ c ∧ c < zN σ)) ∧ r = -100 ∧ σ' = σ) ∨ (((0 ≤ z ∧ z < 4) ∧ (0 ≤ c ∧ c < zN σ)) ∧ ((¬ zRp σ z row = 0 ∧ r = -10 - zRp σ z row ∧ σ' = zS σ 19 (zC (zRp σ z row))) ∨ (zRp σ z row = 0 ∧ r = (zOf σ z row c 4).1 ∧ σ' = σ))))) := by
  refine z_Ci_of (by decide +kernel) [some (.ref (ad 0)), some (.int (zI z)), some (.int (zI row)), some (.int (zI c)), none] rfl rfl (Nat.le_of_ble_eq_true rfl) fun K hl hD ht hR hnm C ret => ?_
  subst hl; subst hD; subst ht
  have ok2 := ok
  obtain ⟨⟨hw, hs, ht, h4, h5, h6, hwc, hlc⟩, ⟨h7, hdd⟩, hmp, oS1, oW1, oA1, oT1, oB1⟩ := ok2
  have hN := zHw_N hw
  have hW := hw; unfold zHw at hW
  have hit := oB1.2.2.2.1
  have h16 := oB1.1
  have hff := oB1.2.1
  have hsz := oB_s oB1
  have h40 := oB1.2.2.2.2
  have hrp := zRp_b oB1 z row
  refine z_iload_n C (z_d dtX7_offset_0 0 rfl) rfl ?_
  refine z_callS C (z_d dtX7_offset_0 1 rfl) (k_X7_isSheet  (by first | assumption | omega)) cal_X7_isSheet gw_15_9 rfl rfl hR ⟨rfl, rfl, rfl, rfl⟩ rfl (fun r_1 w_1 h_1 => ?_)
  obtain ⟨rfl, h_1⟩ := h_1
  refine z_if_eq (tgt := 18) C (z_d dtX7_offset_0 2 rfl) (by decide) (by omega) (fun h_4 => ?_) (fun h_4 => ?_)
  · refine z_bipush C (z_d dtX7_offset_0 8 rfl) zb_m100 ?_
    exact ret _ _ _ _ (z_d dtX7_offset_0 9 rfl) (⟨σ, rfl, Or.inl ⟨by omega, rfl, rfl⟩⟩) rfl
  · refine z_aload_n C (z_d dtX7_offset_0 3 rfl) rfl ?_
    refine gf_X7_10 C (z_d dtX7_offset_0 4 rfl) ?_
    refine z_iload_n C (z_d dtX7_offset_0 5 rfl) rfl ?_
    refine z_callV C (z_d dtX7_offset_0 6 rfl) (k_X3_hasCell  (by first | assumption | omega) (by first | assumption | omega)) cal_X3_hasCell gw_10_1 rfl 1 3 rfl rfl rfl rfl hR ⟨rfl, rfl, rfl, rfl⟩ rfl (fun r_12 w_12 h_12 => ?_)
    obtain ⟨rfl, h_12⟩ := h_12
    refine z_if_ne (tgt := 21) C (z_d dtX7_offset_0 7 rfl) (by decide) (by omega) (fun h_15 => ?_) (fun h_15 => ?_)
    · refine z_aload_n C (z_d dtX7_offset_0 10 rfl) rfl ?_
      refine gf_X7_46 C (z_d dtX7_offset_0 11 rfl) ?_
      refine z_iload_n C (z_d dtX7_offset_0 12 rfl) rfl ?_
      refine al_Xsh C (z_d dtX7_offset_0 13 rfl) (by omega) ?_
      refine z_iload_n C (z_d dtX7_offset_0 14 rfl) rfl ?_
      refine z_callS C (z_d dtX7_offset_0 15 rfl) (k_X7_rowProblem  (by first | assumption | omega) (by first | assumption | omega) (by first | assumption | omega)) cal_X7_rowProblem gw_15_12 rfl rfl hR ⟨rfl, rfl, rfl, rfl⟩ rfl (fun r_28 w_28 h_28 => ?_)
      obtain ⟨rfl, rfl⟩ := h_28
      refine z_istore4 C (z_d dtX7_offset_0 16 rfl) rfl ?_
      refine z_iload C (z_d dtX7_offset_0 17 rfl) rfl ?_
      refine z_if_eq (tgt := 45) C (z_d dtX7_offset_0 18 rfl) (by decide) (by omega) (fun h_35 => ?_) (fun h_35 => ?_)
      · refine z_aload_n C (z_d dtX7_offset_0 23 rfl) rfl ?_
        refine gf_X7_19 C (z_d dtX7_offset_0 24 rfl) ?_
        refine z_aload_n C (z_d dtX7_offset_0 25 rfl) rfl ?_
        refine gf_X7_46 C (z_d dtX7_offset_0 26 rfl) ?_
        refine z_iload_n C (z_d dtX7_offset_0 27 rfl) rfl ?_
        refine al_Xsh C (z_d dtX7_offset_0 28 rfl) (by omega) ?_
        refine z_iload_n C (z_d dtX7_offset_0 29 rfl) rfl ?_
        refine z_iload_n C (z_d dtX7_offset_0 30 rfl) rfl ?_
        refine z_callV C (z_d dtX7_offset_0 31 rfl) (k_X4_bestOffset  (by omega) hit (hrp.2 (by omega)) (by omega) (by first | assumption | omega) (by first | assumption | omega) (by first | assumption | omega)) cal_X4_bestOffset gw_18_16 rfl 2 4 rfl rfl rfl rfl hR ⟨rfl, rfl, rfl, rfl⟩ rfl (fun r_57 w_57 h_57 => ?_)
        obtain ⟨rfl, rfl⟩ := h_57
        exact ret _ _ _ _ (z_d dtX7_offset_0 32 rfl) (⟨_, rfl, Or.inr ⟨by omega, Or.inr ⟨by omega, rfl, rfl⟩⟩⟩) rfl
      · refine z_aload_n C (z_d dtX7_offset_0 19 rfl) rfl ?_
        refine z_iload C (z_d dtX7_offset_0 20 rfl) rfl ?_
        refine z_callV C (z_d dtX7_offset_0 21 rfl) (k_X7_finding  ) cal_X7_finding gw_15_20 rfl 0 7 rfl rfl rfl rfl hR ⟨rfl, rfl, rfl, rfl⟩ rfl (fun r_41 w_41 h_41 => ?_)
        obtain ⟨rfl, rfl⟩ := h_41
        exact ret _ _ _ _ (z_d dtX7_offset_0 22 rfl) (⟨_, rfl, Or.inr ⟨by omega, Or.inl ⟨by omega, rfl, rfl⟩⟩⟩) rfl
    · refine z_bipush C (z_d dtX7_offset_0 8 rfl) zb_m100 ?_
      exact ret _ _ _ _ (z_d dtX7_offset_0 9 rfl) (⟨σ, rfl, Or.inl ⟨by omega, rfl, rfl⟩⟩) rfl

set_option maxRecDepth 100000 in
set_option maxHeartbeats 4000000 in
theorem k_X7_alike {l : Launch} {D : va_G} {t : Nat → ClassId} {ad : Nat → Nat} {σ : zMem}  (ok : okX σ) : z_Ci l D t yX7_alike cX7_alike 1 .int 3 71 0 0 [.ref (ad 0)] (wX ad t σ) (fun r w => ∃ σ', w = wX ad t σ' ∧ zE σ' σ [9, 36, 37, 38] ∧ σ' 36 = zC (zN σ) ∧ (∀ c, 0 ≤ c → c < zN σ → σ' 9 c = zWh (zC 1) (zN σ).toNat c) ∧ r = zWh (zC 1) (zN σ).toNat (zN σ - 1)) := by
  refine z_Ci_of (by decide +kernel) [some (.ref (ad 0))] rfl rfl (Nat.le_of_ble_eq_true rfl) fun K hl hD ht hR hnm C ret => ?_
  subst hl; subst hD; subst ht
  have ok2 := ok
  obtain ⟨⟨hw, hs, ht, h4, h5, h6, hwc, hlc⟩, ⟨h7, hdd⟩, hmp, oS1, oW1, oA1, oT1, oB1⟩ := ok2
  have hN := zHw_N hw
  have hW := hw; unfold zHw at hW
  have hn := oS_n oS1 hw
  have h9 := oS_9 oS1 hw
  refine z_aload_n C (z_d dtX7_alike_0 0 rfl) rfl ?_
  refine gf_X7_26 C (z_d dtX7_alike_0 1 rfl) ?_
  refine z_aload_n C (z_d dtX7_alike_0 2 rfl) rfl ?_
  refine gf_X7_10 C (z_d dtX7_alike_0 3 rfl) ?_
  refine z_callV C (z_d dtX7_alike_0 4 rfl) (k_X3_cells  ) cal_X3_cells gw_6_9 rfl 1 3 rfl rfl rfl rfl hR ⟨rfl, rfl, rfl, rfl⟩ rfl (fun r_8 w_8 h_8 => ?_)
  obtain ⟨rfl, rfl⟩ := h_8
  refine z_top (show zN σ = (((zN σ).toNat : Nat) : Int) by omega) ?_
  refine z_callVv C (z_d dtX7_alike_0 5 rfl) (k_X1_makeAlike  (by first | assumption | omega)) cal_X1_makeAlike gw_6_10 rfl 3 1 rfl rfl rfl rfl hR ⟨rfl, rfl, rfl, rfl⟩ rfl (fun w_11 h_11 => ?_)
  obtain ⟨σ_11, rfl, hE_11, h_11⟩ := h_11
  have eN := zN_E hE_11 (by decide) (by decide) (by decide)
  have hw2 := zHw_E hE_11 (by decide) (by decide) (by decide) hw
  refine z_aload_n C (z_d dtX7_alike_0 6 rfl) rfl ?_
  refine gf_X7_26 C (z_d dtX7_alike_0 7 rfl) ?_
  refine z_aload_n C (z_d dtX7_alike_0 8 rfl) rfl ?_
  refine gf_X7_10 C (z_d dtX7_alike_0 9 rfl) ?_
  refine z_callV C (z_d dtX7_alike_0 10 rfl) (k_X3_cells  ) cal_X3_cells gw_6_9 rfl 1 3 rfl rfl rfl rfl hR ⟨rfl, rfl, rfl, rfl⟩ rfl (fun r_22 w_22 h_22 => ?_)
  obtain ⟨rfl, rfl⟩ := h_22
  rw [eN]
  refine z_iconst C (z_d dtX7_alike_0 11 rfl) ?_
  refine z_isub C (z_d dtX7_alike_0 12 rfl) ?_
  refine z_callV C (z_d dtX7_alike_0 13 rfl) (k_X1_shareOf  (by first | assumption | omega)) cal_X1_shareOf gw_20_0 rfl 3 1 rfl rfl rfl rfl hR ⟨rfl, rfl, rfl, rfl⟩ rfl (fun r_27 w_27 h_27 => ?_)
  obtain ⟨rfl, rfl⟩ := h_27
  exact ret _ _ _ _ (z_d dtX7_alike_0 14 rfl) (⟨_, rfl, hE_11, by rw [h_11.1, show (((zN σ).toNat : Nat) : Int) = zN σ by omega], fun c h0 h1 => h_11.2 c h0 (by omega), h_11.2 _ (by omega) (by omega)⟩) rfl

set_option maxRecDepth 100000 in
set_option maxHeartbeats 4000000 in
theorem k_X7_known {l : Launch} {D : va_G} {t : Nat → ClassId} {ad : Nat → Nat} {σ : zMem} {c : Int} (ok : okX σ) (hc : -2147483648 ≤ c ∧ c < 2147483648) : z_Ci l D t yX7_known cX7_known 2 .int 2 44 0 0 [.ref (ad 0), .int (zI c)] (wX ad t σ) (fun r w => ∃ σ', w = wX ad t σ' ∧ ((¬ (0 ≤ c ∧ c < zN σ) ∧ r = -2 ∧ σ' = σ) ∨ ((0 ≤ c ∧ c < zN σ) ∧ r = 1 ∧ σ' = zS σ 9 (zU (zC 0) c 1000000)))) := by
  refine z_Ci_of (by decide +kernel) [some (.ref (ad 0)), some (.int (zI c))] rfl rfl (Nat.le_of_ble_eq_true rfl) fun K hl hD ht hR hnm C ret => ?_
  subst hl; subst hD; subst ht
  have ok2 := ok
  obtain ⟨⟨hw, hs, ht, h4, h5, h6, hwc, hlc⟩, ⟨h7, hdd⟩, hmp, oS1, oW1, oA1, oT1, oB1⟩ := ok2
  have hN := zHw_N hw
  have hW := hw; unfold zHw at hW
  refine z_aload_n C (z_d dtX7_known_0 0 rfl) rfl ?_
  refine gf_X7_10 C (z_d dtX7_known_0 1 rfl) ?_
  refine z_iload_n C (z_d dtX7_known_0 2 rfl) rfl ?_
  refine z_callV C (z_d dtX7_known_0 3 rfl) (k_X3_hasCell  (by first | assumption | omega) (by first | assumption | omega)) cal_X3_hasCell gw_10_1 rfl 1 3 rfl rfl rfl rfl hR ⟨rfl, rfl, rfl, rfl⟩ rfl (fun r_5 w_5 h_5 => ?_)
  obtain ⟨rfl, h_5⟩ := h_5
  refine z_if_ne (tgt := 14) C (z_d dtX7_known_0 4 rfl) (by decide) (by omega) (fun h_8 => ?_) (fun h_8 => ?_)
  · refine z_aload_n C (z_d dtX7_known_0 7 rfl) rfl ?_
    refine gf_X7_26 C (z_d dtX7_known_0 8 rfl) ?_
    refine z_iload_n C (z_d dtX7_known_0 9 rfl) rfl ?_
    refine z_callVv C (z_d dtX7_known_0 10 rfl) (k_X1_makeKnown  (by omega)) cal_X1_makeKnown gw_20_9 rfl 3 1 rfl rfl rfl rfl hR ⟨rfl, rfl, rfl, rfl⟩ rfl (fun w_19 h_19 => ?_)
    obtain rfl := h_19
    refine z_iconst C (z_d dtX7_known_0 11 rfl) ?_
    exact ret _ _ _ _ (z_d dtX7_known_0 12 rfl) (⟨_, rfl, Or.inr ⟨by omega, rfl, rfl⟩⟩) rfl
  · refine z_bipush C (z_d dtX7_known_0 5 rfl) zb_m2 ?_
    exact ret _ _ _ _ (z_d dtX7_known_0 6 rfl) (⟨σ, rfl, Or.inl ⟨by omega, rfl, rfl⟩⟩) rfl

set_option maxRecDepth 100000 in
set_option maxHeartbeats 4000000 in
theorem k_X7_lead {l : Launch} {D : va_G} {t : Nat → ClassId} {ad : Nat → Nat} {σ : zMem} {n : Int} (ok : okX σ) (hn : -2147483648 ≤ n ∧ n < 2147483648) : z_Ci l D t yX7_lead cX7_lead 3 .int 4 93 0 0 [.ref (ad 0), .int (zI n)] (wX ad t σ) (fun r w => ∃ σ', w = wX ad t σ' ∧ ((¬ (1 ≤ n ∧ n ≤ 20) ∧ r = -2 ∧ σ' = σ) ∨ ((1 ≤ n ∧ n ≤ 20) ∧ zE σ' σ [9, 37, 38] ∧ (∀ c, 0 ≤ c → c < zN σ → σ' 9 c = zLn σ n.toNat c) ∧ r = zCs (zLn σ n.toNat) (zN σ).toNat))) := by
  refine z_Ci_of (by decide +kernel) [some (.ref (ad 0)), some (.int (zI n)), none] rfl rfl (Nat.le_of_ble_eq_true rfl) fun K hl hD ht hR hnm C ret => ?_
  subst hl; subst hD; subst ht
  have ok2 := ok
  obtain ⟨⟨hw, hs, ht, h4, h5, h6, hwc, hlc⟩, ⟨h7, hdd⟩, hmp, oS1, oW1, oA1, oT1, oB1⟩ := ok2
  have hN := zHw_N hw
  have hW := hw; unfold zHw at hW
  have hn := oS_n oS1 hw
  have h9 := oS_9 oS1 hw
  have hlo := zLn_ok hw hs oS1.2.1 oS1.2.2
  refine z_iload_n C (z_d dtX7_lead_0 0 rfl) rfl ?_
  refine z_iconst C (z_d dtX7_lead_0 1 rfl) ?_
  refine z_icmp_lt (tgt := 11) C (z_d dtX7_lead_0 2 rfl) (by decide) (by omega) (fun h_2 => ?_) (fun h_2 => ?_)
  · refine z_bipush C (z_d dtX7_lead_0 6 rfl) zb_m2 ?_
    exact ret _ _ _ _ (z_d dtX7_lead_0 7 rfl) (⟨σ, rfl, Or.inl ⟨by omega, rfl, rfl⟩⟩) rfl
  · refine z_iload_n C (z_d dtX7_lead_0 3 rfl) rfl ?_
    refine z_bipush C (z_d dtX7_lead_0 4 rfl) zb_20 ?_
    refine z_icmp_le (tgt := 14) C (z_d dtX7_lead_0 5 rfl) (by decide) (by omega) (fun h_8 => ?_) (fun h_8 => ?_)
    · refine z_iconst C (z_d dtX7_lead_0 8 rfl) ?_
      refine z_istore_n2 C (z_d dtX7_lead_0 9 rfl) rfl ?_
      have lp_16 : ∀ (N_16 : Nat) (i : Nat) (k : Int) (μ : zMem), (k = i ∧ i ≤ n) → (zE μ σ [9, 37, 38]) → (∀ c, 0 ≤ c → c < zN σ → μ 9 c = zLn σ i c) → (n - i).toNat < N_16 → Gd K 0 0 16 [some (.ref (ad 0)), some (.int (zI n)), some (.int (zI k))] [] (wX ad (z_t K) μ) := by
        intro N_16
        induction N_16 with
        | zero => intro i k μ hi hE hm hm_16; exact absurd hm_16 (Nat.not_lt_zero _)
        | succ N_16 ih_16 =>
          intro i k μ hi hE hm hm_16
          obtain ⟨rfl, hi⟩ := hi
          have eN := zN_E hE (by decide) (by decide) (by decide)
          have hw2 := zHw_E hE (by decide) (by decide) (by decide) hw
          have ht2 := zTb_E hE (by decide) (by decide) (by decide) (by decide) (by decide) (by decide) (by decide) (by decide) ht
          have e3 := hE 3 (by decide)
          have e36 := hE 36 (by decide)
          have h92 : ∀ c : Int, 0 ≤ c → c < ((zN σ).toNat : Int) → 0 ≤ μ 9 c ∧ μ 9 c ≤ 1000000 := fun c a b => by rw [hm c a (by omega)]; exact (hlo i).1 c a (by omega)
          have eL := zLw_c (μ := μ) (σ := zS σ 9 (zLn σ i)) (hE 0 (by decide)) (hE 1 (by decide)) (hE 2 (by decide)) (hE 3 (by decide)) (hE 33 (by decide)) (zN σ).toNat (fun c a b => hm c a (by omega))
          refine z_iload_n C (z_d dtX7_lead_0 10 rfl) rfl ?_
          refine z_iload_n C (z_d dtX7_lead_0 11 rfl) rfl ?_
          refine z_icmp_ge (tgt := 38) C (z_d dtX7_lead_0 12 rfl) (by decide) (by omega) (fun h_18 => ?_) (fun h_18 => ?_)
          · refine z_aload_n C (z_d dtX7_lead_0 20 rfl) rfl ?_
            refine gf_X7_26 C (z_d dtX7_lead_0 21 rfl) ?_
            refine z_callV C (z_d dtX7_lead_0 22 rfl) (k_X1_cellsWithShare (n := (zN σ).toNat) (by rw [e36]; exact hn) h92) cal_X1_cellsWithShare gw_21_14 rfl 3 1 rfl rfl rfl rfl hR ⟨rfl, rfl, rfl, rfl⟩ rfl (fun r_42 w_42 h_42 => ?_)
            obtain ⟨rfl, rfl⟩ := h_42
            rw [zCs_cg (F := μ 9) (G := zLn σ i) _ (fun c a b => hm c a (by omega))]
            exact ret _ _ _ _ (z_d dtX7_lead_0 23 rfl) (⟨_, rfl, Or.inr ⟨by omega, hE, by rw [show n.toNat = i by omega]; exact hm, by rw [show n.toNat = i by omega]⟩⟩) rfl
          · refine z_aload_n C (z_d dtX7_lead_0 13 rfl) rfl ?_
            refine gf_X7_26 C (z_d dtX7_lead_0 14 rfl) ?_
            refine z_aload_n C (z_d dtX7_lead_0 15 rfl) rfl ?_
            refine gf_X7_10 C (z_d dtX7_lead_0 16 rfl) ?_
            refine z_callVv C (z_d dtX7_lead_0 17 rfl) (k_X1_leadOneStep (n := (zN σ).toNat) (by first | assumption | omega) (by first | assumption | omega) (by rw [e3]; exact hs) (by rw [e36]; exact hn) (by rw [eN]; omega) h92) cal_X1_leadOneStep gw_20_22 rfl 3 1 rfl rfl rfl rfl hR ⟨rfl, rfl, rfl, rfl⟩ rfl (fun w_29 h_29 => ?_)
            obtain ⟨σ_29, rfl, hE_29, h_29⟩ := h_29
            refine z_iinc2 C (z_d dtX7_lead_0 18 rfl) rfl ?_
            refine z_goto (tgt := 16) C (z_d dtX7_lead_0 19 rfl) (by decide) ?_
            exact ih_16 (i + 1) _ _ (by omega) (zE_tr (zE_mo hE_29 (by decide)) hE) (fun c a b => by
                  rw [eL] at h_29
                  rw [zLn]
                  unfold zL1
                  rcases h_29 with ⟨p, q⟩ | ⟨p, q⟩
                  · rw [if_pos p, q]; exact hm c a b
                  · rw [if_neg (by omega)]; exact q c a (by omega)) (by omega)
      exact lp_16 _ 0 _ _ (by omega) zE_rf (fun c _ _ => rfl) (Nat.lt_succ_self _)
    · refine z_bipush C (z_d dtX7_lead_0 6 rfl) zb_m2 ?_
      exact ret _ _ _ _ (z_d dtX7_lead_0 7 rfl) (⟨σ, rfl, Or.inl ⟨by omega, rfl, rfl⟩⟩) rfl

set_option maxRecDepth 100000 in
set_option maxHeartbeats 4000000 in
theorem k_X7_hear {l : Launch} {D : va_G} {t : Nat → ClassId} {ad : Nat → Nat} {σ : zMem} {z row o : Int} (ok : okX σ) (hz : -2147483648 ≤ z ∧ z < 2147483648) (hrow : -2147483648 ≤ row ∧ row < 2147483648) (ho : -2147483648 ≤ o ∧ o < 2147483648) : z_Ci l D t yX7_hear cX7_hear 5 .int 5 121 0 0 [.ref (ad 0), .int (zI z), .int (zI row), .int (zI o)] (wX ad t σ) (fun r w => ∃ σ', w = wX ad t σ' ∧ ((¬ ((0 ≤ z ∧ z < 4) ∧ (-4 ≤ o ∧ o ≤ 4)) ∧ r = -2 ∧ σ' = σ) ∨ (((0 ≤ z ∧ z < 4) ∧ (-4 ≤ o ∧ o ≤ 4)) ∧ ((¬ zRp σ z row = 0 ∧ r = -10 - zRp σ z row ∧ σ' = zS σ 19 (zC (zRp σ z row))) ∨ (zRp σ z row = 0 ∧ zSum (zHx σ z row o) (zN σ).toNat ≤ 0 ∧ r = -3 ∧ zE σ' σ [37, 38]) ∨ (zRp σ z row = 0 ∧ 0 < zSum (zHx σ z row o) (zN σ).toNat ∧ zE σ' σ [9, 37, 38] ∧ (∀ c, 0 ≤ c → c < zN σ → σ' 9 c = zWh (zHx σ z row o) (zN σ).toNat c) ∧ r = zCs (zWh (zHx σ z row o) (zN σ).toNat) (zN σ).toNat))))) := by
  refine z_Ci_of (by decide +kernel) [some (.ref (ad 0)), some (.int (zI z)), some (.int (zI row)), some (.int (zI o)), none] rfl rfl (Nat.le_of_ble_eq_true rfl) fun K hl hD ht hR hnm C ret => ?_
  subst hl; subst hD; subst ht
  have ok2 := ok
  obtain ⟨⟨hw, hs, ht, h4, h5, h6, hwc, hlc⟩, ⟨h7, hdd⟩, hmp, oS1, oW1, oA1, oT1, oB1⟩ := ok2
  have hN := zHw_N hw
  have hW := hw; unfold zHw at hW
  have hit := oB1.2.2.2.1
  have h16 := oB1.1
  have hff := oB1.2.1
  have hsz := oB_s oB1
  have h40 := oB1.2.2.2.2
  have hn := oS_n oS1 hw
  have h9 := oS_9 oS1 hw
  have hrp := zRp_b oB1 z row
  refine z_iload_n C (z_d dtX7_hear_0 0 rfl) rfl ?_
  refine z_callS C (z_d dtX7_hear_0 1 rfl) (k_X7_isSheet  (by first | assumption | omega)) cal_X7_isSheet gw_15_9 rfl rfl hR ⟨rfl, rfl, rfl, rfl⟩ rfl (fun r_1 w_1 h_1 => ?_)
  obtain ⟨rfl, h_1⟩ := h_1
  refine z_if_eq (tgt := 18) C (z_d dtX7_hear_0 2 rfl) (by decide) (by omega) (fun h_4 => ?_) (fun h_4 => ?_)
  · refine z_bipush C (z_d dtX7_hear_0 9 rfl) zb_m2 ?_
    exact ret _ _ _ _ (z_d dtX7_hear_0 10 rfl) (⟨σ, rfl, Or.inl ⟨by omega, rfl, rfl⟩⟩) rfl
  · refine z_iload_n C (z_d dtX7_hear_0 3 rfl) rfl ?_
    refine z_bipush C (z_d dtX7_hear_0 4 rfl) zb_m4 ?_
    refine z_icmp_lt (tgt := 18) C (z_d dtX7_hear_0 5 rfl) (by decide) (by omega) (fun h_10 => ?_) (fun h_10 => ?_)
    · refine z_bipush C (z_d dtX7_hear_0 9 rfl) zb_m2 ?_
      exact ret _ _ _ _ (z_d dtX7_hear_0 10 rfl) (⟨σ, rfl, Or.inl ⟨by omega, rfl, rfl⟩⟩) rfl
    · refine z_iload_n C (z_d dtX7_hear_0 6 rfl) rfl ?_
      refine z_iconst C (z_d dtX7_hear_0 7 rfl) ?_
      refine z_icmp_le (tgt := 21) C (z_d dtX7_hear_0 8 rfl) (by decide) (by omega) (fun h_15 => ?_) (fun h_15 => ?_)
      · refine z_aload_n C (z_d dtX7_hear_0 11 rfl) rfl ?_
        refine gf_X7_46 C (z_d dtX7_hear_0 12 rfl) ?_
        refine z_iload_n C (z_d dtX7_hear_0 13 rfl) rfl ?_
        refine al_Xsh C (z_d dtX7_hear_0 14 rfl) (by omega) ?_
        refine z_iload_n C (z_d dtX7_hear_0 15 rfl) rfl ?_
        refine z_callS C (z_d dtX7_hear_0 16 rfl) (k_X7_rowProblem  (by first | assumption | omega) (by first | assumption | omega) (by first | assumption | omega)) cal_X7_rowProblem gw_15_12 rfl rfl hR ⟨rfl, rfl, rfl, rfl⟩ rfl (fun r_28 w_28 h_28 => ?_)
        obtain ⟨rfl, rfl⟩ := h_28
        refine z_istore4 C (z_d dtX7_hear_0 17 rfl) rfl ?_
        refine z_iload C (z_d dtX7_hear_0 18 rfl) rfl ?_
        refine z_if_eq (tgt := 45) C (z_d dtX7_hear_0 19 rfl) (by decide) (by omega) (fun h_35 => ?_) (fun h_35 => ?_)
        · refine z_aload_n C (z_d dtX7_hear_0 24 rfl) rfl ?_
          refine gf_X7_26 C (z_d dtX7_hear_0 25 rfl) ?_
          refine z_aload_n C (z_d dtX7_hear_0 26 rfl) rfl ?_
          refine gf_X7_19 C (z_d dtX7_hear_0 27 rfl) ?_
          refine z_aload_n C (z_d dtX7_hear_0 28 rfl) rfl ?_
          refine gf_X7_46 C (z_d dtX7_hear_0 29 rfl) ?_
          refine z_iload_n C (z_d dtX7_hear_0 30 rfl) rfl ?_
          refine al_Xsh C (z_d dtX7_hear_0 31 rfl) (by omega) ?_
          refine z_iload_n C (z_d dtX7_hear_0 32 rfl) rfl ?_
          refine z_iload_n C (z_d dtX7_hear_0 33 rfl) rfl ?_
          refine z_callV C (z_d dtX7_hear_0 34 rfl) (k_X1_hearRow (n := (zN σ).toNat) (by first | assumption | omega) (by omega) hit (hrp.2 (by omega)) (by first | assumption | omega) (by first | assumption | omega) (by first | assumption | omega) (by omega) (by first | assumption | omega)) cal_X1_hearRow gw_22_7 rfl 3 1 rfl rfl rfl rfl hR ⟨rfl, rfl, rfl, rfl⟩ rfl (fun r_61 w_61 h_61 => ?_)
          obtain ⟨σ_61, rfl, h61⟩ := h_61
          change ((zSum (zHx σ z row o) (zN σ).toNat ≤ 0 ∧ _ ∧ _) ∨ (0 < zSum (zHx σ z row o) (zN σ).toNat ∧ _ ∧ _ ∧ _)) at h61
          have hr61 : r_61 = 0 ∨ r_61 = 1 := h61.elim (fun q => Or.inl q.2.1) (fun q => Or.inr q.2.1)
          refine z_if_eq (tgt := 77) C (z_d dtX7_hear_0 35 rfl) (by decide) (by omega) (fun h_64 => ?_) (fun h_64 => ?_)
          · refine z_bipush C (z_d dtX7_hear_1 0 rfl) zb_m3 ?_
            exact ret _ _ _ _ (z_d dtX7_hear_1 1 rfl) (by
                first
                  | exact ⟨_, rfl, Or.inr ⟨by omega, Or.inr (Or.inr ⟨by omega, h62.1, h62.2.2.1, fun c a b => h62.2.2.2 c a (by omega), rfl⟩)⟩⟩
                  | exact ⟨_, rfl, Or.inr ⟨by omega, Or.inr (Or.inl ⟨by omega, (h61.resolve_right (fun q => by omega)).1, rfl, (h61.resolve_right (fun q => by omega)).2.2⟩)⟩⟩) rfl
          · refine z_aload_n C (z_d dtX7_hear_0 36 rfl) rfl ?_
            refine gf_X7_26 C (z_d dtX7_hear_0 37 rfl) ?_
            have h62 := h61.resolve_left (fun q => h_64 q.2.1)
            have hx0 : ∀ c : Int, 0 ≤ c → c < ((zN σ).toNat : Int) → 0 ≤ zHx σ z row o c := fun c a b => by
              have p := zHm_b (s := z) (row := row) (o := o) hmp 8 c.toNat (n := (zN σ).toNat) (by omega)
              rw [Int.toNat_of_nonneg a] at p
              exact Int.mul_nonneg p.1 (h9 c a b).1
            have hok := zWh_ok hn.2.1 hx0 h62.1
            have e36 := h62.2.2.1 36 (by decide)
            refine z_callV C (z_d dtX7_hear_0 38 rfl) (k_X1_cellsWithShare (n := (zN σ).toNat) (by rw [e36]; exact hn) (fun c a b => by rw [h62.2.2.2 c a b]; exact hok.1 c a b)) cal_X1_cellsWithShare gw_21_14 rfl 3 1 rfl rfl rfl rfl hR ⟨rfl, rfl, rfl, rfl⟩ rfl (fun r_71 w_71 h_71 => ?_)
            obtain ⟨rfl, rfl⟩ := h_71
            rw [zCs_cg (F := σ_61 9) (G := zWh (zHx σ z row o) (zN σ).toNat) _ h62.2.2.2]
            refine z_goto (tgt := 79) C (z_d dtX7_hear_0 39 rfl) (by decide) ?_
            exact ret _ _ _ _ (z_d dtX7_hear_1 1 rfl) (by
                first
                  | exact ⟨_, rfl, Or.inr ⟨by omega, Or.inr (Or.inr ⟨by omega, h62.1, h62.2.2.1, fun c a b => h62.2.2.2 c a (by omega), rfl⟩)⟩⟩
                  | exact ⟨_, rfl, Or.inr ⟨by omega, Or.inr (Or.inl ⟨by omega, (h61.resolve_right (fun q => by omega)).1, rfl, (h61.resolve_right (fun q => by omega)).2.2⟩)⟩⟩) rfl
        · refine z_aload_n C (z_d dtX7_hear_0 20 rfl) rfl ?_
          refine z_iload C (z_d dtX7_hear_0 21 rfl) rfl ?_
          refine z_callV C (z_d dtX7_hear_0 22 rfl) (k_X7_finding  ) cal_X7_finding gw_15_20 rfl 0 7 rfl rfl rfl rfl hR ⟨rfl, rfl, rfl, rfl⟩ rfl (fun r_41 w_41 h_41 => ?_)
          obtain ⟨rfl, rfl⟩ := h_41
          exact ret _ _ _ _ (z_d dtX7_hear_0 23 rfl) (⟨_, rfl, Or.inr ⟨by omega, Or.inl ⟨by omega, rfl, rfl⟩⟩⟩) rfl
      · refine z_bipush C (z_d dtX7_hear_0 9 rfl) zb_m2 ?_
        exact ret _ _ _ _ (z_d dtX7_hear_0 10 rfl) (⟨σ, rfl, Or.inl ⟨by omega, rfl, rfl⟩⟩) rfl

set_option maxRecDepth 100000 in
set_option maxHeartbeats 4000000 in
theorem k_X7_share {l : Launch} {D : va_G} {t : Nat → ClassId} {ad : Nat → Nat} {σ : zMem} {c : Int} (ok : okX σ) (hc : -2147483648 ≤ c ∧ c < 2147483648) : z_Ci l D t yX7_share cX7_share 2 .int 2 41 0 0 [.ref (ad 0), .int (zI c)] (wX ad t σ) (fun r w => w = wX ad t σ ∧ ((¬ (0 ≤ c ∧ c < zN σ) ∧ r = -2) ∨ ((0 ≤ c ∧ c < zN σ) ∧ r = σ 9 c))) := by
  refine z_Ci_of (by decide +kernel) [some (.ref (ad 0)), some (.int (zI c))] rfl rfl (Nat.le_of_ble_eq_true rfl) fun K hl hD ht hR hnm C ret => ?_
  subst hl; subst hD; subst ht
  have ok2 := ok
  obtain ⟨⟨hw, hs, ht, h4, h5, h6, hwc, hlc⟩, ⟨h7, hdd⟩, hmp, oS1, oW1, oA1, oT1, oB1⟩ := ok2
  have hN := zHw_N hw
  have hW := hw; unfold zHw at hW
  refine z_aload_n C (z_d dtX7_share_0 0 rfl) rfl ?_
  refine gf_X7_10 C (z_d dtX7_share_0 1 rfl) ?_
  refine z_iload_n C (z_d dtX7_share_0 2 rfl) rfl ?_
  refine z_callV C (z_d dtX7_share_0 3 rfl) (k_X3_hasCell  (by first | assumption | omega) (by first | assumption | omega)) cal_X3_hasCell gw_10_1 rfl 1 3 rfl rfl rfl rfl hR ⟨rfl, rfl, rfl, rfl⟩ rfl (fun r_5 w_5 h_5 => ?_)
  obtain ⟨rfl, h_5⟩ := h_5
  refine z_if_eq (tgt := 22) C (z_d dtX7_share_0 4 rfl) (by decide) (by omega) (fun h_8 => ?_) (fun h_8 => ?_)
  · refine z_bipush C (z_d dtX7_share_0 10 rfl) zb_m2 ?_
    exact ret _ _ _ _ (z_d dtX7_share_0 11 rfl) (⟨rfl, by
        first | exact Or.inl ⟨by omega, rfl⟩ | exact Or.inr ⟨by omega, rfl⟩⟩) rfl
  · refine z_aload_n C (z_d dtX7_share_0 5 rfl) rfl ?_
    refine gf_X7_26 C (z_d dtX7_share_0 6 rfl) ?_
    refine z_iload_n C (z_d dtX7_share_0 7 rfl) rfl ?_
    refine z_callV C (z_d dtX7_share_0 8 rfl) (k_X1_shareOf  (by omega)) cal_X1_shareOf gw_20_0 rfl 3 1 rfl rfl rfl rfl hR ⟨rfl, rfl, rfl, rfl⟩ rfl (fun r_16 w_16 h_16 => ?_)
    obtain ⟨rfl, rfl⟩ := h_16
    refine z_goto (tgt := 24) C (z_d dtX7_share_0 9 rfl) (by decide) ?_
    exact ret _ _ _ _ (z_d dtX7_share_0 11 rfl) (⟨rfl, by
        first | exact Or.inl ⟨by omega, rfl⟩ | exact Or.inr ⟨by omega, rfl⟩⟩) rfl

set_option maxRecDepth 100000 in
set_option maxHeartbeats 4000000 in
theorem k_X7_likeliest {l : Launch} {D : va_G} {t : Nat → ClassId} {ad : Nat → Nat} {σ : zMem}  (ok : okX σ) : z_Ci l D t yX7_likeliest cX7_likeliest 1 .int 1 22 0 0 [.ref (ad 0)] (wX ad t σ) (fun r w => w = wX ad t σ ∧ r = zMx (σ 9) (zN σ).toNat) := by
  refine z_Ci_of (by decide +kernel) [some (.ref (ad 0))] rfl rfl (Nat.le_of_ble_eq_true rfl) fun K hl hD ht hR hnm C ret => ?_
  subst hl; subst hD; subst ht
  have ok2 := ok
  obtain ⟨⟨hw, hs, ht, h4, h5, h6, hwc, hlc⟩, ⟨h7, hdd⟩, hmp, oS1, oW1, oA1, oT1, oB1⟩ := ok2
  have hN := zHw_N hw
  have hW := hw; unfold zHw at hW
  have hn := oS_n oS1 hw
  have h9 := oS_9 oS1 hw
  refine z_aload_n C (z_d dtX7_likeliest_0 0 rfl) rfl ?_
  refine gf_X7_26 C (z_d dtX7_likeliest_0 1 rfl) ?_
  refine z_callV C (z_d dtX7_likeliest_0 2 rfl) (k_X1_greatestCell (n := (zN σ).toNat) (by first | assumption | omega) (by first | assumption | omega)) cal_X1_greatestCell gw_23_15 rfl 3 1 rfl rfl rfl rfl hR ⟨rfl, rfl, rfl, rfl⟩ rfl (fun r_4 w_4 h_4 => ?_)
  obtain ⟨rfl, rfl⟩ := h_4
  exact ret _ _ _ _ (z_d dtX7_likeliest_0 3 rfl) (⟨rfl, rfl⟩) rfl
