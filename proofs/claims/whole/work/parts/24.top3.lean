/-! THE SYSTEM: its calls, the rest -/
theorem zIp_b {σ : zMem} (h : oB σ) (z f i : Int) : (0 ≤ zIp σ z f i ∧ zIp σ z f i ≤ 3) ∧ (zIp σ z f i = 0 → (0 ≤ i ∧ i < 240) ∧ σ 17 z = f) := by
  have a := h.2.2.1 z
  unfold zIp
  split
  · omega
  · split
    · omega
    · split <;> omega

set_option maxRecDepth 100000 in
set_option maxHeartbeats 4000000 in
theorem k_X7_layOut {l : Launch} {D : va_G} {t : Nat → ClassId} {ad : Nat → Nat} {σ : zMem} {f x y : Int} (hf : ((1 ≤ f ∧ f ≤ 3) ∧ (1 ≤ x ∧ x ≤ 6) ∧ (1 ≤ y ∧ y ≤ 6) ∧ f * x * y ≤ 72)) (hs : 0 ≤ σ 3 0 ∧ σ 3 0 ≤ 9) : z_Cv l D t yX7_layOut cX7_layOut 4 4 92 0 0 [.ref (ad 0), .int (zI f), .int (zI x), .int (zI y)] (wX ad t σ) (fun w => ∃ σ', w = wX ad t σ' ∧ zE σ' σ [0, 1, 2, 4, 5, 6, 8, 9, 10, 12, 31, 32, 33, 36, 37, 38] ∧ σ' 0 = zC f ∧ σ' 1 = zC x ∧ σ' 2 = zC y ∧ σ' 4 = zC 0 ∧ σ' 5 = zC 0 ∧ σ' 6 = zC 0 ∧ σ' 8 = zC 0 ∧ σ' 10 = zC (-1) ∧ σ' 12 = zC 0 ∧ σ' 31 = zC 0 ∧ σ' 32 = zC 0 ∧ σ' 36 = zC (f * x * y) ∧ zTb σ' ∧ ∀ c, 0 ≤ c → c < f * x * y → σ' 9 c = zWh (zC 1) (f * x * y).toNat c) := by
  refine z_Cv_of (by decide +kernel) [some (.ref (ad 0)), some (.int (zI f)), some (.int (zI x)), some (.int (zI y))] rfl rfl (Nat.le_of_ble_eq_true rfl) fun K hl hD ht hR hnm C ret => ?_
  subst hl; subst hD; subst ht
  refine z_aload_n C (z_d dtX7_layOut_0 0 rfl) rfl ?_
  refine gf_X7_10 C (z_d dtX7_layOut_0 1 rfl) ?_
  refine z_iload_n C (z_d dtX7_layOut_0 2 rfl) rfl ?_
  refine z_iload_n C (z_d dtX7_layOut_0 3 rfl) rfl ?_
  refine z_iload_n C (z_d dtX7_layOut_0 4 rfl) rfl ?_
  refine z_callVv C (z_d dtX7_layOut_0 5 rfl) (k_X3_raise  (by first | assumption | omega) (by first | assumption | omega)) cal_X3_raise gw_4_21 rfl 1 3 rfl rfl rfl rfl hR ⟨rfl, rfl, rfl, rfl⟩ rfl (fun w_7 h_7 => ?_)
  obtain ⟨σ_7, rfl, hE7, q0, q1, q2, q31, q32, q4, q5, q6, qT⟩ := h_7
  have hm1 := Int.mul_pos (show 0 < f by omega) (show 0 < x by omega)
  have hm2 := Int.mul_pos hm1 (show 0 < y by omega)
  have eN : zN σ_7 = f * x * y := by unfold zN; rw [q0, q1, q2]; rfl
  refine z_aload_n C (z_d dtX7_layOut_0 6 rfl) rfl ?_
  refine gf_X7_19 C (z_d dtX7_layOut_0 7 rfl) ?_
  refine z_callVv C (z_d dtX7_layOut_0 8 rfl) (k_X4_clear  ) cal_X4_clear gw_6_1 rfl 2 4 rfl rfl rfl rfl hR ⟨rfl, rfl, rfl, rfl⟩ rfl (fun w_14 h_14 => ?_)
  obtain rfl := h_14
  refine z_aload_n C (z_d dtX7_layOut_0 9 rfl) rfl ?_
  refine gf_X7_26 C (z_d dtX7_layOut_0 10 rfl) ?_
  refine z_aload_n C (z_d dtX7_layOut_0 11 rfl) rfl ?_
  refine gf_X7_10 C (z_d dtX7_layOut_0 12 rfl) ?_
  refine z_callV C (z_d dtX7_layOut_0 13 rfl) (k_X3_cells  ) cal_X3_cells gw_6_9 rfl 1 3 rfl rfl rfl rfl hR ⟨rfl, rfl, rfl, rfl⟩ rfl (fun r_25 w_25 h_25 => ?_)
  obtain ⟨rfl, rfl⟩ := h_25
  have eN2 : zN (zS σ_7 8 (zC 0)) = (((f * x * y).toNat : Nat) : Int) := by
    show zN σ_7 = _
    rw [eN]; omega
  refine z_top eN2 ?_
  refine z_callVv C (z_d dtX7_layOut_0 14 rfl) (k_X1_makeAlike  (by first | assumption | omega)) cal_X1_makeAlike gw_6_10 rfl 3 1 rfl rfl rfl rfl hR ⟨rfl, rfl, rfl, rfl⟩ rfl (fun w_28 h_28 => ?_)
  obtain ⟨σ_28, rfl, hE28, q36, q9⟩ := h_28
  refine z_aload_n C (z_d dtX7_layOut_0 15 rfl) rfl ?_
  refine gf_X7_40 C (z_d dtX7_layOut_0 16 rfl) ?_
  refine z_callVv C (z_d dtX7_layOut_0 17 rfl) (k_X2_scatter  ) cal_X2_scatter gw_7_3 rfl 5 2 rfl rfl rfl rfl hR ⟨rfl, rfl, rfl, rfl⟩ rfl (fun w_35 h_35 => ?_)
  obtain rfl := h_35
  exact ret _ _ _ (z_d dtX7_layOut_0 18 rfl) (⟨_, rfl, zE_set (zE_set (zE_tr (zE_mo hE28 (by decide)) (zE_set (zE_mo hE7 (by decide)) (by decide))) (by decide)) (by decide), (hE28 0 (by decide)).trans q0, (hE28 1 (by decide)).trans q1, (hE28 2 (by decide)).trans q2, (hE28 4 (by decide)).trans q4, (hE28 5 (by decide)).trans q5, (hE28 6 (by decide)).trans q6, hE28 8 (by decide), rfl, rfl, (hE28 31 (by decide)).trans q31, (hE28 32 (by decide)).trans q32, (by rw [show f * x * y = (((f * x * y).toNat : Nat) : Int) by omega]; exact q36), (zTb_E (l := [8, 9, 10, 12, 36, 37, 38]) (zE_set (zE_set (zE_tr (zE_mo hE28 (by decide)) (zE_set zE_rf (by decide))) (by decide)) (by decide)) (by decide) (by decide) (by decide) (by decide) (by decide) (by decide) (by decide) (by decide) qT), fun c a b => q9 c a (by omega)⟩)

set_option maxRecDepth 100000 in
set_option maxHeartbeats 4000000 in
theorem k_X7_building {l : Launch} {D : va_G} {t : Nat → ClassId} {ad : Nat → Nat} {σ : zMem} {f x y : Int} (ok : okX σ) (hf : -2147483648 ≤ f ∧ f < 2147483648) (hx : -2147483648 ≤ x ∧ x < 2147483648) (hy : -2147483648 ≤ y ∧ y < 2147483648) : z_Ci l D t yX7_building cX7_building 4 .int 5 115 0 0 [.ref (ad 0), .int (zI f), .int (zI x), .int (zI y)] (wX ad t σ) (fun r w => ∃ σ', w = wX ad t σ' ∧ ((¬ ((1 ≤ f ∧ f ≤ 3) ∧ (1 ≤ x ∧ x ≤ 6) ∧ (1 ≤ y ∧ y ≤ 6) ∧ f * x * y ≤ 72) ∧ r = -2 ∧ σ' = σ) ∨ (((1 ≤ f ∧ f ≤ 3) ∧ (1 ≤ x ∧ x ≤ 6) ∧ (1 ≤ y ∧ y ≤ 6) ∧ f * x * y ≤ 72) ∧ r = f * x * y ∧ zE σ' σ [0, 1, 2, 4, 5, 6, 8, 9, 10, 12, 31, 32, 33, 36, 37, 38] ∧ σ' 0 = zC f ∧ σ' 1 = zC x ∧ σ' 2 = zC y ∧ σ' 4 = zC 0 ∧ σ' 5 = zC 0 ∧ σ' 6 = zC 0 ∧ σ' 8 = zC 0 ∧ σ' 10 = zC (-1) ∧ σ' 12 = zC 0 ∧ σ' 31 = zC 0 ∧ σ' 32 = zC 0 ∧ σ' 36 = zC (f * x * y) ∧ zTb σ' ∧ ∀ c, 0 ≤ c → c < f * x * y → σ' 9 c = zWh (zC 1) (f * x * y).toNat c))) := by
  refine z_Ci_of (by decide +kernel) [some (.ref (ad 0)), some (.int (zI f)), some (.int (zI x)), some (.int (zI y))] rfl rfl (Nat.le_of_ble_eq_true rfl) fun K hl hD ht hR hnm C ret => ?_
  subst hl; subst hD; subst ht
  have ok2 := ok
  obtain ⟨⟨hw, hs, ht, h4, h5, h6, hwc, hlc⟩, ⟨h7, hdd⟩, hmp, oS1, oW1, oA1, oT1, oB1⟩ := ok2
  have hN := zHw_N hw
  have hW := hw; unfold zHw at hW
  refine z_iload_n C (z_d dtX7_building_0 0 rfl) rfl ?_
  refine z_iconst C (z_d dtX7_building_0 1 rfl) ?_
  refine z_icmp_lt (tgt := 32) C (z_d dtX7_building_0 2 rfl) (by decide) (by omega) (fun h_2 => ?_) (fun h_2 => ?_)
  · refine z_bipush C (z_d dtX7_building_0 18 rfl) zb_m2 ?_
    exact ret _ _ _ _ (z_d dtX7_building_0 19 rfl) (⟨σ, rfl, Or.inl ⟨by omega, rfl, rfl⟩⟩) rfl
  · refine z_iload_n C (z_d dtX7_building_0 3 rfl) rfl ?_
    refine z_iconst C (z_d dtX7_building_0 4 rfl) ?_
    refine z_icmp_gt (tgt := 32) C (z_d dtX7_building_0 5 rfl) (by decide) (by omega) (fun h_7 => ?_) (fun h_7 => ?_)
    · refine z_bipush C (z_d dtX7_building_0 18 rfl) zb_m2 ?_
      exact ret _ _ _ _ (z_d dtX7_building_0 19 rfl) (⟨σ, rfl, Or.inl ⟨by omega, rfl, rfl⟩⟩) rfl
    · refine z_iload_n C (z_d dtX7_building_0 6 rfl) rfl ?_
      refine z_iconst C (z_d dtX7_building_0 7 rfl) ?_
      refine z_icmp_lt (tgt := 32) C (z_d dtX7_building_0 8 rfl) (by decide) (by omega) (fun h_12 => ?_) (fun h_12 => ?_)
      · refine z_bipush C (z_d dtX7_building_0 18 rfl) zb_m2 ?_
        exact ret _ _ _ _ (z_d dtX7_building_0 19 rfl) (⟨σ, rfl, Or.inl ⟨by omega, rfl, rfl⟩⟩) rfl
      · refine z_iload_n C (z_d dtX7_building_0 9 rfl) rfl ?_
        refine z_bipush C (z_d dtX7_building_0 10 rfl) zb_6 ?_
        refine z_icmp_gt (tgt := 32) C (z_d dtX7_building_0 11 rfl) (by decide) (by omega) (fun h_18 => ?_) (fun h_18 => ?_)
        · refine z_bipush C (z_d dtX7_building_0 18 rfl) zb_m2 ?_
          exact ret _ _ _ _ (z_d dtX7_building_0 19 rfl) (⟨σ, rfl, Or.inl ⟨by omega, rfl, rfl⟩⟩) rfl
        · refine z_iload_n C (z_d dtX7_building_0 12 rfl) rfl ?_
          refine z_iconst C (z_d dtX7_building_0 13 rfl) ?_
          refine z_icmp_lt (tgt := 32) C (z_d dtX7_building_0 14 rfl) (by decide) (by omega) (fun h_23 => ?_) (fun h_23 => ?_)
          · refine z_bipush C (z_d dtX7_building_0 18 rfl) zb_m2 ?_
            exact ret _ _ _ _ (z_d dtX7_building_0 19 rfl) (⟨σ, rfl, Or.inl ⟨by omega, rfl, rfl⟩⟩) rfl
          · refine z_iload_n C (z_d dtX7_building_0 15 rfl) rfl ?_
            refine z_bipush C (z_d dtX7_building_0 16 rfl) zb_6 ?_
            refine z_icmp_le (tgt := 35) C (z_d dtX7_building_0 17 rfl) (by decide) (by omega) (fun h_29 => ?_) (fun h_29 => ?_)
            · have hp1 := Int.mul_le_mul (show f ≤ 3 by omega) (show x ≤ 6 by omega) (by omega) (by omega)
              have hp0 := Int.mul_pos (show 0 < f by omega) (show 0 < x by omega)
              have hp2 := Int.mul_le_mul hp1 (show y ≤ 6 by omega) (by omega) (by omega)
              have hp3 := Int.mul_pos hp0 (show 0 < y by omega)
              refine z_iload_n C (z_d dtX7_building_0 20 rfl) rfl ?_
              refine z_iload_n C (z_d dtX7_building_0 21 rfl) rfl ?_
              refine z_imul C (z_d dtX7_building_0 22 rfl) ?_
              refine z_iload_n C (z_d dtX7_building_0 23 rfl) rfl ?_
              refine z_imul C (z_d dtX7_building_0 24 rfl) ?_
              refine z_bipush C (z_d dtX7_building_0 25 rfl) zb_72 ?_
              refine z_icmp_le (tgt := 48) C (z_d dtX7_building_0 26 rfl) (by decide) (by omega) (fun h_42 => ?_) (fun h_42 => ?_)
              · refine z_aload_n C (z_d dtX7_building_0 29 rfl) rfl ?_
                refine z_iload_n C (z_d dtX7_building_0 30 rfl) rfl ?_
                refine z_iload_n C (z_d dtX7_building_0 31 rfl) rfl ?_
                refine z_iload_n C (z_d dtX7_building_0 32 rfl) rfl ?_
                refine z_callVv C (z_d dtX7_building_0 33 rfl) (k_X7_layOut  (by omega) hs) cal_X7_layOut gw_4_17 rfl 0 7 rfl rfl rfl rfl hR ⟨rfl, rfl, rfl, rfl⟩ rfl (fun w_52 h_52 => ?_)
                obtain ⟨σ_52, rfl, hL_52⟩ := h_52
                refine z_aload_n C (z_d dtX7_building_0 34 rfl) rfl ?_
                refine gf_X7_10 C (z_d dtX7_building_0 35 rfl) ?_
                refine z_callV C (z_d dtX7_building_0 36 rfl) (k_X3_cells  ) cal_X3_cells gw_6_9 rfl 1 3 rfl rfl rfl rfl hR ⟨rfl, rfl, rfl, rfl⟩ rfl (fun r_59 w_59 h_59 => ?_)
                obtain ⟨rfl, rfl⟩ := h_59
                have eN : zN σ_52 = f * x * y := by unfold zN; rw [hL_52.2.1, hL_52.2.2.1, hL_52.2.2.2.1]; rfl
                exact ret _ _ _ _ (z_d dtX7_building_0 37 rfl) (⟨_, rfl, Or.inr ⟨by omega, eN, hL_52⟩⟩) rfl
              · refine z_bipush C (z_d dtX7_building_0 27 rfl) zb_m2 ?_
                exact ret _ _ _ _ (z_d dtX7_building_0 28 rfl) (⟨σ, rfl, Or.inl ⟨by omega, rfl, rfl⟩⟩) rfl
            · refine z_bipush C (z_d dtX7_building_0 18 rfl) zb_m2 ?_
              exact ret _ _ _ _ (z_d dtX7_building_0 19 rfl) (⟨σ, rfl, Or.inl ⟨by omega, rfl, rfl⟩⟩) rfl

set_option maxRecDepth 100000 in
set_option maxHeartbeats 4000000 in
theorem k_X7_wall {l : Launch} {D : va_G} {t : Nat → ClassId} {ad : Nat → Nat} {σ : zMem} {a b s : Int} (ok : okX σ) (ha : -2147483648 ≤ a ∧ a < 2147483648) (hb : -2147483648 ≤ b ∧ b < 2147483648) (h01 : s = 0 ∨ s = 1) : z_Ci l D t yX7_wall cX7_wall 4 .int 4 92 0 0 [.ref (ad 0), .int (zI a), .int (zI b), .int (zI s)] (wX ad t σ) (fun r w => ∃ σ', w = wX ad t σ' ∧ ((¬ ((0 ≤ a ∧ a < zN σ) ∧ (0 ≤ b ∧ b < zN σ) ∧ (a / (σ 1 0 * σ 2 0) = b / (σ 1 0 * σ 2 0) ∧ ((a % σ 1 0 = b % σ 1 0 ∧ (a / σ 1 0 % σ 2 0 - b / σ 1 0 % σ 2 0 = 1 ∨ a / σ 1 0 % σ 2 0 - b / σ 1 0 % σ 2 0 = -1)) ∨ (a / σ 1 0 % σ 2 0 = b / σ 1 0 % σ 2 0 ∧ (a % σ 1 0 - b % σ 1 0 = 1 ∨ a % σ 1 0 - b % σ 1 0 = -1))))) ∧ r = -2 ∧ σ' = σ) ∨ (((0 ≤ a ∧ a < zN σ) ∧ (0 ≤ b ∧ b < zN σ) ∧ (a / (σ 1 0 * σ 2 0) = b / (σ 1 0 * σ 2 0) ∧ ((a % σ 1 0 = b % σ 1 0 ∧ (a / σ 1 0 % σ 2 0 - b / σ 1 0 % σ 2 0 = 1 ∨ a / σ 1 0 % σ 2 0 - b / σ 1 0 % σ 2 0 = -1)) ∨ (a / σ 1 0 % σ 2 0 = b / σ 1 0 % σ 2 0 ∧ (a % σ 1 0 - b % σ 1 0 = 1 ∨ a % σ 1 0 - b % σ 1 0 = -1))))) ∧ ((σ (zKw σ (min a b) (max a b)) (min a b) = s ∧ r = 0 ∧ σ' = σ) ∨ (¬ σ (zKw σ (min a b) (max a b)) (min a b) = s ∧ r = 1 ∧ zE σ' (zS (zS σ (zKw σ (min a b) (max a b)) (zU (σ (zKw σ (min a b) (max a b))) (min a b) s)) 31 (zC (σ 31 0 + (2 * s - 1)))) [33] ∧ zTb σ'))))) := by
  refine z_Ci_of (by decide +kernel) [some (.ref (ad 0)), some (.int (zI a)), some (.int (zI b)), some (.int (zI s))] rfl rfl (Nat.le_of_ble_eq_true rfl) fun K hl hD ht hR hnm C ret => ?_
  subst hl; subst hD; subst ht
  have ok2 := ok
  obtain ⟨⟨hw, hs, ht, h4, h5, h6, hwc, hlc⟩, ⟨h7, hdd⟩, hmp, oS1, oW1, oA1, oT1, oB1⟩ := ok2
  have hN := zHw_N hw
  have hW := hw; unfold zHw at hW
  refine z_aload_n C (z_d dtX7_wall_0 0 rfl) rfl ?_
  refine gf_X7_10 C (z_d dtX7_wall_0 1 rfl) ?_
  refine z_iload_n C (z_d dtX7_wall_0 2 rfl) rfl ?_
  refine z_callV C (z_d dtX7_wall_0 3 rfl) (k_X3_hasCell  (by first | assumption | omega) (by first | assumption | omega)) cal_X3_hasCell gw_10_1 rfl 1 3 rfl rfl rfl rfl hR ⟨rfl, rfl, rfl, rfl⟩ rfl (fun r_5 w_5 h_5 => ?_)
  obtain ⟨rfl, h_5⟩ := h_5
  refine z_if_eq (tgt := 34) C (z_d dtX7_wall_0 4 rfl) (by decide) (by omega) (fun h_8 => ?_) (fun h_8 => ?_)
  · refine z_bipush C (z_d dtX7_wall_0 16 rfl) zb_m2 ?_
    exact ret _ _ _ _ (z_d dtX7_wall_0 17 rfl) (⟨σ, rfl, Or.inl ⟨by omega, rfl, rfl⟩⟩) rfl
  · refine z_aload_n C (z_d dtX7_wall_0 5 rfl) rfl ?_
    refine gf_X7_10 C (z_d dtX7_wall_0 6 rfl) ?_
    refine z_iload_n C (z_d dtX7_wall_0 7 rfl) rfl ?_
    refine z_callV C (z_d dtX7_wall_0 8 rfl) (k_X3_hasCell  (by first | assumption | omega) (by first | assumption | omega)) cal_X3_hasCell gw_10_1 rfl 1 3 rfl rfl rfl rfl hR ⟨rfl, rfl, rfl, rfl⟩ rfl (fun r_16 w_16 h_16 => ?_)
    obtain ⟨rfl, h_16⟩ := h_16
    refine z_if_eq (tgt := 34) C (z_d dtX7_wall_0 9 rfl) (by decide) (by omega) (fun h_19 => ?_) (fun h_19 => ?_)
    · refine z_bipush C (z_d dtX7_wall_0 16 rfl) zb_m2 ?_
      exact ret _ _ _ _ (z_d dtX7_wall_0 17 rfl) (⟨σ, rfl, Or.inl ⟨by omega, rfl, rfl⟩⟩) rfl
    · refine z_aload_n C (z_d dtX7_wall_0 10 rfl) rfl ?_
      refine gf_X7_10 C (z_d dtX7_wall_0 11 rfl) ?_
      refine z_iload_n C (z_d dtX7_wall_0 12 rfl) rfl ?_
      refine z_iload_n C (z_d dtX7_wall_0 13 rfl) rfl ?_
      refine z_callV C (z_d dtX7_wall_0 14 rfl) (k_X3_areBeside  (by first | assumption | omega) (by omega) (by omega)) cal_X3_areBeside gw_10_5 rfl 1 3 rfl rfl rfl rfl hR ⟨rfl, rfl, rfl, rfl⟩ rfl (fun r_28 w_28 h_28 => ?_)
      obtain ⟨rfl, h_28⟩ := h_28
      refine z_if_ne (tgt := 37) C (z_d dtX7_wall_0 15 rfl) (by decide) (by omega) (fun h_31 => ?_) (fun h_31 => ?_)
      · have hwc2 : ((0 ≤ a ∧ a < zN σ) ∧ (0 ≤ b ∧ b < zN σ) ∧ (a / (σ 1 0 * σ 2 0) = b / (σ 1 0 * σ 2 0) ∧ ((a % σ 1 0 = b % σ 1 0 ∧ (a / σ 1 0 % σ 2 0 - b / σ 1 0 % σ 2 0 = 1 ∨ a / σ 1 0 % σ 2 0 - b / σ 1 0 % σ 2 0 = -1)) ∨ (a / σ 1 0 % σ 2 0 = b / σ 1 0 % σ 2 0 ∧ (a % σ 1 0 - b % σ 1 0 = 1 ∨ a % σ 1 0 - b % σ 1 0 = -1))))) := by omega
        refine z_aload_n C (z_d dtX7_wall_0 18 rfl) rfl ?_
        refine gf_X7_10 C (z_d dtX7_wall_0 19 rfl) ?_
        refine z_iload_n C (z_d dtX7_wall_0 20 rfl) rfl ?_
        refine z_iload_n C (z_d dtX7_wall_0 21 rfl) rfl ?_
        refine z_mminP C (z_d dtX7_wall_0 22 rfl) gw_9_18 gw_9_19 gw_9_20 gw_9_21 rfl (by rw [hR]; exact Nat.le_of_ble_eq_true rfl) (by rw [hR]; exact Nat.le_of_ble_eq_true rfl) (by rw [hR]; exact Nat.le_refl _) (by rw [hR]; exact Nat.le_refl _) (by omega) (fun m_43 h_43 => ?_)
        refine z_iload_n C (z_d dtX7_wall_0 23 rfl) rfl ?_
        refine z_iload_n C (z_d dtX7_wall_0 24 rfl) rfl ?_
        refine z_mmaxP C (z_d dtX7_wall_0 25 rfl) gw_9_22 gw_9_23 gw_9_20 gw_10_0 rfl (by rw [hR]; exact Nat.le_of_ble_eq_true rfl) (by rw [hR]; exact Nat.le_of_ble_eq_true rfl) (by rw [hR]; exact Nat.le_refl _) (by rw [hR]; exact Nat.le_refl _) (by omega) (fun m_48 h_48 => ?_)
        obtain rfl : m_43 = min a b := by omega
        obtain rfl : m_48 = max a b := by omega
        refine z_iload_n C (z_d dtX7_wall_0 26 rfl) rfl ?_
        refine z_callV C (z_d dtX7_wall_0 27 rfl) (k_X3_putWall  (by first | assumption | omega) (by omega) (by omega) (by first | assumption | omega) (by first | assumption | omega) (by first | assumption | omega) (by first | assumption | omega) (by first | assumption | omega)) cal_X3_putWall gw_10_12 rfl 1 3 rfl rfl rfl rfl hR ⟨rfl, rfl, rfl, rfl⟩ rfl (fun r_52 w_52 h_52 => ?_)
        obtain ⟨σ_52, rfl, h_52⟩ := h_52
        exact ret _ _ _ _ (z_d dtX7_wall_0 28 rfl) (⟨_, rfl, Or.inr ⟨hwc2, h_52⟩⟩) rfl
      · refine z_bipush C (z_d dtX7_wall_0 16 rfl) zb_m2 ?_
        exact ret _ _ _ _ (z_d dtX7_wall_0 17 rfl) (⟨σ, rfl, Or.inl ⟨by omega, rfl, rfl⟩⟩) rfl

set_option maxRecDepth 100000 in
set_option maxHeartbeats 4000000 in
theorem k_X7_lift {l : Launch} {D : va_G} {t : Nat → ClassId} {ad : Nat → Nat} {σ : zMem} {x y s : Int} (ok : okX σ) (hx : -2147483648 ≤ x ∧ x < 2147483648) (hy : -2147483648 ≤ y ∧ y < 2147483648) (h01 : s = 0 ∨ s = 1) : z_Ci l D t yX7_lift cX7_lift 4 .int 4 92 0 0 [.ref (ad 0), .int (zI x), .int (zI y), .int (zI s)] (wX ad t σ) (fun r w => ∃ σ', w = wX ad t σ' ∧ ((¬ ((0 ≤ x ∧ x < σ 1 0) ∧ (0 ≤ y ∧ y < σ 2 0)) ∧ r = -2 ∧ σ' = σ) ∨ (((0 ≤ x ∧ x < σ 1 0) ∧ (0 ≤ y ∧ y < σ 2 0)) ∧ ((σ 6 (y * σ 1 0 + x) = s ∧ r = 0 ∧ σ' = σ) ∨ (¬ σ 6 (y * σ 1 0 + x) = s ∧ r = 1 ∧ zE σ' (zS (zS σ 6 (zU (σ 6) (y * σ 1 0 + x) s)) 32 (zC (σ 32 0 + (2 * s - 1)))) [33] ∧ zTb σ'))))) := by
  refine z_Ci_of (by decide +kernel) [some (.ref (ad 0)), some (.int (zI x)), some (.int (zI y)), some (.int (zI s))] rfl rfl (Nat.le_of_ble_eq_true rfl) fun K hl hD ht hR hnm C ret => ?_
  subst hl; subst hD; subst ht
  have ok2 := ok
  obtain ⟨⟨hw, hs, ht, h4, h5, h6, hwc, hlc⟩, ⟨h7, hdd⟩, hmp, oS1, oW1, oA1, oT1, oB1⟩ := ok2
  have hN := zHw_N hw
  have hW := hw; unfold zHw at hW
  refine z_aload_n C (z_d dtX7_lift_0 0 rfl) rfl ?_
  refine gf_X7_10 C (z_d dtX7_lift_0 1 rfl) ?_
  refine z_iload_n C (z_d dtX7_lift_0 2 rfl) rfl ?_
  refine z_iload_n C (z_d dtX7_lift_0 3 rfl) rfl ?_
  refine z_callV C (z_d dtX7_lift_0 4 rfl) (k_X3_hasPlace  (by first | assumption | omega) (by first | assumption | omega) (by first | assumption | omega)) cal_X3_hasPlace gw_12_0 rfl 1 3 rfl rfl rfl rfl hR ⟨rfl, rfl, rfl, rfl⟩ rfl (fun r_6 w_6 h_6 => ?_)
  obtain ⟨rfl, h_6⟩ := h_6
  refine z_if_ne (tgt := 15) C (z_d dtX7_lift_0 5 rfl) (by decide) (by omega) (fun h_9 => ?_) (fun h_9 => ?_)
  · have hpl : ((0 ≤ x ∧ x < σ 1 0) ∧ (0 ≤ y ∧ y < σ 2 0)) := by omega
    refine z_aload_n C (z_d dtX7_lift_0 8 rfl) rfl ?_
    refine gf_X7_10 C (z_d dtX7_lift_0 9 rfl) ?_
    refine z_iload_n C (z_d dtX7_lift_0 10 rfl) rfl ?_
    refine z_iload_n C (z_d dtX7_lift_0 11 rfl) rfl ?_
    refine z_iload_n C (z_d dtX7_lift_0 12 rfl) rfl ?_
    refine z_callV C (z_d dtX7_lift_0 13 rfl) (k_X3_putLift  (by first | assumption | omega) hpl.1 hpl.2 (by first | assumption | omega) (by first | assumption | omega) (by first | assumption | omega) (by first | assumption | omega) (by first | assumption | omega)) cal_X3_putLift gw_12_4 rfl 1 3 rfl rfl rfl rfl hR ⟨rfl, rfl, rfl, rfl⟩ rfl (fun r_22 w_22 h_22 => ?_)
    obtain ⟨σ_22, rfl, h_22⟩ := h_22
    exact ret _ _ _ _ (z_d dtX7_lift_0 14 rfl) (⟨_, rfl, Or.inr ⟨hpl, h_22⟩⟩) rfl
  · refine z_bipush C (z_d dtX7_lift_0 6 rfl) zb_m2 ?_
    exact ret _ _ _ _ (z_d dtX7_lift_0 7 rfl) (⟨σ, rfl, Or.inl ⟨by omega, rfl, rfl⟩⟩) rfl

set_option maxRecDepth 100000 in
set_option maxHeartbeats 4000000 in
theorem k_X7_sure {l : Launch} {D : va_G} {t : Nat → ClassId} {ad : Nat → Nat} {σ : zMem} {q : Int} (ok : okX σ) (hq : -2147483648 ≤ q ∧ q < 2147483648) : z_Ci l D t yX7_sure cX7_sure 2 .int 1 26 0 0 [.ref (ad 0), .int (zI q)] (wX ad t σ) (fun r w => ∃ σ', w = wX ad t σ' ∧ ((¬ (0 ≤ q ∧ q ≤ 1000000) ∧ r = -2 ∧ σ' = σ) ∨ ((0 ≤ q ∧ q ≤ 1000000) ∧ zE σ' σ [38] ∧ ∃ k : Nat, r = k ∧ k ≤ (zN σ).toNat ∧ (∀ j : Nat, j < k → (zTk (σ 9) (zN σ).toNat j).1 < q) ∧ (q ≤ (zTk (σ 9) (zN σ).toNat k).1 ∨ k = (zN σ).toNat)))) := by
  refine z_Ci_of (by decide +kernel) [some (.ref (ad 0)), some (.int (zI q))] rfl rfl (Nat.le_of_ble_eq_true rfl) fun K hl hD ht hR hnm C ret => ?_
  subst hl; subst hD; subst ht
  have ok2 := ok
  obtain ⟨⟨hw, hs, ht, h4, h5, h6, hwc, hlc⟩, ⟨h7, hdd⟩, hmp, oS1, oW1, oA1, oT1, oB1⟩ := ok2
  have hN := zHw_N hw
  have hW := hw; unfold zHw at hW
  have hn := oS_n oS1 hw
  have h9 := oS_9 oS1 hw
  refine z_iload_n C (z_d dtX7_sure_0 0 rfl) rfl ?_
  refine z_if_lt (tgt := 10) C (z_d dtX7_sure_0 1 rfl) (by decide) (by omega) (fun h_1 => ?_) (fun h_1 => ?_)
  · refine z_bipush C (z_d dtX7_sure_0 5 rfl) zb_m2 ?_
    exact ret _ _ _ _ (z_d dtX7_sure_0 6 rfl) (⟨σ, rfl, Or.inl ⟨by omega, rfl, rfl⟩⟩) rfl
  · refine z_iload_n C (z_d dtX7_sure_0 2 rfl) rfl ?_
    refine z_ldc C gk_RX7_166 (z_d dtX7_sure_0 3 rfl) ?_
    refine z_icmp_le (tgt := 13) C (z_d dtX7_sure_0 4 rfl) (by decide) (by omega) (fun h_7 => ?_) (fun h_7 => ?_)
    · have hqq : 0 ≤ q ∧ q ≤ 1000000 := by omega
      refine z_aload_n C (z_d dtX7_sure_0 7 rfl) rfl ?_
      refine gf_X7_26 C (z_d dtX7_sure_0 8 rfl) ?_
      refine z_iload_n C (z_d dtX7_sure_0 9 rfl) rfl ?_
      refine z_callV C (z_d dtX7_sure_0 10 rfl) (k_X1_fewestCellsWith (n := (zN σ).toNat) (by first | assumption | omega) (by first | assumption | omega) (by first | assumption | omega)) cal_X1_fewestCellsWith gw_25_5 rfl 3 1 rfl rfl rfl rfl hR ⟨rfl, rfl, rfl, rfl⟩ rfl (fun r_18 w_18 h_18 => ?_)
      obtain ⟨σ_18, rfl, hE_18, h_18⟩ := h_18
      exact ret _ _ _ _ (z_d dtX7_sure_0 11 rfl) (⟨_, rfl, Or.inr ⟨hqq, hE_18, h_18⟩⟩) rfl
    · refine z_bipush C (z_d dtX7_sure_0 5 rfl) zb_m2 ?_
      exact ret _ _ _ _ (z_d dtX7_sure_0 6 rfl) (⟨σ, rfl, Or.inl ⟨by omega, rfl, rfl⟩⟩) rfl

set_option maxRecDepth 100000 in
set_option maxHeartbeats 4000000 in
theorem k_X7_way {l : Launch} {D : va_G} {t : Nat → ClassId} {ad : Nat → Nat} {σ : zMem} {i : Int} (ok : okX σ) (hi : -2147483648 ≤ i ∧ i < 2147483648) : z_Ci l D t yX7_way cX7_way 2 .int 0 0 0 0 [.ref (ad 0), .int (zI i)] (wX ad t σ) (fun r w => w = wX ad t σ ∧ ((¬ (0 ≤ i ∧ i < σ 14 0) ∧ r = -2) ∨ ((0 ≤ i ∧ i < σ 14 0) ∧ r = σ 15 i))) := by
  refine z_Ci_of (by decide +kernel) [some (.ref (ad 0)), some (.int (zI i))] rfl rfl (Nat.le_of_ble_eq_true rfl) fun K hl hD ht hR hnm C ret => ?_
  subst hl; subst hD; subst ht
  have ok2 := ok
  obtain ⟨⟨hw, hs, ht, h4, h5, h6, hwc, hlc⟩, ⟨h7, hdd⟩, hmp, oS1, oW1, oA1, oT1, oB1⟩ := ok2
  have hN := zHw_N hw
  have hW := hw; unfold zHw at hW
  unfold oT at oT1
  refine z_iload_n C (z_d dtX7_way_0 0 rfl) rfl ?_
  refine z_if_lt (tgt := 21) C (z_d dtX7_way_0 1 rfl) (by decide) (by omega) (fun h_1 => ?_) (fun h_1 => ?_)
  · refine z_bipush C (z_d dtX7_way_0 11 rfl) zb_m2 ?_
    exact ret _ _ _ _ (z_d dtX7_way_0 12 rfl) (⟨rfl, by
        first | exact Or.inl ⟨by omega, rfl⟩ | exact Or.inr ⟨by omega, rfl⟩⟩) rfl
  · refine z_iload_n C (z_d dtX7_way_0 2 rfl) rfl ?_
    refine z_aload_n C (z_d dtX7_way_0 3 rfl) rfl ?_
    refine gf_X7_55 C (z_d dtX7_way_0 4 rfl) ?_
    refine z_icmp_ge (tgt := 21) C (z_d dtX7_way_0 5 rfl) (by decide) (by omega) (fun h_9 => ?_) (fun h_9 => ?_)
    · refine z_bipush C (z_d dtX7_way_0 11 rfl) zb_m2 ?_
      exact ret _ _ _ _ (z_d dtX7_way_0 12 rfl) (⟨rfl, by
          first | exact Or.inl ⟨by omega, rfl⟩ | exact Or.inr ⟨by omega, rfl⟩⟩) rfl
    · refine z_aload_n C (z_d dtX7_way_0 6 rfl) rfl ?_
      refine gf_X7_51 C (z_d dtX7_way_0 7 rfl) ?_
      refine z_iload_n C (z_d dtX7_way_0 8 rfl) rfl ?_
      refine al_X7 C (z_d dtX7_way_0 9 rfl) (by omega) ?_
      refine z_goto (tgt := 23) C (z_d dtX7_way_0 10 rfl) (by decide) ?_
      exact ret _ _ _ _ (z_d dtX7_way_0 12 rfl) (⟨rfl, by
          first | exact Or.inl ⟨by omega, rfl⟩ | exact Or.inr ⟨by omega, rfl⟩⟩) rfl

set_option maxRecDepth 100000 in
set_option maxHeartbeats 4000000 in
theorem k_X7_put {l : Launch} {D : va_G} {t : Nat → ClassId} {ad : Nat → Nat} {σ : zMem} {k c : Int} (ok : okX σ) (hk : -2147483648 ≤ k ∧ k < 2147483648) (hc : -2147483648 ≤ c ∧ c < 2147483648) : z_Ci l D t yX7_put cX7_put 3 .int 2 41 0 0 [.ref (ad 0), .int (zI k), .int (zI c)] (wX ad t σ) (fun r w => ∃ σ', w = wX ad t σ' ∧ ((¬ ((0 ≤ k ∧ k < 20) ∧ (c = -1 ∨ (0 ≤ c ∧ c < zN σ))) ∧ r = -2 ∧ σ' = σ) ∨ (((0 ≤ k ∧ k < 20) ∧ (c = -1 ∨ (0 ≤ c ∧ c < zN σ))) ∧ r = σ 10 k ∧ σ' = zS (zS σ 10 (zU (σ 10) k c)) 12 (zC 0)))) := by
  refine z_Ci_of (by decide +kernel) [some (.ref (ad 0)), some (.int (zI k)), some (.int (zI c))] rfl rfl (Nat.le_of_ble_eq_true rfl) fun K hl hD ht hR hnm C ret => ?_
  subst hl; subst hD; subst ht
  have ok2 := ok
  obtain ⟨⟨hw, hs, ht, h4, h5, h6, hwc, hlc⟩, ⟨h7, hdd⟩, hmp, oS1, oW1, oA1, oT1, oB1⟩ := ok2
  have hN := zHw_N hw
  have hW := hw; unfold zHw at hW
  refine z_iload_n C (z_d dtX7_put_0 0 rfl) rfl ?_
  refine z_if_lt (tgt := 26) C (z_d dtX7_put_0 1 rfl) (by decide) (by omega) (fun h_1 => ?_) (fun h_1 => ?_)
  · refine z_bipush C (z_d dtX7_put_0 13 rfl) zb_m2 ?_
    exact ret _ _ _ _ (z_d dtX7_put_0 14 rfl) (⟨σ, rfl, Or.inl ⟨by omega, rfl, rfl⟩⟩) rfl
  · refine z_iload_n C (z_d dtX7_put_0 2 rfl) rfl ?_
    refine z_bipush C (z_d dtX7_put_0 3 rfl) zb_20 ?_
    refine z_icmp_ge (tgt := 26) C (z_d dtX7_put_0 4 rfl) (by decide) (by omega) (fun h_7 => ?_) (fun h_7 => ?_)
    · refine z_bipush C (z_d dtX7_put_0 13 rfl) zb_m2 ?_
      exact ret _ _ _ _ (z_d dtX7_put_0 14 rfl) (⟨σ, rfl, Or.inl ⟨by omega, rfl, rfl⟩⟩) rfl
    · refine z_iload_n C (z_d dtX7_put_0 5 rfl) rfl ?_
      refine z_iconst C (z_d dtX7_put_0 6 rfl) ?_
      refine z_icmp_eq (tgt := 29) C (z_d dtX7_put_0 7 rfl) (by decide) (by omega) (fun h_12 => ?_) (fun h_12 => ?_)
      · refine z_aload_n C (z_d dtX7_put_0 15 rfl) rfl ?_
        refine gf_X7_40 C (z_d dtX7_put_0 16 rfl) ?_
        refine z_iload_n C (z_d dtX7_put_0 17 rfl) rfl ?_
        refine z_iload_n C (z_d dtX7_put_0 18 rfl) rfl ?_
        refine z_callV C (z_d dtX7_put_0 19 rfl) (k_X2_move  (by omega)) cal_X2_move gw_29_8 rfl 5 2 rfl rfl rfl rfl hR ⟨rfl, rfl, rfl, rfl⟩ rfl (fun r_35 w_35 h_35 => ?_)
        obtain ⟨rfl, rfl⟩ := h_35
        exact ret _ _ _ _ (z_d dtX7_put_0 20 rfl) (⟨_, rfl, Or.inr ⟨by omega, rfl, rfl⟩⟩) rfl
      · refine z_aload_n C (z_d dtX7_put_0 8 rfl) rfl ?_
        refine gf_X7_10 C (z_d dtX7_put_0 9 rfl) ?_
        refine z_iload_n C (z_d dtX7_put_0 10 rfl) rfl ?_
        refine z_callV C (z_d dtX7_put_0 11 rfl) (k_X3_hasCell  (by first | assumption | omega) (by first | assumption | omega)) cal_X3_hasCell gw_10_1 rfl 1 3 rfl rfl rfl rfl hR ⟨rfl, rfl, rfl, rfl⟩ rfl (fun r_20 w_20 h_20 => ?_)
        obtain ⟨rfl, h_20⟩ := h_20
        refine z_if_ne (tgt := 29) C (z_d dtX7_put_0 12 rfl) (by decide) (by omega) (fun h_23 => ?_) (fun h_23 => ?_)
        · refine z_aload_n C (z_d dtX7_put_0 15 rfl) rfl ?_
          refine gf_X7_40 C (z_d dtX7_put_0 16 rfl) ?_
          refine z_iload_n C (z_d dtX7_put_0 17 rfl) rfl ?_
          refine z_iload_n C (z_d dtX7_put_0 18 rfl) rfl ?_
          refine z_callV C (z_d dtX7_put_0 19 rfl) (k_X2_move  (by omega)) cal_X2_move gw_29_8 rfl 5 2 rfl rfl rfl rfl hR ⟨rfl, rfl, rfl, rfl⟩ rfl (fun r_35 w_35 h_35 => ?_)
          obtain ⟨rfl, rfl⟩ := h_35
          exact ret _ _ _ _ (z_d dtX7_put_0 20 rfl) (⟨_, rfl, Or.inr ⟨by omega, rfl, rfl⟩⟩) rfl
        · refine z_bipush C (z_d dtX7_put_0 13 rfl) zb_m2 ?_
          exact ret _ _ _ _ (z_d dtX7_put_0 14 rfl) (⟨σ, rfl, Or.inl ⟨by omega, rfl, rfl⟩⟩) rfl

set_option maxRecDepth 100000 in
set_option maxHeartbeats 4000000 in
theorem k_X7_least {l : Launch} {D : va_G} {t : Nat → ClassId} {ad : Nat → Nat} {σ : zMem} {n : Int} (ok : okX σ) (hn : -2147483648 ≤ n ∧ n < 2147483648) : z_Ci l D t yX7_least cX7_least 2 .int 1 22 0 0 [.ref (ad 0), .int (zI n)] (wX ad t σ) (fun r w => ∃ σ', w = wX ad t σ' ∧ ((¬ (1 ≤ n ∧ n ≤ 20) ∧ r = -2 ∧ σ' = σ) ∨ ((1 ≤ n ∧ n ≤ 20) ∧ r = σ 11 0 ∧ σ' = zS (zS σ 11 (zC n)) 12 (zC 0)))) := by
  refine z_Ci_of (by decide +kernel) [some (.ref (ad 0)), some (.int (zI n))] rfl rfl (Nat.le_of_ble_eq_true rfl) fun K hl hD ht hR hnm C ret => ?_
  subst hl; subst hD; subst ht
  have ok2 := ok
  obtain ⟨⟨hw, hs, ht, h4, h5, h6, hwc, hlc⟩, ⟨h7, hdd⟩, hmp, oS1, oW1, oA1, oT1, oB1⟩ := ok2
  have hN := zHw_N hw
  have hW := hw; unfold zHw at hW
  refine z_iload_n C (z_d dtX7_least_0 0 rfl) rfl ?_
  refine z_iconst C (z_d dtX7_least_0 1 rfl) ?_
  refine z_icmp_lt (tgt := 11) C (z_d dtX7_least_0 2 rfl) (by decide) (by omega) (fun h_2 => ?_) (fun h_2 => ?_)
  · refine z_bipush C (z_d dtX7_least_0 6 rfl) zb_m2 ?_
    exact ret _ _ _ _ (z_d dtX7_least_0 7 rfl) (⟨σ, rfl, Or.inl ⟨by omega, rfl, rfl⟩⟩) rfl
  · refine z_iload_n C (z_d dtX7_least_0 3 rfl) rfl ?_
    refine z_bipush C (z_d dtX7_least_0 4 rfl) zb_20 ?_
    refine z_icmp_le (tgt := 14) C (z_d dtX7_least_0 5 rfl) (by decide) (by omega) (fun h_8 => ?_) (fun h_8 => ?_)
    · refine z_aload_n C (z_d dtX7_least_0 8 rfl) rfl ?_
      refine gf_X7_40 C (z_d dtX7_least_0 9 rfl) ?_
      refine z_iload_n C (z_d dtX7_least_0 10 rfl) rfl ?_
      refine z_callV C (z_d dtX7_least_0 11 rfl) (k_X2_putLeast  ) cal_X2_putLeast gw_29_20 rfl 5 2 rfl rfl rfl rfl hR ⟨rfl, rfl, rfl, rfl⟩ rfl (fun r_19 w_19 h_19 => ?_)
      obtain ⟨rfl, rfl⟩ := h_19
      exact ret _ _ _ _ (z_d dtX7_least_0 12 rfl) (⟨_, rfl, Or.inr ⟨by omega, rfl, rfl⟩⟩) rfl
    · refine z_bipush C (z_d dtX7_least_0 6 rfl) zb_m2 ?_
      exact ret _ _ _ _ (z_d dtX7_least_0 7 rfl) (⟨σ, rfl, Or.inl ⟨by omega, rfl, rfl⟩⟩) rfl

set_option maxRecDepth 100000 in
set_option maxHeartbeats 4000000 in
theorem k_X7_sheet {l : Launch} {D : va_G} {t : Nat → ClassId} {ad : Nat → Nat} {σ : zMem} {z f n : Int} (ok : okX σ) (hz : -2147483648 ≤ z ∧ z < 2147483648) (hf : -2147483648 ≤ f ∧ f < 2147483648) (hn : -2147483648 ≤ n ∧ n < 2147483648) : z_Ci l D t yX7_sheet cX7_sheet 4 .int 2 45 0 0 [.ref (ad 0), .int (zI z), .int (zI f), .int (zI n)] (wX ad t σ) (fun r w => ∃ σ', w = wX ad t σ' ∧ ((¬ ((0 ≤ z ∧ z < 4) ∧ (0 ≤ f ∧ f < 3) ∧ n ≤ 240) ∧ r = -2 ∧ σ' = σ) ∨ (((0 ≤ z ∧ z < 4) ∧ (0 ≤ f ∧ f < 3) ∧ n ≤ 240) ∧ ((n < 0 ∧ r = -15 ∧ σ' = zS σ 19 (zC 5)) ∨ (0 ≤ n ∧ r = n ∧ σ' = zS (zS (zS (zS σ 16 (zU (σ 16) z 1)) 17 (zU (σ 17) z f)) 40 (zU (σ 40) z n)) 20 (fun i => if 240 * z ≤ i ∧ i < 240 * z + 240 then 0 else σ 20 i)))))) := by
  refine z_Ci_of (by decide +kernel) [some (.ref (ad 0)), some (.int (zI z)), some (.int (zI f)), some (.int (zI n))] rfl rfl (Nat.le_of_ble_eq_true rfl) fun K hl hD ht hR hnm C ret => ?_
  subst hl; subst hD; subst ht
  have ok2 := ok
  obtain ⟨⟨hw, hs, ht, h4, h5, h6, hwc, hlc⟩, ⟨h7, hdd⟩, hmp, oS1, oW1, oA1, oT1, oB1⟩ := ok2
  have hN := zHw_N hw
  have hW := hw; unfold zHw at hW
  refine z_iload_n C (z_d dtX7_sheet_0 0 rfl) rfl ?_
  refine z_callS C (z_d dtX7_sheet_0 1 rfl) (k_X7_isSheet  (by first | assumption | omega)) cal_X7_isSheet gw_15_9 rfl rfl hR ⟨rfl, rfl, rfl, rfl⟩ rfl (fun r_1 w_1 h_1 => ?_)
  obtain ⟨rfl, h_1⟩ := h_1
  refine z_if_eq (tgt := 21) C (z_d dtX7_sheet_0 2 rfl) (by decide) (by omega) (fun h_4 => ?_) (fun h_4 => ?_)
  · refine z_bipush C (z_d dtX7_sheet_0 9 rfl) zb_m2 ?_
    exact ret _ _ _ _ (z_d dtX7_sheet_0 10 rfl) (⟨σ, rfl, Or.inl ⟨by omega, rfl, rfl⟩⟩) rfl
  · refine z_iload_n C (z_d dtX7_sheet_0 3 rfl) rfl ?_
    refine z_callS C (z_d dtX7_sheet_0 4 rfl) (k_X7_isForm  (by first | assumption | omega)) cal_X7_isForm gw_32_22 rfl rfl hR ⟨rfl, rfl, rfl, rfl⟩ rfl (fun r_8 w_8 h_8 => ?_)
    obtain ⟨rfl, h_8⟩ := h_8
    refine z_if_eq (tgt := 21) C (z_d dtX7_sheet_0 5 rfl) (by decide) (by omega) (fun h_11 => ?_) (fun h_11 => ?_)
    · refine z_bipush C (z_d dtX7_sheet_0 9 rfl) zb_m2 ?_
      exact ret _ _ _ _ (z_d dtX7_sheet_0 10 rfl) (⟨σ, rfl, Or.inl ⟨by omega, rfl, rfl⟩⟩) rfl
    · refine z_iload_n C (z_d dtX7_sheet_0 6 rfl) rfl ?_
      refine z_sipush C (z_d dtX7_sheet_0 7 rfl) zs_240 ?_
      refine z_icmp_le (tgt := 24) C (z_d dtX7_sheet_0 8 rfl) (by decide) (by omega) (fun h_18 => ?_) (fun h_18 => ?_)
      · refine z_iload_n C (z_d dtX7_sheet_0 11 rfl) rfl ?_
        refine z_if_ge (tgt := 34) C (z_d dtX7_sheet_0 12 rfl) (by decide) (by omega) (fun h_25 => ?_) (fun h_25 => ?_)
        · refine z_aload_n C (z_d dtX7_sheet_0 17 rfl) rfl ?_
          refine gf_X7_46 C (z_d dtX7_sheet_0 18 rfl) ?_
          refine z_iload_n C (z_d dtX7_sheet_0 19 rfl) rfl ?_
          refine al_Xsh C (z_d dtX7_sheet_0 20 rfl) (by omega) ?_
          refine z_iload_n C (z_d dtX7_sheet_0 21 rfl) rfl ?_
          refine z_iload_n C (z_d dtX7_sheet_0 22 rfl) rfl ?_
          refine z_callVv C (z_d dtX7_sheet_0 23 rfl) (k_X5_renew  (by omega)) cal_X5_renew gw_33_1 rfl (22 + _) 5 (wX_sh (by omega)) rfl rfl rfl hR ⟨rfl, rfl, rfl, rfl⟩ rfl (fun w_42 h_42 => ?_)
          obtain rfl := h_42
          refine z_iload_n C (z_d dtX7_sheet_0 24 rfl) rfl ?_
          exact ret _ _ _ _ (z_d dtX7_sheet_0 25 rfl) (⟨_, rfl, Or.inr ⟨by omega, Or.inr ⟨by omega, rfl, rfl⟩⟩⟩) rfl
        · refine z_aload_n C (z_d dtX7_sheet_0 13 rfl) rfl ?_
          refine z_iconst C (z_d dtX7_sheet_0 14 rfl) ?_
          refine z_callV C (z_d dtX7_sheet_0 15 rfl) (k_X7_finding  ) cal_X7_finding gw_15_20 rfl 0 7 rfl rfl rfl rfl hR ⟨rfl, rfl, rfl, rfl⟩ rfl (fun r_30 w_30 h_30 => ?_)
          obtain ⟨rfl, rfl⟩ := h_30
          exact ret _ _ _ _ (z_d dtX7_sheet_0 16 rfl) (⟨_, rfl, Or.inr ⟨by omega, Or.inl ⟨by omega, rfl, rfl⟩⟩⟩) rfl
      · refine z_bipush C (z_d dtX7_sheet_0 9 rfl) zb_m2 ?_
        exact ret _ _ _ _ (z_d dtX7_sheet_0 10 rfl) (⟨σ, rfl, Or.inl ⟨by omega, rfl, rfl⟩⟩) rfl

set_option maxRecDepth 100000 in
set_option maxHeartbeats 4000000 in
theorem k_X7_lose {l : Launch} {D : va_G} {t : Nat → ClassId} {ad : Nat → Nat} {σ : zMem} {z : Int} (ok : okX σ) (hz : -2147483648 ≤ z ∧ z < 2147483648) : z_Ci l D t yX7_lose cX7_lose 2 .int 1 21 0 0 [.ref (ad 0), .int (zI z)] (wX ad t σ) (fun r w => ∃ σ', w = wX ad t σ' ∧ ((¬ (0 ≤ z ∧ z < 4) ∧ r = -2 ∧ σ' = σ) ∨ ((0 ≤ z ∧ z < 4) ∧ ((σ 16 z = 0 ∧ r = -11 ∧ σ' = zS σ 19 (zC 1)) ∨ (σ 16 z = 1 ∧ r = σ 18 z ∧ σ' = zS (zS σ 16 (zU (σ 16) z 0)) 40 (zU (σ 40) z 0)))))) := by
  refine z_Ci_of (by decide +kernel) [some (.ref (ad 0)), some (.int (zI z))] rfl rfl (Nat.le_of_ble_eq_true rfl) fun K hl hD ht hR hnm C ret => ?_
  subst hl; subst hD; subst ht
  have ok2 := ok
  obtain ⟨⟨hw, hs, ht, h4, h5, h6, hwc, hlc⟩, ⟨h7, hdd⟩, hmp, oS1, oW1, oA1, oT1, oB1⟩ := ok2
  have hN := zHw_N hw
  have hW := hw; unfold zHw at hW
  have hit := oB1.2.2.2.1
  have h16 := oB1.1
  have hff := oB1.2.1
  have hsz := oB_s oB1
  have h40 := oB1.2.2.2.2
  have h16z := h16 z
  have h40z := h40 z
  refine z_iload_n C (z_d dtX7_lose_0 0 rfl) rfl ?_
  refine z_callS C (z_d dtX7_lose_0 1 rfl) (k_X7_isSheet  (by first | assumption | omega)) cal_X7_isSheet gw_15_9 rfl rfl hR ⟨rfl, rfl, rfl, rfl⟩ rfl (fun r_1 w_1 h_1 => ?_)
  obtain ⟨rfl, h_1⟩ := h_1
  refine z_if_ne (tgt := 10) C (z_d dtX7_lose_0 2 rfl) (by decide) (by omega) (fun h_4 => ?_) (fun h_4 => ?_)
  · refine z_aload_n C (z_d dtX7_lose_0 5 rfl) rfl ?_
    refine gf_X7_46 C (z_d dtX7_lose_0 6 rfl) ?_
    refine z_iload_n C (z_d dtX7_lose_0 7 rfl) rfl ?_
    refine al_Xsh C (z_d dtX7_lose_0 8 rfl) (by omega) ?_
    refine gf_X7_209 C (by omega) (z_d dtX7_lose_0 9 rfl) ?_
    refine z_if_eq (tgt := 28) C (z_d dtX7_lose_0 10 rfl) (by decide) (by omega) (fun h_19 => ?_) (fun h_19 => ?_)
    · refine z_aload_n C (z_d dtX7_lose_0 15 rfl) rfl ?_
      refine gf_X7_46 C (z_d dtX7_lose_0 16 rfl) ?_
      refine z_iload_n C (z_d dtX7_lose_0 17 rfl) rfl ?_
      refine al_Xsh C (z_d dtX7_lose_0 18 rfl) (by omega) ?_
      refine z_callV C (z_d dtX7_lose_0 19 rfl) (k_X5_drop  (by omega)) cal_X5_drop gw_33_14 rfl (22 + _) 5 (wX_sh (by omega)) rfl rfl rfl hR ⟨rfl, rfl, rfl, rfl⟩ rfl (fun r_34 w_34 h_34 => ?_)
      obtain ⟨rfl, rfl⟩ := h_34
      exact ret _ _ _ _ (z_d dtX7_lose_0 20 rfl) (⟨_, rfl, Or.inr ⟨by omega, Or.inr ⟨by omega, by rw [if_pos (by omega)] at h40z; exact h40z, rfl⟩⟩⟩) rfl
    · refine z_aload_n C (z_d dtX7_lose_0 11 rfl) rfl ?_
      refine z_iconst C (z_d dtX7_lose_0 12 rfl) ?_
      refine z_callV C (z_d dtX7_lose_0 13 rfl) (k_X7_finding  ) cal_X7_finding gw_15_20 rfl 0 7 rfl rfl rfl rfl hR ⟨rfl, rfl, rfl, rfl⟩ rfl (fun r_24 w_24 h_24 => ?_)
      obtain ⟨rfl, rfl⟩ := h_24
      exact ret _ _ _ _ (z_d dtX7_lose_0 14 rfl) (⟨_, rfl, Or.inr ⟨by omega, Or.inl ⟨by omega, rfl, rfl⟩⟩⟩) rfl
  · refine z_bipush C (z_d dtX7_lose_0 3 rfl) zb_m2 ?_
    exact ret _ _ _ _ (z_d dtX7_lose_0 4 rfl) (⟨σ, rfl, Or.inl ⟨by omega, rfl, rfl⟩⟩) rfl

set_option maxRecDepth 100000 in
set_option maxHeartbeats 4000000 in
theorem k_X7_lay {l : Launch} {D : va_G} {t : Nat → ClassId} {ad : Nat → Nat} {σ : zMem} {z f i v : Int} (ok : okX σ) (hz : -2147483648 ≤ z ∧ z < 2147483648) (hf : -2147483648 ≤ f ∧ f < 2147483648) (hi : -2147483648 ≤ i ∧ i < 2147483648) (hv : -2147483648 ≤ v ∧ v < 2147483648) : z_Ci l D t yX7_lay cX7_lay 6 .int 1 22 0 0 [.ref (ad 0), .int (zI z), .int (zI f), .int (zI i), .int (zI v)] (wX ad t σ) (fun r w => ∃ σ', w = wX ad t σ' ∧ ((¬ ((0 ≤ z ∧ z < 4) ∧ (0 ≤ f ∧ f < 3)) ∧ r = -2 ∧ σ' = σ) ∨ (((0 ≤ z ∧ z < 4) ∧ (0 ≤ f ∧ f < 3)) ∧ ((¬ zIp σ z f i = 0 ∧ r = -10 - zIp σ z f i ∧ σ' = zS σ 19 (zC (zIp σ z f i))) ∨ (zIp σ z f i = 0 ∧ r = 1 ∧ σ' = zS σ 20 (zU (σ 20) (240 * z + i) (zNr f v))))))) := by
  refine z_Ci_of (by decide +kernel) [some (.ref (ad 0)), some (.int (zI z)), some (.int (zI f)), some (.int (zI i)), some (.int (zI v)), none] rfl rfl (Nat.le_of_ble_eq_true rfl) fun K hl hD ht hR hnm C ret => ?_
  subst hl; subst hD; subst ht
  have ok2 := ok
  obtain ⟨⟨hw, hs, ht, h4, h5, h6, hwc, hlc⟩, ⟨h7, hdd⟩, hmp, oS1, oW1, oA1, oT1, oB1⟩ := ok2
  have hN := zHw_N hw
  have hW := hw; unfold zHw at hW
  have hit := oB1.2.2.2.1
  have h16 := oB1.1
  have hff := oB1.2.1
  have hsz := oB_s oB1
  have h40 := oB1.2.2.2.2
  have hip := zIp_b oB1 z f i
  refine z_iload_n C (z_d dtX7_lay_0 0 rfl) rfl ?_
  refine z_callS C (z_d dtX7_lay_0 1 rfl) (k_X7_isSheet  (by first | assumption | omega)) cal_X7_isSheet gw_15_9 rfl rfl hR ⟨rfl, rfl, rfl, rfl⟩ rfl (fun r_1 w_1 h_1 => ?_)
  obtain ⟨rfl, h_1⟩ := h_1
  refine z_if_eq (tgt := 14) C (z_d dtX7_lay_0 2 rfl) (by decide) (by omega) (fun h_4 => ?_) (fun h_4 => ?_)
  · refine z_bipush C (z_d dtX7_lay_0 6 rfl) zb_m2 ?_
    exact ret _ _ _ _ (z_d dtX7_lay_0 7 rfl) (⟨σ, rfl, Or.inl ⟨by omega, rfl, rfl⟩⟩) rfl
  · refine z_iload_n C (z_d dtX7_lay_0 3 rfl) rfl ?_
    refine z_callS C (z_d dtX7_lay_0 4 rfl) (k_X7_isForm  (by first | assumption | omega)) cal_X7_isForm gw_32_22 rfl rfl hR ⟨rfl, rfl, rfl, rfl⟩ rfl (fun r_8 w_8 h_8 => ?_)
    obtain ⟨rfl, h_8⟩ := h_8
    refine z_if_ne (tgt := 17) C (z_d dtX7_lay_0 5 rfl) (by decide) (by omega) (fun h_11 => ?_) (fun h_11 => ?_)
    · refine z_aload_n C (z_d dtX7_lay_0 8 rfl) rfl ?_
      refine gf_X7_46 C (z_d dtX7_lay_0 9 rfl) ?_
      refine z_iload_n C (z_d dtX7_lay_0 10 rfl) rfl ?_
      refine al_Xsh C (z_d dtX7_lay_0 11 rfl) (by omega) ?_
      refine z_iload_n C (z_d dtX7_lay_0 12 rfl) rfl ?_
      refine z_iload_n C (z_d dtX7_lay_0 13 rfl) rfl ?_
      refine z_callS C (z_d dtX7_lay_0 14 rfl) (k_X7_itemProblem  (by first | assumption | omega) (by first | assumption | omega) (by first | assumption | omega) (by first | assumption | omega)) cal_X7_itemProblem gw_34_2 rfl rfl hR ⟨rfl, rfl, rfl, rfl⟩ rfl (fun r_25 w_25 h_25 => ?_)
      obtain ⟨rfl, rfl⟩ := h_25
      refine z_istore5 C (z_d dtX7_lay_0 15 rfl) rfl ?_
      refine z_iload C (z_d dtX7_lay_0 16 rfl) rfl ?_
      refine z_if_eq (tgt := 42) C (z_d dtX7_lay_0 17 rfl) (by decide) (by omega) (fun h_32 => ?_) (fun h_32 => ?_)
      · refine z_aload_n C (z_d dtX7_lay_0 22 rfl) rfl ?_
        refine gf_X7_46 C (z_d dtX7_lay_0 23 rfl) ?_
        refine z_iload_n C (z_d dtX7_lay_0 24 rfl) rfl ?_
        refine al_Xsh C (z_d dtX7_lay_0 25 rfl) (by omega) ?_
        refine z_iload_n C (z_d dtX7_lay_0 26 rfl) rfl ?_
        refine z_iload C (z_d dtX7_lay_0 27 rfl) rfl ?_
        refine z_callVv C (z_d dtX7_lay_0 28 rfl) (k_X5_store  (by omega) (hip.2 (by omega)).1 (hff _)) cal_X5_store gw_34_7 rfl (22 + _) 5 (wX_sh (by omega)) rfl rfl rfl hR ⟨rfl, rfl, rfl, rfl⟩ rfl (fun w_51 h_51 => ?_)
        obtain rfl := h_51
        refine z_iconst C (z_d dtX7_lay_0 29 rfl) ?_
        exact ret _ _ _ _ (z_d dtX7_lay_0 30 rfl) (⟨_, rfl, Or.inr ⟨by omega, Or.inr ⟨by omega, rfl, by rw [(hip.2 (by omega)).2]⟩⟩⟩) rfl
      · refine z_aload_n C (z_d dtX7_lay_0 18 rfl) rfl ?_
        refine z_iload C (z_d dtX7_lay_0 19 rfl) rfl ?_
        refine z_callV C (z_d dtX7_lay_0 20 rfl) (k_X7_finding  ) cal_X7_finding gw_15_20 rfl 0 7 rfl rfl rfl rfl hR ⟨rfl, rfl, rfl, rfl⟩ rfl (fun r_38 w_38 h_38 => ?_)
        obtain ⟨rfl, rfl⟩ := h_38
        exact ret _ _ _ _ (z_d dtX7_lay_0 21 rfl) (⟨_, rfl, Or.inr ⟨by omega, Or.inl ⟨by omega, rfl, rfl⟩⟩⟩) rfl
    · refine z_bipush C (z_d dtX7_lay_0 6 rfl) zb_m2 ?_
      exact ret _ _ _ _ (z_d dtX7_lay_0 7 rfl) (⟨σ, rfl, Or.inl ⟨by omega, rfl, rfl⟩⟩) rfl

set_option maxRecDepth 100000 in
set_option maxHeartbeats 4000000 in
theorem k_X7_get {l : Launch} {D : va_G} {t : Nat → ClassId} {ad : Nat → Nat} {σ : zMem} {z f i : Int} (ok : okX σ) (hz : -2147483648 ≤ z ∧ z < 2147483648) (hf : -2147483648 ≤ f ∧ f < 2147483648) (hi : -2147483648 ≤ i ∧ i < 2147483648) : z_Ci l D t yX7_get cX7_get 5 .int 1 22 0 0 [.ref (ad 0), .int (zI z), .int (zI f), .int (zI i)] (wX ad t σ) (fun r w => ∃ σ', w = wX ad t σ' ∧ ((¬ ((0 ≤ z ∧ z < 4) ∧ (0 ≤ f ∧ f < 3)) ∧ r = -2147483648 ∧ σ' = σ) ∨ (((0 ≤ z ∧ z < 4) ∧ (0 ≤ f ∧ f < 3)) ∧ ((¬ zIp σ z f i = 0 ∧ r = -2147483648 ∧ σ' = zS σ 19 (zC (zIp σ z f i))) ∨ (zIp σ z f i = 0 ∧ r = σ 20 (240 * z + i) ∧ σ' = σ))))) := by
  refine z_Ci_of (by decide +kernel) [some (.ref (ad 0)), some (.int (zI z)), some (.int (zI f)), some (.int (zI i)), none] rfl rfl (Nat.le_of_ble_eq_true rfl) fun K hl hD ht hR hnm C ret => ?_
  subst hl; subst hD; subst ht
  have ok2 := ok
  obtain ⟨⟨hw, hs, ht, h4, h5, h6, hwc, hlc⟩, ⟨h7, hdd⟩, hmp, oS1, oW1, oA1, oT1, oB1⟩ := ok2
  have hN := zHw_N hw
  have hW := hw; unfold zHw at hW
  have hit := oB1.2.2.2.1
  have h16 := oB1.1
  have hff := oB1.2.1
  have hsz := oB_s oB1
  have h40 := oB1.2.2.2.2
  have hip := zIp_b oB1 z f i
  refine z_iload_n C (z_d dtX7_get_0 0 rfl) rfl ?_
  refine z_callS C (z_d dtX7_get_0 1 rfl) (k_X7_isSheet  (by first | assumption | omega)) cal_X7_isSheet gw_15_9 rfl rfl hR ⟨rfl, rfl, rfl, rfl⟩ rfl (fun r_1 w_1 h_1 => ?_)
  obtain ⟨rfl, h_1⟩ := h_1
  refine z_if_eq (tgt := 14) C (z_d dtX7_get_0 2 rfl) (by decide) (by omega) (fun h_4 => ?_) (fun h_4 => ?_)
  · refine z_ldc C gk_RX7_222 (z_d dtX7_get_0 6 rfl) ?_
    exact ret _ _ _ _ (z_d dtX7_get_0 7 rfl) (⟨σ, rfl, Or.inl ⟨by omega, rfl, rfl⟩⟩) rfl
  · refine z_iload_n C (z_d dtX7_get_0 3 rfl) rfl ?_
    refine z_callS C (z_d dtX7_get_0 4 rfl) (k_X7_isForm  (by first | assumption | omega)) cal_X7_isForm gw_32_22 rfl rfl hR ⟨rfl, rfl, rfl, rfl⟩ rfl (fun r_8 w_8 h_8 => ?_)
    obtain ⟨rfl, h_8⟩ := h_8
    refine z_if_ne (tgt := 17) C (z_d dtX7_get_0 5 rfl) (by decide) (by omega) (fun h_11 => ?_) (fun h_11 => ?_)
    · refine z_aload_n C (z_d dtX7_get_0 8 rfl) rfl ?_
      refine gf_X7_46 C (z_d dtX7_get_0 9 rfl) ?_
      refine z_iload_n C (z_d dtX7_get_0 10 rfl) rfl ?_
      refine al_Xsh C (z_d dtX7_get_0 11 rfl) (by omega) ?_
      refine z_iload_n C (z_d dtX7_get_0 12 rfl) rfl ?_
      refine z_iload_n C (z_d dtX7_get_0 13 rfl) rfl ?_
      refine z_callS C (z_d dtX7_get_0 14 rfl) (k_X7_itemProblem  (by first | assumption | omega) (by first | assumption | omega) (by first | assumption | omega) (by first | assumption | omega)) cal_X7_itemProblem gw_34_2 rfl rfl hR ⟨rfl, rfl, rfl, rfl⟩ rfl (fun r_25 w_25 h_25 => ?_)
      obtain ⟨rfl, rfl⟩ := h_25
      refine z_istore4 C (z_d dtX7_get_0 15 rfl) rfl ?_
      refine z_iload C (z_d dtX7_get_0 16 rfl) rfl ?_
      refine z_if_eq (tgt := 45) C (z_d dtX7_get_0 17 rfl) (by decide) (by omega) (fun h_32 => ?_) (fun h_32 => ?_)
      · refine z_aload_n C (z_d dtX7_get_0 24 rfl) rfl ?_
        refine gf_X7_46 C (z_d dtX7_get_0 25 rfl) ?_
        refine z_iload_n C (z_d dtX7_get_0 26 rfl) rfl ?_
        refine al_Xsh C (z_d dtX7_get_0 27 rfl) (by omega) ?_
        refine gf_X7_223 C (by omega) (z_d dtX7_get_0 28 rfl) ?_
        refine z_iload_n C (z_d dtX7_get_0 29 rfl) rfl ?_
        refine al_Xsi C (by omega) (z_d dtX7_get_0 30 rfl) ((hip.2 (by omega)).1) ?_
        exact ret _ _ _ _ (z_d dtX7_get_0 31 rfl) (⟨_, rfl, Or.inr ⟨by omega, Or.inr ⟨by omega, rfl, rfl⟩⟩⟩) rfl
      · refine z_aload_n C (z_d dtX7_get_0 18 rfl) rfl ?_
        refine z_iload C (z_d dtX7_get_0 19 rfl) rfl ?_
        refine z_callV C (z_d dtX7_get_0 20 rfl) (k_X7_finding  ) cal_X7_finding gw_15_20 rfl 0 7 rfl rfl rfl rfl hR ⟨rfl, rfl, rfl, rfl⟩ rfl (fun r_38 w_38 h_38 => ?_)
        obtain ⟨rfl, rfl⟩ := h_38
        refine z_pop C (z_d dtX7_get_0 21 rfl) rfl ?_
        refine z_ldc C gk_RX7_222 (z_d dtX7_get_0 22 rfl) ?_
        exact ret _ _ _ _ (z_d dtX7_get_0 23 rfl) (⟨_, rfl, Or.inr ⟨by omega, Or.inl ⟨by omega, rfl, rfl⟩⟩⟩) rfl
    · refine z_ldc C gk_RX7_222 (z_d dtX7_get_0 6 rfl) ?_
      exact ret _ _ _ _ (z_d dtX7_get_0 7 rfl) (⟨σ, rfl, Or.inl ⟨by omega, rfl, rfl⟩⟩) rfl

set_option maxRecDepth 100000 in
set_option maxHeartbeats 4000000 in
theorem k_X7_copy {l : Launch} {D : va_G} {t : Nat → ClassId} {ad : Nat → Nat} {σ : zMem} {z i y j n : Int} (ok : okX σ) (hz : -2147483648 ≤ z ∧ z < 2147483648) (hi : -2147483648 ≤ i ∧ i < 2147483648) (hy : -2147483648 ≤ y ∧ y < 2147483648) (hj : -2147483648 ≤ j ∧ j < 2147483648) (hn : -2147483648 ≤ n ∧ n < 2147483648) : z_Ci l D t yX7_copy cX7_copy 8 .int 1 40 0 0 [.ref (ad 0), .int (zI z), .int (zI i), .int (zI y), .int (zI j), .int (zI n)] (wX ad t σ) (fun r w => ∃ σ', w = wX ad t σ' ∧ ((¬ ((0 ≤ z ∧ z < 4) ∧ (0 ≤ y ∧ y < 4)) ∧ r = -2 ∧ σ' = σ) ∨ (((0 ≤ z ∧ z < 4) ∧ (0 ≤ y ∧ y < 4)) ∧ (((σ 16 z = 0 ∨ σ 16 y = 0) ∧ r = -11 ∧ σ' = zS σ 19 (zC 1)) ∨ ((σ 16 z = 1 ∧ σ 16 y = 1) ∧ ((¬ σ 17 z = σ 17 y ∧ r = -14 ∧ σ' = zS σ 19 (zC 4)) ∨ (σ 17 z = σ 17 y ∧ ((¬ ((0 ≤ i ∧ 0 ≤ n ∧ i ≤ σ 18 z ∧ n ≤ σ 18 z - i) ∧ (0 ≤ j ∧ 0 ≤ n ∧ j ≤ σ 18 y ∧ n ≤ σ 18 y - j)) ∧ r = -12 ∧ σ' = zS σ 19 (zC 2)) ∨ (((0 ≤ i ∧ 0 ≤ n ∧ i ≤ σ 18 z ∧ n ≤ σ 18 z - i) ∧ (0 ≤ j ∧ 0 ≤ n ∧ j ≤ σ 18 y ∧ n ≤ σ 18 y - j)) ∧ r = 1 ∧ σ' = zS σ 20 (fun q => if 240 * y + j ≤ q ∧ q < 240 * y + j + n then σ 20 (240 * z + i + (q - (240 * y + j))) else σ 20 q)))))))))) := by
  refine z_Ci_of (by decide +kernel) [some (.ref (ad 0)), some (.int (zI z)), some (.int (zI i)), some (.int (zI y)), some (.int (zI j)), some (.int (zI n)), none, none] rfl rfl (Nat.le_of_ble_eq_true rfl) fun K hl hD ht hR hnm C ret => ?_
  subst hl; subst hD; subst ht
  have ok2 := ok
  obtain ⟨⟨hw, hs, ht, h4, h5, h6, hwc, hlc⟩, ⟨h7, hdd⟩, hmp, oS1, oW1, oA1, oT1, oB1⟩ := ok2
  have hN := zHw_N hw
  have hW := hw; unfold zHw at hW
  have hit := oB1.2.2.2.1
  have h16 := oB1.1
  have hff := oB1.2.1
  have hsz := oB_s oB1
  have h40 := oB1.2.2.2.2
  have h16z := h16 z
  have h40z := h40 z
  have h16y := h16 y
  have h40y := h40 y
  have hfz := hff z
  have hfy := hff y
  have hsz1 := hsz z
  have hsz2 := hsz y
  have hqz : σ 16 z = 0 ∨ (σ 16 z = 1 ∧ σ 40 z = σ 18 z) := by
    split at h40z <;> omega
  have hqy : σ 16 y = 0 ∨ (σ 16 y = 1 ∧ σ 40 y = σ 18 y) := by
    split at h40y <;> omega
  refine z_iload_n C (z_d dtX7_copy_0 0 rfl) rfl ?_
  refine z_callS C (z_d dtX7_copy_0 1 rfl) (k_X7_isSheet  (by first | assumption | omega)) cal_X7_isSheet gw_15_9 rfl rfl hR ⟨rfl, rfl, rfl, rfl⟩ rfl (fun r_1 w_1 h_1 => ?_)
  obtain ⟨rfl, h_1⟩ := h_1
  refine z_if_eq (tgt := 14) C (z_d dtX7_copy_0 2 rfl) (by decide) (by omega) (fun h_4 => ?_) (fun h_4 => ?_)
  · refine z_bipush C (z_d dtX7_copy_0 6 rfl) zb_m2 ?_
    exact ret _ _ _ _ (z_d dtX7_copy_0 7 rfl) (⟨σ, rfl, Or.inl ⟨by omega, rfl, rfl⟩⟩) rfl
  · refine z_iload_n C (z_d dtX7_copy_0 3 rfl) rfl ?_
    refine z_callS C (z_d dtX7_copy_0 4 rfl) (k_X7_isSheet  (by first | assumption | omega)) cal_X7_isSheet gw_15_9 rfl rfl hR ⟨rfl, rfl, rfl, rfl⟩ rfl (fun r_8 w_8 h_8 => ?_)
    obtain ⟨rfl, h_8⟩ := h_8
    refine z_if_ne (tgt := 17) C (z_d dtX7_copy_0 5 rfl) (by decide) (by omega) (fun h_11 => ?_) (fun h_11 => ?_)
    · refine z_aload_n C (z_d dtX7_copy_0 8 rfl) rfl ?_
      refine gf_X7_46 C (z_d dtX7_copy_0 9 rfl) ?_
      refine z_iload_n C (z_d dtX7_copy_0 10 rfl) rfl ?_
      refine al_Xsh C (z_d dtX7_copy_0 11 rfl) (by omega) ?_
      refine z_astore6 C (z_d dtX7_copy_0 12 rfl) rfl ?_
      refine z_aload_n C (z_d dtX7_copy_0 13 rfl) rfl ?_
      refine gf_X7_46 C (z_d dtX7_copy_0 14 rfl) ?_
      refine z_iload_n C (z_d dtX7_copy_0 15 rfl) rfl ?_
      refine al_Xsh C (z_d dtX7_copy_0 16 rfl) (by omega) ?_
      refine z_astore7 C (z_d dtX7_copy_0 17 rfl) rfl ?_
      refine z_aload C (z_d dtX7_copy_0 18 rfl) rfl ?_
      refine gf_X7_209 C (by omega) (z_d dtX7_copy_0 19 rfl) ?_
      refine z_if_ne (tgt := 49) C (z_d dtX7_copy_0 20 rfl) (by decide) (by omega) (fun h_38 => ?_) (fun h_38 => ?_)
      · refine z_aload_n C (z_d dtX7_copy_0 24 rfl) rfl ?_
        refine z_iconst C (z_d dtX7_copy_0 25 rfl) ?_
        refine z_callV C (z_d dtX7_copy_0 26 rfl) (k_X7_finding  ) cal_X7_finding gw_15_20 rfl 0 7 rfl rfl rfl rfl hR ⟨rfl, rfl, rfl, rfl⟩ rfl (fun r_51 w_51 h_51 => ?_)
        obtain ⟨rfl, rfl⟩ := h_51
        exact ret _ _ _ _ (z_d dtX7_copy_0 27 rfl) (⟨_, rfl, Or.inr ⟨by omega, Or.inl ⟨by omega, rfl, rfl⟩⟩⟩) rfl
      · refine z_aload C (z_d dtX7_copy_0 21 rfl) rfl ?_
        refine gf_X7_209 C (by omega) (z_d dtX7_copy_0 22 rfl) ?_
        refine z_if_eq (tgt := 55) C (z_d dtX7_copy_0 23 rfl) (by decide) (by omega) (fun h_46 => ?_) (fun h_46 => ?_)
        · refine z_aload C (z_d dtX7_copy_0 28 rfl) rfl ?_
          refine gf_X7_226 C (by omega) (z_d dtX7_copy_0 29 rfl) ?_
          refine z_aload C (z_d dtX7_copy_0 30 rfl) rfl ?_
          refine gf_X7_226 C (by omega) (z_d dtX7_copy_0 31 rfl) ?_
          refine z_icmp_eq (tgt := 74) C (z_d dtX7_copy_0 32 rfl) (by decide) (by omega) (fun h_65 => ?_) (fun h_65 => ?_)
          · refine z_aload C (z_d dtX7_copy_0 37 rfl) rfl ?_
            refine z_iload_n C (z_d dtX7_copy_0 38 rfl) rfl ?_
            refine z_iload C (z_d dtX7_copy_0 39 rfl) rfl ?_
            refine z_callV C (z_d dtX7_copy_1 0 rfl) (k_X5_hasItems (z := z) (by omega) hsz1 (by first | assumption | omega) (by first | assumption | omega)) cal_X5_hasItems gw_35_10 rfl (22 + _) 5 (wX_sh (by omega)) rfl rfl rfl hR ⟨rfl, rfl, rfl, rfl⟩ rfl (fun r_79 w_79 h_79 => ?_)
            obtain ⟨rfl, h_79⟩ := h_79
            refine z_if_eq (tgt := 97) C (z_d dtX7_copy_1 1 rfl) (by decide) (by omega) (fun h_82 => ?_) (fun h_82 => ?_)
            · refine z_aload_n C (z_d dtX7_copy_1 7 rfl) rfl ?_
              refine z_iconst C (z_d dtX7_copy_1 8 rfl) ?_
              refine z_callV C (z_d dtX7_copy_1 9 rfl) (k_X7_finding  ) cal_X7_finding gw_15_20 rfl 0 7 rfl rfl rfl rfl hR ⟨rfl, rfl, rfl, rfl⟩ rfl (fun r_99 w_99 h_99 => ?_)
              obtain ⟨rfl, rfl⟩ := h_99
              exact ret _ _ _ _ (z_d dtX7_copy_1 10 rfl) (⟨_, rfl, Or.inr ⟨by omega, Or.inr ⟨by omega, Or.inr ⟨by omega, Or.inl ⟨by omega, rfl, rfl⟩⟩⟩⟩⟩) rfl
            · refine z_aload C (z_d dtX7_copy_1 2 rfl) rfl ?_
              refine z_iload C (z_d dtX7_copy_1 3 rfl) rfl ?_
              refine z_iload C (z_d dtX7_copy_1 4 rfl) rfl ?_
              refine z_callV C (z_d dtX7_copy_1 5 rfl) (k_X5_hasItems (z := y) (by omega) hsz2 (by first | assumption | omega) (by first | assumption | omega)) cal_X5_hasItems gw_35_10 rfl (22 + _) 5 (wX_sh (by omega)) rfl rfl rfl hR ⟨rfl, rfl, rfl, rfl⟩ rfl (fun r_91 w_91 h_91 => ?_)
              obtain ⟨rfl, h_91⟩ := h_91
              refine z_if_ne (tgt := 103) C (z_d dtX7_copy_1 6 rfl) (by decide) (by omega) (fun h_94 => ?_) (fun h_94 => ?_)
              · refine z_aload C (z_d dtX7_copy_1 11 rfl) rfl ?_
                refine gf_X7_223 C (by omega) (z_d dtX7_copy_1 12 rfl) ?_
                refine z_iload_n C (z_d dtX7_copy_1 13 rfl) rfl ?_
                refine z_aload C (z_d dtX7_copy_1 14 rfl) rfl ?_
                refine gf_X7_223 C (by omega) (z_d dtX7_copy_1 15 rfl) ?_
                refine z_iload C (z_d dtX7_copy_1 16 rfl) rfl ?_
                refine z_iload C (z_d dtX7_copy_1 17 rfl) rfl ?_
                refine cp_items C (z_d dtX7_copy_1 18 rfl) (by omega) (by omega) (by omega) (by omega) (by omega) rfl (by rw [hR]; exact Nat.le_of_ble_eq_true rfl) (by rw [hR]; exact Nat.le_of_ble_eq_true (by decide +kernel)) ?_
                refine z_iconst C (z_d dtX7_copy_1 19 rfl) ?_
                exact ret _ _ _ _ (z_d dtX7_copy_1 20 rfl) (⟨_, rfl, Or.inr ⟨by omega, Or.inr ⟨by omega, Or.inr ⟨by omega, Or.inr ⟨by omega, rfl, rfl⟩⟩⟩⟩⟩) rfl
              · refine z_aload_n C (z_d dtX7_copy_1 7 rfl) rfl ?_
                refine z_iconst C (z_d dtX7_copy_1 8 rfl) ?_
                refine z_callV C (z_d dtX7_copy_1 9 rfl) (k_X7_finding  ) cal_X7_finding gw_15_20 rfl 0 7 rfl rfl rfl rfl hR ⟨rfl, rfl, rfl, rfl⟩ rfl (fun r_99 w_99 h_99 => ?_)
                obtain ⟨rfl, rfl⟩ := h_99
                exact ret _ _ _ _ (z_d dtX7_copy_1 10 rfl) (⟨_, rfl, Or.inr ⟨by omega, Or.inr ⟨by omega, Or.inr ⟨by omega, Or.inl ⟨by omega, rfl, rfl⟩⟩⟩⟩⟩) rfl
          · refine z_aload_n C (z_d dtX7_copy_0 33 rfl) rfl ?_
            refine z_iconst C (z_d dtX7_copy_0 34 rfl) ?_
            refine z_callV C (z_d dtX7_copy_0 35 rfl) (k_X7_finding  ) cal_X7_finding gw_15_20 rfl 0 7 rfl rfl rfl rfl hR ⟨rfl, rfl, rfl, rfl⟩ rfl (fun r_70 w_70 h_70 => ?_)
            obtain ⟨rfl, rfl⟩ := h_70
            exact ret _ _ _ _ (z_d dtX7_copy_0 36 rfl) (⟨_, rfl, Or.inr ⟨by omega, Or.inr ⟨by omega, Or.inl ⟨by omega, rfl, rfl⟩⟩⟩⟩) rfl
        · refine z_aload_n C (z_d dtX7_copy_0 24 rfl) rfl ?_
          refine z_iconst C (z_d dtX7_copy_0 25 rfl) ?_
          refine z_callV C (z_d dtX7_copy_0 26 rfl) (k_X7_finding  ) cal_X7_finding gw_15_20 rfl 0 7 rfl rfl rfl rfl hR ⟨rfl, rfl, rfl, rfl⟩ rfl (fun r_51 w_51 h_51 => ?_)
          obtain ⟨rfl, rfl⟩ := h_51
          exact ret _ _ _ _ (z_d dtX7_copy_0 27 rfl) (⟨_, rfl, Or.inr ⟨by omega, Or.inl ⟨by omega, rfl, rfl⟩⟩⟩) rfl
    · refine z_bipush C (z_d dtX7_copy_0 6 rfl) zb_m2 ?_
      exact ret _ _ _ _ (z_d dtX7_copy_0 7 rfl) (⟨σ, rfl, Or.inl ⟨by omega, rfl, rfl⟩⟩) rfl
