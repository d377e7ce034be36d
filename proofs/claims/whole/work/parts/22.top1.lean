/-! THE SYSTEM: its own helpers -/
set_option maxRecDepth 100000 in
set_option maxHeartbeats 4000000 in
theorem k_X7_isSender {l : Launch} {D : va_G} {t : Nat → ClassId} {ad : Nat → Nat} {σ : zMem} {k : Int} (hk : -2147483648 ≤ k ∧ k < 2147483648) : z_Ci l D t yX7_isSender cX7_isSender 1 .boolean 0 0 0 0 [.int (zI k)] (wX ad t σ) (fun r w => w = wX ad t σ ∧ ((r = 1 ∧ (0 ≤ k ∧ k < 8)) ∨ (r = 0 ∧ ¬ (0 ≤ k ∧ k < 8)))) := by
  refine z_Ci_of (by decide +kernel) [some (.int (zI k))] rfl rfl (Nat.le_of_ble_eq_true rfl) fun K hl hD ht hR hnm C ret => ?_
  subst hl; subst hD; subst ht
  refine z_iload_n C (z_d dtX7_isSender_0 0 rfl) rfl ?_
  refine z_if_lt (tgt := 14) C (z_d dtX7_isSender_0 1 rfl) (by decide) (by omega) (fun h_1 => ?_) (fun h_1 => ?_)
  · refine z_iconst C (z_d dtX7_isSender_0 7 rfl) ?_
    exact ret _ _ _ _ (z_d dtX7_isSender_0 8 rfl) (⟨rfl, by omega⟩) (z_nb (by omega))
  · refine z_iload_n C (z_d dtX7_isSender_0 2 rfl) rfl ?_
    refine z_bipush C (z_d dtX7_isSender_0 3 rfl) zb_8 ?_
    refine z_icmp_ge (tgt := 14) C (z_d dtX7_isSender_0 4 rfl) (by decide) (by omega) (fun h_7 => ?_) (fun h_7 => ?_)
    · refine z_iconst C (z_d dtX7_isSender_0 7 rfl) ?_
      exact ret _ _ _ _ (z_d dtX7_isSender_0 8 rfl) (⟨rfl, by omega⟩) (z_nb (by omega))
    · refine z_iconst C (z_d dtX7_isSender_0 5 rfl) ?_
      refine z_goto (tgt := 15) C (z_d dtX7_isSender_0 6 rfl) (by decide) ?_
      exact ret _ _ _ _ (z_d dtX7_isSender_0 8 rfl) (⟨rfl, by omega⟩) (z_nb (by omega))

set_option maxRecDepth 100000 in
set_option maxHeartbeats 4000000 in
theorem k_X7_isSheet {l : Launch} {D : va_G} {t : Nat → ClassId} {ad : Nat → Nat} {σ : zMem} {k : Int} (hk : -2147483648 ≤ k ∧ k < 2147483648) : z_Ci l D t yX7_isSheet cX7_isSheet 1 .boolean 0 0 0 0 [.int (zI k)] (wX ad t σ) (fun r w => w = wX ad t σ ∧ ((r = 1 ∧ (0 ≤ k ∧ k < 4)) ∨ (r = 0 ∧ ¬ (0 ≤ k ∧ k < 4)))) := by
  refine z_Ci_of (by decide +kernel) [some (.int (zI k))] rfl rfl (Nat.le_of_ble_eq_true rfl) fun K hl hD ht hR hnm C ret => ?_
  subst hl; subst hD; subst ht
  refine z_iload_n C (z_d dtX7_isSheet_0 0 rfl) rfl ?_
  refine z_if_lt (tgt := 13) C (z_d dtX7_isSheet_0 1 rfl) (by decide) (by omega) (fun h_1 => ?_) (fun h_1 => ?_)
  · refine z_iconst C (z_d dtX7_isSheet_0 7 rfl) ?_
    exact ret _ _ _ _ (z_d dtX7_isSheet_0 8 rfl) (⟨rfl, by omega⟩) (z_nb (by omega))
  · refine z_iload_n C (z_d dtX7_isSheet_0 2 rfl) rfl ?_
    refine z_iconst C (z_d dtX7_isSheet_0 3 rfl) ?_
    refine z_icmp_ge (tgt := 13) C (z_d dtX7_isSheet_0 4 rfl) (by decide) (by omega) (fun h_6 => ?_) (fun h_6 => ?_)
    · refine z_iconst C (z_d dtX7_isSheet_0 7 rfl) ?_
      exact ret _ _ _ _ (z_d dtX7_isSheet_0 8 rfl) (⟨rfl, by omega⟩) (z_nb (by omega))
    · refine z_iconst C (z_d dtX7_isSheet_0 5 rfl) ?_
      refine z_goto (tgt := 14) C (z_d dtX7_isSheet_0 6 rfl) (by decide) ?_
      exact ret _ _ _ _ (z_d dtX7_isSheet_0 8 rfl) (⟨rfl, by omega⟩) (z_nb (by omega))

set_option maxRecDepth 100000 in
set_option maxHeartbeats 4000000 in
theorem k_X7_isForm {l : Launch} {D : va_G} {t : Nat → ClassId} {ad : Nat → Nat} {σ : zMem} {k : Int} (hk : -2147483648 ≤ k ∧ k < 2147483648) : z_Ci l D t yX7_isForm cX7_isForm 1 .boolean 0 0 0 0 [.int (zI k)] (wX ad t σ) (fun r w => w = wX ad t σ ∧ ((r = 1 ∧ (0 ≤ k ∧ k < 3)) ∨ (r = 0 ∧ ¬ (0 ≤ k ∧ k < 3)))) := by
  refine z_Ci_of (by decide +kernel) [some (.int (zI k))] rfl rfl (Nat.le_of_ble_eq_true rfl) fun K hl hD ht hR hnm C ret => ?_
  subst hl; subst hD; subst ht
  refine z_iload_n C (z_d dtX7_isForm_0 0 rfl) rfl ?_
  refine z_if_lt (tgt := 13) C (z_d dtX7_isForm_0 1 rfl) (by decide) (by omega) (fun h_1 => ?_) (fun h_1 => ?_)
  · refine z_iconst C (z_d dtX7_isForm_0 7 rfl) ?_
    exact ret _ _ _ _ (z_d dtX7_isForm_0 8 rfl) (⟨rfl, by omega⟩) (z_nb (by omega))
  · refine z_iload_n C (z_d dtX7_isForm_0 2 rfl) rfl ?_
    refine z_iconst C (z_d dtX7_isForm_0 3 rfl) ?_
    refine z_icmp_ge (tgt := 13) C (z_d dtX7_isForm_0 4 rfl) (by decide) (by omega) (fun h_6 => ?_) (fun h_6 => ?_)
    · refine z_iconst C (z_d dtX7_isForm_0 7 rfl) ?_
      exact ret _ _ _ _ (z_d dtX7_isForm_0 8 rfl) (⟨rfl, by omega⟩) (z_nb (by omega))
    · refine z_iconst C (z_d dtX7_isForm_0 5 rfl) ?_
      refine z_goto (tgt := 14) C (z_d dtX7_isForm_0 6 rfl) (by decide) ?_
      exact ret _ _ _ _ (z_d dtX7_isForm_0 8 rfl) (⟨rfl, by omega⟩) (z_nb (by omega))

set_option maxRecDepth 100000 in
set_option maxHeartbeats 4000000 in
theorem k_X7_finding {l : Launch} {D : va_G} {t : Nat → ClassId} {ad : Nat → Nat} {σ : zMem} {n : Int}  : z_Ci l D t yX7_finding cX7_finding 2 .int 0 0 0 0 [.ref (ad 0), .int (zI n)] (wX ad t σ) (fun r w => w = wX ad t (zS σ 19 (zC n)) ∧ r = -10 - n) := by
  refine z_Ci_of (by decide +kernel) [some (.ref (ad 0)), some (.int (zI n))] rfl rfl (Nat.le_of_ble_eq_true rfl) fun K hl hD ht hR hnm C ret => ?_
  subst hl; subst hD; subst ht
  refine z_aload_n C (z_d dtX7_finding_0 0 rfl) rfl ?_
  refine z_iload_n C (z_d dtX7_finding_0 1 rfl) rfl ?_
  refine pf_X7_59 C (z_d dtX7_finding_0 2 rfl) ?_
  refine z_bipush C (z_d dtX7_finding_0 3 rfl) zb_m10 ?_
  refine z_iload_n C (z_d dtX7_finding_0 4 rfl) rfl ?_
  refine z_isub C (z_d dtX7_finding_0 5 rfl) ?_
  exact ret _ _ _ _ (z_d dtX7_finding_0 6 rfl) (⟨rfl, rfl⟩) rfl

set_option maxRecDepth 100000 in
set_option maxHeartbeats 4000000 in
theorem k_X7_rowProblem {l : Launch} {D : va_G} {t : Nat → ClassId} {ad : Nat → Nat} {σ : zMem} {z row : Int} (hz : 0 ≤ z ∧ z < 4) (oB1 : oB σ) (hrow : -2147483648 ≤ row ∧ row < 2147483648) : z_Ci l D t yX7_rowProblem cX7_rowProblem 2 .int 1 20 0 0 [.ref (ad (22 + z.toNat)), .int (zI row)] (wX ad t σ) (fun r w => w = wX ad t σ ∧ r = zRp σ z row) := by
  refine z_Ci_of (by decide +kernel) [some (.ref (ad (22 + z.toNat))), some (.int (zI row))] rfl rfl (Nat.le_of_ble_eq_true rfl) fun K hl hD ht hR hnm C ret => ?_
  subst hl; subst hD; subst ht
  have h16 := oB1.1 z
  have hsz := oB_s oB1 z
  have h40 := oB1.2.2.2.2 z
  have hq : σ 16 z = 0 ∨ (σ 16 z = 1 ∧ σ 40 z = σ 18 z) := by
    split at h40 <;> omega
  refine z_aload_n C (z_d dtX7_rowProblem_0 0 rfl) rfl ?_
  refine gf_X7_209 C (by omega) (z_d dtX7_rowProblem_0 1 rfl) ?_
  refine z_if_eq (tgt := 9) C (z_d dtX7_rowProblem_0 2 rfl) (by decide) (by omega) (fun h_4 => ?_) (fun h_4 => ?_)
  · refine z_iload_n C (z_d dtX7_rowProblem_0 5 rfl) rfl ?_
    refine z_if_lt (tgt := 25) C (z_d dtX7_rowProblem_0 6 rfl) (by decide) (by omega) (fun h_10 => ?_) (fun h_10 => ?_)
    · refine z_iconst C (z_d dtX7_rowProblem_0 13 rfl) ?_
      exact ret _ _ _ _ (z_d dtX7_rowProblem_0 14 rfl) (⟨rfl, by
          unfold zRp
          first
            | rw [if_pos (by omega)]
            | rw [if_neg (by omega), if_pos (by omega)]
            | rw [if_neg (by omega), if_neg (by omega)]⟩) rfl
    · refine z_iload_n C (z_d dtX7_rowProblem_0 7 rfl) rfl ?_
      refine z_aload_n C (z_d dtX7_rowProblem_0 8 rfl) rfl ?_
      refine z_callV C (z_d dtX7_rowProblem_0 9 rfl) (k_X5_rows  (by first | assumption | omega) (by first | assumption | omega)) cal_X5_rows gw_15_16 rfl (22 + _) 5 (wX_sh (by omega)) rfl rfl rfl hR ⟨rfl, rfl, rfl, rfl⟩ rfl (fun r_15 w_15 h_15 => ?_)
      obtain ⟨rfl, rfl⟩ := h_15
      refine z_icmp_ge (tgt := 25) C (z_d dtX7_rowProblem_0 10 rfl) (by decide) (by omega) (fun h_18 => ?_) (fun h_18 => ?_)
      · refine z_iconst C (z_d dtX7_rowProblem_0 13 rfl) ?_
        exact ret _ _ _ _ (z_d dtX7_rowProblem_0 14 rfl) (⟨rfl, by
            unfold zRp
            first
              | rw [if_pos (by omega)]
              | rw [if_neg (by omega), if_pos (by omega)]
              | rw [if_neg (by omega), if_neg (by omega)]⟩) rfl
      · refine z_iconst C (z_d dtX7_rowProblem_0 11 rfl) ?_
        refine z_goto (tgt := 26) C (z_d dtX7_rowProblem_0 12 rfl) (by decide) ?_
        exact ret _ _ _ _ (z_d dtX7_rowProblem_0 14 rfl) (⟨rfl, by
            unfold zRp
            first
              | rw [if_pos (by omega)]
              | rw [if_neg (by omega), if_pos (by omega)]
              | rw [if_neg (by omega), if_neg (by omega)]⟩) rfl
  · refine z_iconst C (z_d dtX7_rowProblem_0 3 rfl) ?_
    exact ret _ _ _ _ (z_d dtX7_rowProblem_0 4 rfl) (⟨rfl, by
        unfold zRp
        first
          | rw [if_pos (by omega)]
          | rw [if_neg (by omega), if_pos (by omega)]
          | rw [if_neg (by omega), if_neg (by omega)]⟩) rfl

set_option maxRecDepth 100000 in
set_option maxHeartbeats 4000000 in
theorem k_X7_itemProblem {l : Launch} {D : va_G} {t : Nat → ClassId} {ad : Nat → Nat} {σ : zMem} {z f i : Int} (hz : 0 ≤ z ∧ z < 4) (oB1 : oB σ) (hf : -2147483648 ≤ f ∧ f < 2147483648) (hi : -2147483648 ≤ i ∧ i < 2147483648) : z_Ci l D t yX7_itemProblem cX7_itemProblem 3 .int 0 0 0 0 [.ref (ad (22 + z.toNat)), .int (zI f), .int (zI i)] (wX ad t σ) (fun r w => w = wX ad t σ ∧ r = zIp σ z f i) := by
  refine z_Ci_of (by decide +kernel) [some (.ref (ad (22 + z.toNat))), some (.int (zI f)), some (.int (zI i))] rfl rfl (Nat.le_of_ble_eq_true rfl) fun K hl hD ht hR hnm C ret => ?_
  subst hl; subst hD; subst ht
  have h16 := oB1.1 z
  have hff := oB1.2.1 z
  have hsz := oB_s oB1 z
  have h40 := oB1.2.2.2.2 z
  have hq : σ 16 z = 0 ∨ (σ 16 z = 1 ∧ σ 40 z = σ 18 z) := by
    split at h40 <;> omega
  refine z_aload_n C (z_d dtX7_itemProblem_0 0 rfl) rfl ?_
  refine gf_X7_209 C (by omega) (z_d dtX7_itemProblem_0 1 rfl) ?_
  refine z_if_eq (tgt := 9) C (z_d dtX7_itemProblem_0 2 rfl) (by decide) (by omega) (fun h_4 => ?_) (fun h_4 => ?_)
  · refine z_aload_n C (z_d dtX7_itemProblem_0 5 rfl) rfl ?_
    refine gf_X7_226 C (by omega) (z_d dtX7_itemProblem_0 6 rfl) ?_
    refine z_iload_n C (z_d dtX7_itemProblem_0 7 rfl) rfl ?_
    refine z_icmp_eq (tgt := 19) C (z_d dtX7_itemProblem_0 8 rfl) (by decide) (by omega) (fun h_14 => ?_) (fun h_14 => ?_)
    · refine z_iload_n C (z_d dtX7_itemProblem_0 11 rfl) rfl ?_
      refine z_if_lt (tgt := 35) C (z_d dtX7_itemProblem_0 12 rfl) (by decide) (by omega) (fun h_20 => ?_) (fun h_20 => ?_)
      · refine z_iconst C (z_d dtX7_itemProblem_0 19 rfl) ?_
        exact ret _ _ _ _ (z_d dtX7_itemProblem_0 20 rfl) (⟨rfl, by
            unfold zIp
            first
              | rw [if_pos (by omega)]
              | rw [if_neg (by omega), if_pos (by omega)]
              | rw [if_neg (by omega), if_neg (by omega), if_pos (by omega)]
              | rw [if_neg (by omega), if_neg (by omega), if_neg (by omega)]⟩) rfl
      · refine z_iload_n C (z_d dtX7_itemProblem_0 13 rfl) rfl ?_
        refine z_aload_n C (z_d dtX7_itemProblem_0 14 rfl) rfl ?_
        refine gf_X7_287 C (by omega) (z_d dtX7_itemProblem_0 15 rfl) ?_
        refine z_icmp_ge (tgt := 35) C (z_d dtX7_itemProblem_0 16 rfl) (by decide) (by omega) (fun h_28 => ?_) (fun h_28 => ?_)
        · refine z_iconst C (z_d dtX7_itemProblem_0 19 rfl) ?_
          exact ret _ _ _ _ (z_d dtX7_itemProblem_0 20 rfl) (⟨rfl, by
              unfold zIp
              first
                | rw [if_pos (by omega)]
                | rw [if_neg (by omega), if_pos (by omega)]
                | rw [if_neg (by omega), if_neg (by omega), if_pos (by omega)]
                | rw [if_neg (by omega), if_neg (by omega), if_neg (by omega)]⟩) rfl
        · refine z_iconst C (z_d dtX7_itemProblem_0 17 rfl) ?_
          refine z_goto (tgt := 36) C (z_d dtX7_itemProblem_0 18 rfl) (by decide) ?_
          exact ret _ _ _ _ (z_d dtX7_itemProblem_0 20 rfl) (⟨rfl, by
              unfold zIp
              first
                | rw [if_pos (by omega)]
                | rw [if_neg (by omega), if_pos (by omega)]
                | rw [if_neg (by omega), if_neg (by omega), if_pos (by omega)]
                | rw [if_neg (by omega), if_neg (by omega), if_neg (by omega)]⟩) rfl
    · refine z_iconst C (z_d dtX7_itemProblem_0 9 rfl) ?_
      exact ret _ _ _ _ (z_d dtX7_itemProblem_0 10 rfl) (⟨rfl, by
          unfold zIp
          first
            | rw [if_pos (by omega)]
            | rw [if_neg (by omega), if_pos (by omega)]
            | rw [if_neg (by omega), if_neg (by omega), if_pos (by omega)]
            | rw [if_neg (by omega), if_neg (by omega), if_neg (by omega)]⟩) rfl
  · refine z_iconst C (z_d dtX7_itemProblem_0 3 rfl) ?_
    exact ret _ _ _ _ (z_d dtX7_itemProblem_0 4 rfl) (⟨rfl, by
        unfold zIp
        first
          | rw [if_pos (by omega)]
          | rw [if_neg (by omega), if_pos (by omega)]
          | rw [if_neg (by omega), if_neg (by omega), if_pos (by omega)]
          | rw [if_neg (by omega), if_neg (by omega), if_neg (by omega)]⟩) rfl

set_option maxRecDepth 100000 in
set_option maxHeartbeats 4000000 in
theorem k_X7_bestScore {l : Launch} {D : va_G} {t : Nat → ClassId} {ad : Nat → Nat} {σ : zMem} {z : Int} (ok : okX σ) (hz : 0 ≤ z ∧ z < 4) : z_Ci l D t yX7_bestScore cX7_bestScore 3 .int 6 149 0 0 [.ref (ad 0), .ref (ad (22 + z.toNat))] (wX ad t σ) (fun r w => ∃ σ', w = wX ad t σ' ∧ ((σ 16 z = 0 ∧ r = -11 ∧ σ' = zS σ 19 (zC 1)) ∨ (σ 16 z = 1 ∧ zE σ' σ [39, 41] ∧ (((σ 18 z / 8 = 0 ∨ zVf σ z (-1) (σ 18 z / 8) = -1) ∧ r = -3) ∨ (1 ≤ σ 18 z / 8 ∧ 0 ≤ r ∧ r = zVf σ z (-1) (σ 18 z / 8) ∧ ∀ k : Nat, k < σ 18 z / 8 → σ' 39 k = zWy σ z (-1) (σ 18 z / 8) k))))) := by
  refine z_Ci_of (by decide +kernel) [some (.ref (ad 0)), some (.ref (ad (22 + z.toNat))), none] rfl rfl (Nat.le_of_ble_eq_true rfl) fun K hl hD ht hR hnm C ret => ?_
  subst hl; subst hD; subst ht
  have ok2 := ok
  obtain ⟨⟨hw, hs, ht, h4, h5, h6, hwc, hlc⟩, ⟨h7, hdd⟩, hmp, oS1, oW1, oA1, oT1, oB1⟩ := ok2
  have hN := zHw_N hw
  have hW := hw; unfold zHw at hW
  have hit := oB1.2.2.2.1
  have h16 := oB1.1
  have hff := oB1.2.1
  have hsz := oB_s oB1
  have h40 := oB1.2.2.2.2
  have h16z := h16 z
  have h40z := h40 z
  have hszz := hsz z
  have hq : σ 16 z = 0 ∨ (σ 16 z = 1 ∧ σ 40 z = σ 18 z) := by
    split at h40z <;> omega
  have hvb := zV_b hmp hs z (-1) (σ 40 z / 8) (σ 40 z / 8 - 1).toNat (zWy σ z (-1) (σ 40 z / 8) 0)
  refine z_aload_n C (z_d dtX7_bestScore_0 0 rfl) rfl ?_
  refine gf_X7_209 C (by omega) (z_d dtX7_bestScore_0 1 rfl) ?_
  refine z_if_eq (tgt := 13) C (z_d dtX7_bestScore_0 2 rfl) (by decide) (by omega) (fun h_4 => ?_) (fun h_4 => ?_)
  · refine z_aload_n C (z_d dtX7_bestScore_0 7 rfl) rfl ?_
    refine gf_X7_33 C (z_d dtX7_bestScore_0 8 rfl) ?_
    refine z_aload_n C (z_d dtX7_bestScore_0 9 rfl) rfl ?_
    refine gf_X7_10 C (z_d dtX7_bestScore_0 10 rfl) ?_
    refine z_aload_n C (z_d dtX7_bestScore_0 11 rfl) rfl ?_
    refine gf_X7_19 C (z_d dtX7_bestScore_0 12 rfl) ?_
    refine z_aload_n C (z_d dtX7_bestScore_0 13 rfl) rfl ?_
    refine z_iconst C (z_d dtX7_bestScore_0 14 rfl) ?_
    refine z_callV C (z_d dtX7_bestScore_0 15 rfl) (k_X6_findWay  (by first | assumption | omega) (by first | assumption | omega) (by first | assumption | omega) (by first | assumption | omega) hszz (by first | assumption | omega) (by first | assumption | omega) (by first | assumption | omega) (by first | assumption | omega) (by omega)) cal_X6_findWay gw_25_21 rfl 4 6 rfl rfl rfl rfl hR ⟨rfl, rfl, rfl, rfl⟩ rfl (fun r_27 w_27 h_27 => ?_)
    obtain ⟨σ_27, rfl, hE_27, h_27⟩ := h_27
    have e40 : σ 40 z = σ 18 z := by omega
    rw [e40] at h_27 hvb
    have hvf : zVf σ z (-1) (σ 18 z / 8) = zV σ z (-1) (σ 18 z / 8) (σ 18 z / 8 - 1).toNat (zWy σ z (-1) (σ 18 z / 8) 0) := rfl
    refine z_istore_n2 C (z_d dtX7_bestScore_0 16 rfl) rfl ?_
    refine z_iload_n C (z_d dtX7_bestScore_0 17 rfl) rfl ?_
    refine z_iconst C (z_d dtX7_bestScore_0 18 rfl) ?_
    refine z_icmp_ne (tgt := 41) C (z_d dtX7_bestScore_0 19 rfl) (by decide) (by omega) (fun h_33 => ?_) (fun h_33 => ?_)
    · refine z_iload_n C (z_d dtX7_bestScore_0 22 rfl) rfl ?_
      exact ret _ _ _ _ (z_d dtX7_bestScore_0 23 rfl) (⟨_, rfl, Or.inr ⟨by omega, hE_27, by
          rcases h_27 with ⟨a, b⟩ | ⟨a, b, g⟩
          · first
              | exact Or.inl ⟨Or.inl a, rfl⟩
              | (exfalso; omega)
          · first
              | exact Or.inl ⟨Or.inr (by omega), rfl⟩
              | exact Or.inr ⟨a, by omega, by omega, g.resolve_left (by omega)⟩⟩⟩) rfl
    · refine z_bipush C (z_d dtX7_bestScore_0 20 rfl) zb_m3 ?_
      refine z_goto (tgt := 42) C (z_d dtX7_bestScore_0 21 rfl) (by decide) ?_
      exact ret _ _ _ _ (z_d dtX7_bestScore_0 23 rfl) (⟨_, rfl, Or.inr ⟨by omega, hE_27, by
          rcases h_27 with ⟨a, b⟩ | ⟨a, b, g⟩
          · first
              | exact Or.inl ⟨Or.inl a, rfl⟩
              | (exfalso; omega)
          · first
              | exact Or.inl ⟨Or.inr (by omega), rfl⟩
              | exact Or.inr ⟨a, by omega, by omega, g.resolve_left (by omega)⟩⟩⟩) rfl
  · refine z_aload_n C (z_d dtX7_bestScore_0 3 rfl) rfl ?_
    refine z_iconst C (z_d dtX7_bestScore_0 4 rfl) ?_
    refine z_callV C (z_d dtX7_bestScore_0 5 rfl) (k_X7_finding  ) cal_X7_finding gw_15_20 rfl 0 7 rfl rfl rfl rfl hR ⟨rfl, rfl, rfl, rfl⟩ rfl (fun r_9 w_9 h_9 => ?_)
    obtain ⟨rfl, rfl⟩ := h_9
    exact ret _ _ _ _ (z_d dtX7_bestScore_0 6 rfl) (⟨_, rfl, Or.inl ⟨by omega, rfl, rfl⟩⟩) rfl

set_option maxRecDepth 100000 in
set_option maxHeartbeats 4000000 in
theorem k_X7_tellWay {l : Launch} {D : va_G} {t : Nat → ClassId} {ad : Nat → Nat} {σ : zMem} {R : Int} (hR2 : 0 ≤ R ∧ R ≤ 30) : z_Cv l D t yX7_tellWay cX7_tellWay 2 1 40 0 0 [.ref (ad 0), .int (zI R)] (wX ad t σ) (fun w => w = wX ad t (zS (zS σ 14 (zC R)) 15 (fun i => if 0 ≤ i ∧ i < R then σ 39 i else σ 15 i))) := by
  refine z_Cv_of (by decide +kernel) [some (.ref (ad 0)), some (.int (zI R))] rfl rfl (Nat.le_of_ble_eq_true rfl) fun K hl hD ht hR hnm C ret => ?_
  subst hl; subst hD; subst ht
  refine z_aload_n C (z_d dtX7_tellWay_0 0 rfl) rfl ?_
  refine z_iload_n C (z_d dtX7_tellWay_0 1 rfl) rfl ?_
  refine z_bipush C (z_d dtX7_tellWay_0 2 rfl) zb_30 ?_
  refine z_mminP C (z_d dtX7_tellWay_0 3 rfl) gw_9_18 gw_9_19 gw_9_20 gw_9_21 rfl (by rw [hR]; exact Nat.le_of_ble_eq_true rfl) (by rw [hR]; exact Nat.le_of_ble_eq_true rfl) (by rw [hR]; exact Nat.le_refl _) (by rw [hR]; exact Nat.le_refl _) (by omega) (fun m_4 h_4 => ?_)
  obtain rfl : m_4 = R := by omega
  refine pf_X7_55 C (z_d dtX7_tellWay_0 4 rfl) ?_
  refine z_aload_n C (z_d dtX7_tellWay_0 5 rfl) rfl ?_
  refine gf_X7_33 C (z_d dtX7_tellWay_0 6 rfl) ?_
  refine gf_X7_294 C (z_d dtX7_tellWay_0 7 rfl) ?_
  refine z_iconst C (z_d dtX7_tellWay_0 8 rfl) ?_
  refine z_aload_n C (z_d dtX7_tellWay_0 9 rfl) rfl ?_
  refine gf_X7_51 C (z_d dtX7_tellWay_0 10 rfl) ?_
  refine z_iconst C (z_d dtX7_tellWay_0 11 rfl) ?_
  refine z_aload_n C (z_d dtX7_tellWay_0 12 rfl) rfl ?_
  refine gf_X7_55 C (z_d dtX7_tellWay_0 13 rfl) ?_
  try simp (decide := true) only [zS_s, zS_o, zC]
  refine cp_tell C (z_d dtX7_tellWay_0 14 rfl) hR2 rfl (by rw [hR]; exact Nat.le_of_ble_eq_true rfl) (by rw [hR]; exact Nat.le_of_ble_eq_true (by decide +kernel)) ?_
  exact ret _ _ _ (z_d dtX7_tellWay_0 15 rfl) (rfl)

set_option maxRecDepth 100000 in
set_option maxHeartbeats 4000000 in
theorem k_X7_isMoved {l : Launch} {D : va_G} {t : Nat → ClassId} {ad : Nat → Nat} {σ : zMem} {z k : Int} (ok : okX σ) (hz : 0 ≤ z ∧ z < 4) (hk : 0 ≤ k ∧ k < 8) (hth : σ 16 z = 1) : z_Ci l D t yX7_isMoved cX7_isMoved 7 .boolean 6 149 0 0 [.ref (ad 0), .ref (ad (22 + z.toNat)), .int (zI k)] (wX ad t σ) (fun r w => ∃ σ', w = wX ad t σ' ∧ zE σ' σ [39, 41] ∧ ((r = 1 ∧ zMvd σ z k) ∨ (r = 0 ∧ ¬ zMvd σ z k))) := by
  refine z_Ci_of (by decide +kernel) [some (.ref (ad 0)), some (.ref (ad (22 + z.toNat))), some (.int (zI k)), none, none, none, none] rfl rfl (Nat.le_of_ble_eq_true rfl) fun K hl hD ht hR hnm C ret => ?_
  subst hl; subst hD; subst ht
  have ok2 := ok
  obtain ⟨⟨hw, hs, ht, h4, h5, h6, hwc, hlc⟩, ⟨h7, hdd⟩, hmp, oS1, oW1, oA1, oT1, oB1⟩ := ok2
  have hN := zHw_N hw
  have hW := hw; unfold zHw at hW
  have hit := oB1.2.2.2.1
  have h16 := oB1.1
  have hff := oB1.2.1
  have hsz := oB_s oB1
  have h40 := oB1.2.2.2.2
  have h40z := h40 z
  rw [if_pos hth] at h40z
  have hszz := hsz z
  have hvb := zV_b hmp hs z k (σ 18 z / 8) (σ 18 z / 8 - 1).toNat (zWy σ z k (σ 18 z / 8) 0)
  have hvf : zVf σ z k (σ 18 z / 8) = zV σ z k (σ 18 z / 8) (σ 18 z / 8 - 1).toNat (zWy σ z k (σ 18 z / 8) 0) := rfl
  refine z_aload_n C (z_d dtX7_isMoved_0 0 rfl) rfl ?_
  refine gf_X7_33 C (z_d dtX7_isMoved_0 1 rfl) ?_
  refine z_aload_n C (z_d dtX7_isMoved_0 2 rfl) rfl ?_
  refine gf_X7_10 C (z_d dtX7_isMoved_0 3 rfl) ?_
  refine z_aload_n C (z_d dtX7_isMoved_0 4 rfl) rfl ?_
  refine gf_X7_19 C (z_d dtX7_isMoved_0 5 rfl) ?_
  refine z_aload_n C (z_d dtX7_isMoved_0 6 rfl) rfl ?_
  refine z_iload_n C (z_d dtX7_isMoved_0 7 rfl) rfl ?_
  refine z_callV C (z_d dtX7_isMoved_0 8 rfl) (k_X6_findWay  (by first | assumption | omega) (by first | assumption | omega) (by first | assumption | omega) (by first | assumption | omega) hszz (by first | assumption | omega) (by first | assumption | omega) (by first | assumption | omega) (by first | assumption | omega) (by omega)) cal_X6_findWay gw_25_21 rfl 4 6 rfl rfl rfl rfl hR ⟨rfl, rfl, rfl, rfl⟩ rfl (fun r_14 w_14 h_14 => ?_)
  obtain ⟨σ_14, rfl, hE_14, h_14⟩ := h_14
  rw [h40z] at h_14
  refine z_iconst C (z_d dtX7_isMoved_0 9 rfl) ?_
  refine z_icmp_ne (tgt := 23) C (z_d dtX7_isMoved_0 10 rfl) (by decide) (by omega) (fun h_18 => ?_) (fun h_18 => ?_)
  · have hcs : 1 ≤ σ 18 z / 8 ∧ r_14 = zVf σ z k (σ 18 z / 8) ∧ ∀ q : Nat, q < σ 18 z / 8 → σ_14 39 q = zWy σ z k (σ 18 z / 8) q := by
      rcases h_14 with ⟨a, b⟩ | ⟨a, b, g⟩
      · exact absurd b h_18
      · exact ⟨a, b, g.resolve_left h_18⟩
    have e40 : σ_14 40 z = σ 40 z := by rw [hE_14 40 (by decide)]
    have e20 := hE_14 20 (by decide)
    have hwyb := zWy_b hw ht hs hmp (z := z) (wo := k) (R := σ 18 z / 8)
    refine z_iconst C (z_d dtX7_isMoved_0 13 rfl) ?_
    refine z_istore_n3 C (z_d dtX7_isMoved_0 14 rfl) rfl ?_
    refine z_iconst C (z_d dtX7_isMoved_0 15 rfl) ?_
    refine z_istore4 C (z_d dtX7_isMoved_0 16 rfl) rfl ?_
    refine z_iconst C (z_d dtX7_isMoved_0 17 rfl) ?_
    refine z_istore5 C (z_d dtX7_isMoved_0 18 rfl) rfl ?_
    have lp_31 : ∀ (N_31 : Nat) (i : Nat) (row a b : Int), (row = i ∧ i ≤ σ 18 z / 8) → (a = zMr σ z k i) → (b = zMu σ z k (σ 18 z / 8) i) → (σ 18 z / 8 - i).toNat < N_31 → Gd K 0 0 31 [some (.ref (ad 0)), some (.ref (ad (22 + z.toNat))), some (.int (zI k)), some (.int (zI a)), some (.int (zI b)), some (.int (zI row)), none] [] (wX ad (z_t K) σ_14) := by
      intro N_31
      induction N_31 with
      | zero => intro i row a b hi ha hb hm_31; exact absurd hm_31 (Nat.not_lt_zero _)
      | succ N_31 ih_31 =>
        intro i row a b hi ha hb hm_31
        obtain ⟨rfl, hi⟩ := hi
        have hab := zMr_b σ z k i
        have hbb := zMu_b σ z k (σ 18 z / 8) i
        have eV := zHv_E hE_14 (by decide) z i k
        have hv9 := zH0_b (zHv σ z i k)
        have hy := fun q : (i : Int) < σ 18 z / 8 => hcs.2.2 i q
        have hwy := hwyb i
        have hw1 := zWt_b hmp k (zWy σ z k (σ 18 z / 8) i) (zH0 (zHv σ z i k))
        have eW := zWt_E hE_14 (by decide) k (zWy σ z k (σ 18 z / 8) i) (zH0 (zHv σ z i k))
        refine z_iload C (z_d dtX7_isMoved_0 19 rfl) rfl ?_
        refine z_aload_n C (z_d dtX7_isMoved_0 20 rfl) rfl ?_
        refine z_callV C (z_d dtX7_isMoved_0 21 rfl) (k_X5_rows  (by first | assumption | omega) (by rw [e40]; exact hszz)) cal_X5_rows gw_15_16 rfl (22 + _) 5 (wX_sh (by omega)) rfl rfl rfl hR ⟨rfl, rfl, rfl, rfl⟩ rfl (fun r_34 w_34 h_34 => ?_)
        obtain ⟨rfl, rfl⟩ := h_34
        rw [e40, h40z]
        refine z_icmp_ge (tgt := 92) C (z_d dtX7_isMoved_0 22 rfl) (by decide) (by omega) (fun h_37 => ?_) (fun h_37 => ?_)
        · refine z_iconst C (z_d dtX7_isMoved_1 7 rfl) ?_
          refine z_iload C (z_d dtX7_isMoved_1 8 rfl) rfl ?_
          refine z_imul C (z_d dtX7_isMoved_1 9 rfl) ?_
          refine z_iload_n C (z_d dtX7_isMoved_1 10 rfl) rfl ?_
          refine z_icmp_le (tgt := 104) C (z_d dtX7_isMoved_1 11 rfl) (by decide) (by omega) (fun h_97 => ?_) (fun h_97 => ?_)
          · refine z_iconst C (z_d dtX7_isMoved_1 14 rfl) ?_
            exact ret _ _ _ _ (z_d dtX7_isMoved_1 15 rfl) (⟨_, rfl, hE_14, by
                have hin : (σ 18 z / 8).toNat = i := by omega
                unfold zMvd
                rw [hin]
                first
                  | exact Or.inl ⟨rfl, hcs.1, by omega, by omega⟩
                  | exact Or.inr ⟨rfl, fun q => by omega⟩⟩) (z_nb (by omega))
          · refine z_iconst C (z_d dtX7_isMoved_1 12 rfl) ?_
            refine z_goto (tgt := 105) C (z_d dtX7_isMoved_1 13 rfl) (by decide) ?_
            exact ret _ _ _ _ (z_d dtX7_isMoved_1 15 rfl) (⟨_, rfl, hE_14, by
                have hin : (σ 18 z / 8).toNat = i := by omega
                unfold zMvd
                rw [hin]
                first
                  | exact Or.inl ⟨rfl, hcs.1, by omega, by omega⟩
                  | exact Or.inr ⟨rfl, fun q => by omega⟩⟩) (z_nb (by omega))
        · refine z_aload_n C (z_d dtX7_isMoved_0 23 rfl) rfl ?_
          refine z_iload C (z_d dtX7_isMoved_0 24 rfl) rfl ?_
          refine z_iload_n C (z_d dtX7_isMoved_0 25 rfl) rfl ?_
          refine z_callV C (z_d dtX7_isMoved_0 26 rfl) (k_X5_heardOf  (by first | assumption | omega) (by unfold zIt; rw [e20]; exact hit) (by first | assumption | omega) (by first | assumption | omega)) cal_X5_heardOf gw_28_23 rfl (22 + _) 5 (wX_sh (by omega)) rfl rfl rfl hR ⟨rfl, rfl, rfl, rfl⟩ rfl (fun r_44 w_44 h_44 => ?_)
          obtain ⟨rfl, rfl⟩ := h_44
          rw [eV]
          refine z_istore6 C (z_d dtX7_isMoved_0 27 rfl) rfl ?_
          refine z_iload C (z_d dtX7_isMoved_0 28 rfl) rfl ?_
          refine z_bipush C (z_d dtX7_isMoved_0 29 rfl) zb_m2 ?_
          refine z_icmp_eq (tgt := 86) C (z_d dtX7_isMoved_0 30 rfl) (by decide) (by omega) (fun h_53 => ?_) (fun h_53 => ?_)
          · refine z_iinc5 C (z_d dtX7_isMoved_1 5 rfl) rfl ?_
            refine z_goto (tgt := 31) C (z_d dtX7_isMoved_1 6 rfl) (by decide) ?_
            refine z_drop6 ?_
            exact ih_31 (i + 1) _ _ _ (by omega) (by rw [zMr]; (first | rw [if_pos (by omega)] | rw [if_neg (by omega)]) <;> omega) (by rw [zMu]; (first | rw [if_pos (by omega)] | rw [if_neg (by omega)]) <;> omega) (by omega)
          · refine z_iinc3 C (z_d dtX7_isMoved_0 31 rfl) rfl ?_
            refine z_aload_n C (z_d dtX7_isMoved_0 32 rfl) rfl ?_
            refine gf_X7_19 C (z_d dtX7_isMoved_0 33 rfl) ?_
            refine z_iload_n C (z_d dtX7_isMoved_0 34 rfl) rfl ?_
            refine z_aload_n C (z_d dtX7_isMoved_0 35 rfl) rfl ?_
            refine gf_X7_33 C (z_d dtX7_isMoved_0 36 rfl) ?_
            refine gf_X7_294 C (z_d dtX7_isMoved_0 37 rfl) ?_
            refine z_iload C (z_d dtX7_isMoved_0 38 rfl) rfl ?_
            refine al_X18 C (z_d dtX7_isMoved_0 39 rfl) (by omega) ?_
            refine z_top (hy (by omega)) ?_
            refine z_iload C (z_d dtX7_isMoved_1 0 rfl) rfl ?_
            refine z_callV C (z_d dtX7_isMoved_1 1 rfl) (k_X4_weightOf  (by first | assumption | omega) (by omega) (by omega)) cal_X4_weightOf gw_18_0 rfl 2 4 rfl rfl rfl rfl hR ⟨rfl, rfl, rfl, rfl⟩ rfl (fun r_76 w_76 h_76 => ?_)
            obtain ⟨rfl, rfl⟩ := h_76
            rw [eW]
            refine z_iconst C (z_d dtX7_isMoved_1 2 rfl) ?_
            refine z_icmp_ne (tgt := 86) C (z_d dtX7_isMoved_1 3 rfl) (by decide) (by omega) (fun h_80 => ?_) (fun h_80 => ?_)
            · refine z_iinc5 C (z_d dtX7_isMoved_1 5 rfl) rfl ?_
              refine z_goto (tgt := 31) C (z_d dtX7_isMoved_1 6 rfl) (by decide) ?_
              refine z_drop6 ?_
              exact ih_31 (i + 1) _ _ _ (by omega) (by rw [zMr]; (first | rw [if_pos (by omega)] | rw [if_neg (by omega)]) <;> omega) (by rw [zMu]; (first | rw [if_pos (by omega)] | rw [if_neg (by omega)]) <;> omega) (by omega)
            · refine z_iinc4 C (z_d dtX7_isMoved_1 4 rfl) rfl ?_
              refine z_iinc5 C (z_d dtX7_isMoved_1 5 rfl) rfl ?_
              refine z_goto (tgt := 31) C (z_d dtX7_isMoved_1 6 rfl) (by decide) ?_
              refine z_drop6 ?_
              exact ih_31 (i + 1) _ _ _ (by omega) (by rw [zMr]; (first | rw [if_pos (by omega)] | rw [if_neg (by omega)]) <;> omega) (by rw [zMu]; (first | rw [if_pos (by omega)] | rw [if_neg (by omega)]) <;> omega) (by omega)
    exact lp_31 _ 0 _ _ _ (by omega) rfl rfl (Nat.lt_succ_self _)
  · refine z_iconst C (z_d dtX7_isMoved_0 11 rfl) ?_
    exact ret _ _ _ _ (z_d dtX7_isMoved_0 12 rfl) (⟨_, rfl, hE_14, Or.inr ⟨rfl, fun q => by
        unfold zMvd at q
        rcases h_14 with ⟨a, b⟩ | ⟨a, b, g⟩
        · omega
        · omega⟩⟩) (z_nb (by omega))
