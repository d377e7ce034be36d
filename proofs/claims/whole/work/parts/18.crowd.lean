/-! AREAS, WALKERS, WAYS -/
set_option maxRecDepth 100000 in
set_option maxHeartbeats 4000000 in
theorem k_X0_extent {l : Launch} {D : va_G} {t : Nat → ClassId} {ad : Nat → Nat} {σ : zMem} {z : Int} (hz : 0 ≤ z ∧ z < σ 49 0) (haz : zAz σ z) : z_Ci l D t yX0_extent cX0_extent 1 .int 0 0 0 0 [.ref (σ 48 z).toNat] (wX ad t σ) (fun r w => w = wX ad t σ ∧ r = zEx (σ 50 (5 * z + 1)) (σ 50 (5 * z + 2)) (σ 50 (5 * z + 3)) (σ 50 (5 * z + 4))) := by
  refine z_Ci_of (by decide +kernel) [some (.ref (σ 48 z).toNat)] rfl rfl (Nat.le_of_ble_eq_true rfl) fun K hl hD ht hR hnm C ret => ?_
  subst hl; subst hD; subst ht
  have ha := haz; unfold zAz at ha
  refine z_aload_n C (z_d dtX0_extent_0 0 rfl) rfl ?_
  refine gf_X0_16 C (by omega) (z_d dtX0_extent_0 1 rfl) ?_
  refine z_aload_n C (z_d dtX0_extent_0 2 rfl) rfl ?_
  refine gf_X0_13 C (by omega) (z_d dtX0_extent_0 3 rfl) ?_
  refine z_isub C (z_d dtX0_extent_0 4 rfl) ?_
  refine z_iconst C (z_d dtX0_extent_0 5 rfl) ?_
  refine z_iadd C (z_d dtX0_extent_0 6 rfl) ?_
  refine z_aload_n C (z_d dtX0_extent_0 7 rfl) rfl ?_
  refine gf_X0_22 C (by omega) (z_d dtX0_extent_0 8 rfl) ?_
  refine z_aload_n C (z_d dtX0_extent_0 9 rfl) rfl ?_
  refine gf_X0_19 C (by omega) (z_d dtX0_extent_0 10 rfl) ?_
  refine z_isub C (z_d dtX0_extent_0 11 rfl) ?_
  refine z_iconst C (z_d dtX0_extent_0 12 rfl) ?_
  refine z_iadd C (z_d dtX0_extent_0 13 rfl) ?_
  refine z_imul C (z_d dtX0_extent_0 14 rfl) ?_
  exact ret _ _ _ _ (z_d dtX0_extent_0 15 rfl) (⟨rfl, rfl⟩) rfl

set_option maxRecDepth 100000 in
set_option maxHeartbeats 4000000 in
theorem k_X0_contains {l : Launch} {D : va_G} {t : Nat → ClassId} {ad : Nat → Nat} {σ : zMem} {z f x y : Int} (hz : 0 ≤ z ∧ z < σ 49 0) (haz : zAz σ z) (hf : -2147483648 ≤ f ∧ f < 2147483648) (hx : -2147483648 ≤ x ∧ x < 2147483648) (hyy : -2147483648 ≤ y ∧ y < 2147483648) : z_Ci l D t yX0_contains cX0_contains 4 .boolean 0 0 0 0 [.ref (σ 48 z).toNat, .int (zI f), .int (zI x), .int (zI y)] (wX ad t σ) (fun r w => w = wX ad t σ ∧ ((r = 1 ∧ (f = σ 50 (5 * z) ∧ (σ 50 (5 * z + 1) ≤ x ∧ x ≤ σ 50 (5 * z + 2)) ∧ (σ 50 (5 * z + 3) ≤ y ∧ y ≤ σ 50 (5 * z + 4)))) ∨ (r = 0 ∧ ¬ (f = σ 50 (5 * z) ∧ (σ 50 (5 * z + 1) ≤ x ∧ x ≤ σ 50 (5 * z + 2)) ∧ (σ 50 (5 * z + 3) ≤ y ∧ y ≤ σ 50 (5 * z + 4)))))) := by
  refine z_Ci_of (by decide +kernel) [some (.ref (σ 48 z).toNat), some (.int (zI f)), some (.int (zI x)), some (.int (zI y))] rfl rfl (Nat.le_of_ble_eq_true rfl) fun K hl hD ht hR hnm C ret => ?_
  subst hl; subst hD; subst ht
  have ha := haz; unfold zAz at ha
  refine z_iload_n C (z_d dtX0_contains_0 0 rfl) rfl ?_
  refine z_aload_n C (z_d dtX0_contains_0 1 rfl) rfl ?_
  refine gf_X0_7 C (by omega) (z_d dtX0_contains_0 2 rfl) ?_
  refine z_icmp_ne (tgt := 44) C (z_d dtX0_contains_0 3 rfl) (by decide) (by omega) (fun h_5 => ?_) (fun h_5 => ?_)
  · refine z_iconst C (z_d dtX0_contains_0 22 rfl) ?_
    exact ret _ _ _ _ (z_d dtX0_contains_0 23 rfl) (⟨rfl, by omega⟩) (z_nb (by omega))
  · refine z_iload_n C (z_d dtX0_contains_0 4 rfl) rfl ?_
    refine z_aload_n C (z_d dtX0_contains_0 5 rfl) rfl ?_
    refine gf_X0_13 C (by omega) (z_d dtX0_contains_0 6 rfl) ?_
    refine z_icmp_lt (tgt := 44) C (z_d dtX0_contains_0 7 rfl) (by decide) (by omega) (fun h_13 => ?_) (fun h_13 => ?_)
    · refine z_iconst C (z_d dtX0_contains_0 22 rfl) ?_
      exact ret _ _ _ _ (z_d dtX0_contains_0 23 rfl) (⟨rfl, by omega⟩) (z_nb (by omega))
    · refine z_iload_n C (z_d dtX0_contains_0 8 rfl) rfl ?_
      refine z_aload_n C (z_d dtX0_contains_0 9 rfl) rfl ?_
      refine gf_X0_16 C (by omega) (z_d dtX0_contains_0 10 rfl) ?_
      refine z_icmp_gt (tgt := 44) C (z_d dtX0_contains_0 11 rfl) (by decide) (by omega) (fun h_21 => ?_) (fun h_21 => ?_)
      · refine z_iconst C (z_d dtX0_contains_0 22 rfl) ?_
        exact ret _ _ _ _ (z_d dtX0_contains_0 23 rfl) (⟨rfl, by omega⟩) (z_nb (by omega))
      · refine z_iload_n C (z_d dtX0_contains_0 12 rfl) rfl ?_
        refine z_aload_n C (z_d dtX0_contains_0 13 rfl) rfl ?_
        refine gf_X0_19 C (by omega) (z_d dtX0_contains_0 14 rfl) ?_
        refine z_icmp_lt (tgt := 44) C (z_d dtX0_contains_0 15 rfl) (by decide) (by omega) (fun h_29 => ?_) (fun h_29 => ?_)
        · refine z_iconst C (z_d dtX0_contains_0 22 rfl) ?_
          exact ret _ _ _ _ (z_d dtX0_contains_0 23 rfl) (⟨rfl, by omega⟩) (z_nb (by omega))
        · refine z_iload_n C (z_d dtX0_contains_0 16 rfl) rfl ?_
          refine z_aload_n C (z_d dtX0_contains_0 17 rfl) rfl ?_
          refine gf_X0_22 C (by omega) (z_d dtX0_contains_0 18 rfl) ?_
          refine z_icmp_gt (tgt := 44) C (z_d dtX0_contains_0 19 rfl) (by decide) (by omega) (fun h_37 => ?_) (fun h_37 => ?_)
          · refine z_iconst C (z_d dtX0_contains_0 22 rfl) ?_
            exact ret _ _ _ _ (z_d dtX0_contains_0 23 rfl) (⟨rfl, by omega⟩) (z_nb (by omega))
          · refine z_iconst C (z_d dtX0_contains_0 20 rfl) ?_
            refine z_goto (tgt := 45) C (z_d dtX0_contains_0 21 rfl) (by decide) ?_
            exact ret _ _ _ _ (z_d dtX0_contains_0 23 rfl) (⟨rfl, by omega⟩) (z_nb (by omega))

set_option maxRecDepth 100000 in
set_option maxHeartbeats 4000000 in
theorem k_X0_cellsInBoth {l : Launch} {D : va_G} {t : Nat → ClassId} {ad : Nat → Nat} {σ : zMem} {z y : Int} (hz : 0 ≤ z ∧ z < σ 49 0) (haz : zAz σ z) (hy : 0 ≤ y ∧ y < σ 49 0) (hay : zAz σ y) : z_Ci l D t yX0_cellsInBoth cX0_cellsInBoth 4 .int 1 21 0 0 [.ref (σ 48 z).toNat, .ref (σ 48 y).toNat] (wX ad t σ) (fun r w => w = wX ad t σ ∧ r = zIb (σ 50 (5 * z)) (σ 50 (5 * z + 1)) (σ 50 (5 * z + 2)) (σ 50 (5 * z + 3)) (σ 50 (5 * z + 4)) (σ 50 (5 * y)) (σ 50 (5 * y + 1)) (σ 50 (5 * y + 2)) (σ 50 (5 * y + 3)) (σ 50 (5 * y + 4))) := by
  refine z_Ci_of (by decide +kernel) [some (.ref (σ 48 z).toNat), some (.ref (σ 48 y).toNat), none, none] rfl rfl (Nat.le_of_ble_eq_true rfl) fun K hl hD ht hR hnm C ret => ?_
  subst hl; subst hD; subst ht
  have ha := haz; unfold zAz at ha
  have hb := hay; unfold zAz at hb
  refine z_aload_n C (z_d dtX0_cellsInBoth_0 0 rfl) rfl ?_
  refine gf_X0_16 C (by omega) (z_d dtX0_cellsInBoth_0 1 rfl) ?_
  refine z_aload_n C (z_d dtX0_cellsInBoth_0 2 rfl) rfl ?_
  refine gf_X0_16 C (by omega) (z_d dtX0_cellsInBoth_0 3 rfl) ?_
  refine z_mminP C (z_d dtX0_cellsInBoth_0 4 rfl) gw_32_4 gw_9_19 gw_9_20 gw_9_21 rfl (by rw [hR]; exact Nat.le_of_ble_eq_true rfl) (by rw [hR]; exact Nat.le_of_ble_eq_true rfl) (by rw [hR]; exact Nat.le_refl _) (by rw [hR]; exact Nat.le_refl _) (by omega) (fun m_8 h_8 => ?_)
  refine z_aload_n C (z_d dtX0_cellsInBoth_0 5 rfl) rfl ?_
  refine gf_X0_13 C (by omega) (z_d dtX0_cellsInBoth_0 6 rfl) ?_
  refine z_aload_n C (z_d dtX0_cellsInBoth_0 7 rfl) rfl ?_
  refine gf_X0_13 C (by omega) (z_d dtX0_cellsInBoth_0 8 rfl) ?_
  refine z_mmaxP C (z_d dtX0_cellsInBoth_0 9 rfl) gw_32_5 gw_9_23 gw_9_20 gw_10_0 rfl (by rw [hR]; exact Nat.le_of_ble_eq_true rfl) (by rw [hR]; exact Nat.le_of_ble_eq_true rfl) (by rw [hR]; exact Nat.le_refl _) (by rw [hR]; exact Nat.le_refl _) (by omega) (fun m_19 h_19 => ?_)
  refine z_isub C (z_d dtX0_cellsInBoth_0 10 rfl) ?_
  refine z_iconst C (z_d dtX0_cellsInBoth_0 11 rfl) ?_
  refine z_iadd C (z_d dtX0_cellsInBoth_0 12 rfl) ?_
  refine z_istore_n2 C (z_d dtX0_cellsInBoth_0 13 rfl) rfl ?_
  refine z_aload_n C (z_d dtX0_cellsInBoth_0 14 rfl) rfl ?_
  refine gf_X0_22 C (by omega) (z_d dtX0_cellsInBoth_0 15 rfl) ?_
  refine z_aload_n C (z_d dtX0_cellsInBoth_0 16 rfl) rfl ?_
  refine gf_X0_22 C (by omega) (z_d dtX0_cellsInBoth_0 17 rfl) ?_
  refine z_mminP C (z_d dtX0_cellsInBoth_0 18 rfl) gw_32_4 gw_9_19 gw_9_20 gw_9_21 rfl (by rw [hR]; exact Nat.le_of_ble_eq_true rfl) (by rw [hR]; exact Nat.le_of_ble_eq_true rfl) (by rw [hR]; exact Nat.le_refl _) (by rw [hR]; exact Nat.le_refl _) (by omega) (fun m_34 h_34 => ?_)
  refine z_aload_n C (z_d dtX0_cellsInBoth_0 19 rfl) rfl ?_
  refine gf_X0_19 C (by omega) (z_d dtX0_cellsInBoth_0 20 rfl) ?_
  refine z_aload_n C (z_d dtX0_cellsInBoth_0 21 rfl) rfl ?_
  refine gf_X0_19 C (by omega) (z_d dtX0_cellsInBoth_0 22 rfl) ?_
  refine z_mmaxP C (z_d dtX0_cellsInBoth_0 23 rfl) gw_32_5 gw_9_23 gw_9_20 gw_10_0 rfl (by rw [hR]; exact Nat.le_of_ble_eq_true rfl) (by rw [hR]; exact Nat.le_of_ble_eq_true rfl) (by rw [hR]; exact Nat.le_refl _) (by rw [hR]; exact Nat.le_refl _) (by omega) (fun m_45 h_45 => ?_)
  refine z_isub C (z_d dtX0_cellsInBoth_0 24 rfl) ?_
  refine z_iconst C (z_d dtX0_cellsInBoth_0 25 rfl) ?_
  refine z_iadd C (z_d dtX0_cellsInBoth_0 26 rfl) ?_
  refine z_istore_n3 C (z_d dtX0_cellsInBoth_0 27 rfl) rfl ?_
  refine z_aload_n C (z_d dtX0_cellsInBoth_0 28 rfl) rfl ?_
  refine gf_X0_7 C (by omega) (z_d dtX0_cellsInBoth_0 29 rfl) ?_
  refine z_aload_n C (z_d dtX0_cellsInBoth_0 30 rfl) rfl ?_
  refine gf_X0_7 C (by omega) (z_d dtX0_cellsInBoth_0 31 rfl) ?_
  refine z_icmp_ne (tgt := 77) C (z_d dtX0_cellsInBoth_0 32 rfl) (by decide) (by omega) (fun h_60 => ?_) (fun h_60 => ?_)
  · refine z_iconst C (z_d dtX0_cellsInBoth_1 1 rfl) ?_
    exact ret _ _ _ _ (z_d dtX0_cellsInBoth_1 2 rfl) (⟨rfl, by
        unfold zIb
        first
          | (rw [if_pos (by omega), show min (σ 50 (5 * z + 2)) (σ 50 (5 * y + 2)) = m_8 by omega, show max (σ 50 (5 * z + 1)) (σ 50 (5 * y + 1)) = m_19 by omega, show min (σ 50 (5 * z + 4)) (σ 50 (5 * y + 4)) = m_34 by omega, show max (σ 50 (5 * z + 3)) (σ 50 (5 * y + 3)) = m_45 by omega])
          | rw [if_neg (by omega)]⟩) rfl
  · refine z_iload_n C (z_d dtX0_cellsInBoth_0 33 rfl) rfl ?_
    refine z_if_le (tgt := 77) C (z_d dtX0_cellsInBoth_0 34 rfl) (by decide) (by omega) (fun h_64 => ?_) (fun h_64 => ?_)
    · refine z_iconst C (z_d dtX0_cellsInBoth_1 1 rfl) ?_
      exact ret _ _ _ _ (z_d dtX0_cellsInBoth_1 2 rfl) (⟨rfl, by
          unfold zIb
          first
            | (rw [if_pos (by omega), show min (σ 50 (5 * z + 2)) (σ 50 (5 * y + 2)) = m_8 by omega, show max (σ 50 (5 * z + 1)) (σ 50 (5 * y + 1)) = m_19 by omega, show min (σ 50 (5 * z + 4)) (σ 50 (5 * y + 4)) = m_34 by omega, show max (σ 50 (5 * z + 3)) (σ 50 (5 * y + 3)) = m_45 by omega])
            | rw [if_neg (by omega)]⟩) rfl
    · refine z_iload_n C (z_d dtX0_cellsInBoth_0 35 rfl) rfl ?_
      refine z_if_le (tgt := 77) C (z_d dtX0_cellsInBoth_0 36 rfl) (by decide) (by omega) (fun h_68 => ?_) (fun h_68 => ?_)
      · refine z_iconst C (z_d dtX0_cellsInBoth_1 1 rfl) ?_
        exact ret _ _ _ _ (z_d dtX0_cellsInBoth_1 2 rfl) (⟨rfl, by
            unfold zIb
            first
              | (rw [if_pos (by omega), show min (σ 50 (5 * z + 2)) (σ 50 (5 * y + 2)) = m_8 by omega, show max (σ 50 (5 * z + 1)) (σ 50 (5 * y + 1)) = m_19 by omega, show min (σ 50 (5 * z + 4)) (σ 50 (5 * y + 4)) = m_34 by omega, show max (σ 50 (5 * z + 3)) (σ 50 (5 * y + 3)) = m_45 by omega])
              | rw [if_neg (by omega)]⟩) rfl
      · refine z_iload_n C (z_d dtX0_cellsInBoth_0 37 rfl) rfl ?_
        refine z_iload_n C (z_d dtX0_cellsInBoth_0 38 rfl) rfl ?_
        refine z_imul C (z_d dtX0_cellsInBoth_0 39 rfl) ?_
        refine z_goto (tgt := 78) C (z_d dtX0_cellsInBoth_1 0 rfl) (by decide) ?_
        exact ret _ _ _ _ (z_d dtX0_cellsInBoth_1 2 rfl) (⟨rfl, by
            unfold zIb
            first
              | (rw [if_pos (by omega), show min (σ 50 (5 * z + 2)) (σ 50 (5 * y + 2)) = m_8 by omega, show max (σ 50 (5 * z + 1)) (σ 50 (5 * y + 1)) = m_19 by omega, show min (σ 50 (5 * z + 4)) (σ 50 (5 * y + 4)) = m_34 by omega, show max (σ 50 (5 * z + 3)) (σ 50 (5 * y + 3)) = m_45 by omega])
              | rw [if_neg (by omega)]⟩) rfl

set_option maxRecDepth 100000 in
set_option maxHeartbeats 4000000 in
theorem k_X0_cellsApart {l : Launch} {D : va_G} {t : Nat → ClassId} {ad : Nat → Nat} {σ : zMem} {z y : Int} (hz : 0 ≤ z ∧ z < σ 49 0) (haz : zAz σ z) (hy : 0 ≤ y ∧ y < σ 49 0) (hay : zAz σ y) : z_Ci l D t yX0_cellsApart cX0_cellsApart 2 .int 2 44 0 0 [.ref (σ 48 z).toNat, .ref (σ 48 y).toNat] (wX ad t σ) (fun r w => w = wX ad t σ ∧ r = zAp σ z y) := by
  refine z_Ci_of (by decide +kernel) [some (.ref (σ 48 z).toNat), some (.ref (σ 48 y).toNat)] rfl rfl (Nat.le_of_ble_eq_true rfl) fun K hl hD ht hR hnm C ret => ?_
  subst hl; subst hD; subst ht
  refine z_aload_n C (z_d dtX0_cellsApart_0 0 rfl) rfl ?_
  refine z_callV C (z_d dtX0_cellsApart_0 1 rfl) (k_X0_extent  (by first | assumption | omega) (by first | assumption | omega)) cal_X0_extent gw_31_20 rfl (30 + _) 0 (wX_ar (by omega)) rfl rfl rfl hR ⟨rfl, rfl, rfl, rfl⟩ rfl (fun r_1 w_1 h_1 => ?_)
  obtain ⟨rfl, rfl⟩ := h_1
  refine z_aload_n C (z_d dtX0_cellsApart_0 2 rfl) rfl ?_
  refine z_callV C (z_d dtX0_cellsApart_0 3 rfl) (k_X0_extent  (by first | assumption | omega) (by first | assumption | omega)) cal_X0_extent gw_31_20 rfl (30 + _) 0 (wX_ar (by omega)) rfl rfl rfl hR ⟨rfl, rfl, rfl, rfl⟩ rfl (fun r_5 w_5 h_5 => ?_)
  obtain ⟨rfl, rfl⟩ := h_5
  refine z_iadd C (z_d dtX0_cellsApart_0 4 rfl) ?_
  refine z_iconst C (z_d dtX0_cellsApart_0 5 rfl) ?_
  refine z_aload_n C (z_d dtX0_cellsApart_0 6 rfl) rfl ?_
  refine z_aload_n C (z_d dtX0_cellsApart_0 7 rfl) rfl ?_
  refine z_callV C (z_d dtX0_cellsApart_0 8 rfl) (k_X0_cellsInBoth  (by first | assumption | omega) (by first | assumption | omega) (by first | assumption | omega) (by first | assumption | omega)) cal_X0_cellsInBoth gw_32_0 rfl (30 + _) 0 (wX_ar (by omega)) rfl rfl rfl hR ⟨rfl, rfl, rfl, rfl⟩ rfl (fun r_12 w_12 h_12 => ?_)
  obtain ⟨rfl, rfl⟩ := h_12
  refine z_imul C (z_d dtX0_cellsApart_0 9 rfl) ?_
  refine z_isub C (z_d dtX0_cellsApart_0 10 rfl) ?_
  exact ret _ _ _ _ (z_d dtX0_cellsApart_0 11 rfl) (⟨rfl, rfl⟩) rfl

set_option maxRecDepth 100000 in
set_option maxHeartbeats 4000000 in
theorem k_X2_scatter {l : Launch} {D : va_G} {t : Nat → ClassId} {ad : Nat → Nat} {σ : zMem}   : z_Cv l D t yX2_scatter cX2_scatter 1 1 23 0 0 [.ref (ad 5)] (wX ad t σ) (fun w => w = wX ad t (zS (zS σ 10 (zC (-1))) 12 (zC 0))) := by
  refine z_Cv_of (by decide +kernel) [some (.ref (ad 5))] rfl rfl (Nat.le_of_ble_eq_true rfl) fun K hl hD ht hR hnm C ret => ?_
  subst hl; subst hD; subst ht
  refine z_aload_n C (z_d dtX2_scatter_0 0 rfl) rfl ?_
  refine gf_X2_18 C (z_d dtX2_scatter_0 1 rfl) ?_
  refine z_iconst C (z_d dtX2_scatter_0 2 rfl) ?_
  refine z_callSv C (z_d dtX2_scatter_0 3 rfl) kf_X20 cal_J7_fill_53178 gw_7_7 rfl rfl hR ⟨rfl, rfl, rfl, rfl⟩ rfl (fun w_5 h_5 => ?_)
  subst h_5
  refine z_aload_n C (z_d dtX2_scatter_0 4 rfl) rfl ?_
  refine z_iconst C (z_d dtX2_scatter_0 5 rfl) ?_
  refine pf_X2_9 C (z_d dtX2_scatter_0 6 rfl) ?_
  exact ret _ _ _ (z_d dtX2_scatter_0 7 rfl) (rfl)

set_option maxRecDepth 100000 in
set_option maxHeartbeats 4000000 in
theorem k_X2_move {l : Launch} {D : va_G} {t : Nat → ClassId} {ad : Nat → Nat} {σ : zMem} {k c : Int} (hk : 0 ≤ k ∧ k < 20) : z_Ci l D t yX2_move cX2_move 4 .int 0 0 0 0 [.ref (ad 5), .int (zI k), .int (zI c)] (wX ad t σ) (fun r w => w = wX ad t (zS (zS σ 10 (zU (σ 10) k c)) 12 (zC 0)) ∧ r = σ 10 k) := by
  refine z_Ci_of (by decide +kernel) [some (.ref (ad 5)), some (.int (zI k)), some (.int (zI c)), none] rfl rfl (Nat.le_of_ble_eq_true rfl) fun K hl hD ht hR hnm C ret => ?_
  subst hl; subst hD; subst ht
  refine z_aload_n C (z_d dtX2_move_0 0 rfl) rfl ?_
  refine gf_X2_18 C (z_d dtX2_move_0 1 rfl) ?_
  refine z_iload_n C (z_d dtX2_move_0 2 rfl) rfl ?_
  refine al_X20 C (z_d dtX2_move_0 3 rfl) (by omega) ?_
  refine z_istore_n3 C (z_d dtX2_move_0 4 rfl) rfl ?_
  refine z_aload_n C (z_d dtX2_move_0 5 rfl) rfl ?_
  refine gf_X2_18 C (z_d dtX2_move_0 6 rfl) ?_
  refine z_iload_n C (z_d dtX2_move_0 7 rfl) rfl ?_
  refine z_iload_n C (z_d dtX2_move_0 8 rfl) rfl ?_
  refine as_X20 C (z_d dtX2_move_0 9 rfl) (by omega) ?_
  refine z_aload_n C (z_d dtX2_move_0 10 rfl) rfl ?_
  refine z_iconst C (z_d dtX2_move_0 11 rfl) ?_
  refine pf_X2_9 C (z_d dtX2_move_0 12 rfl) ?_
  refine z_iload_n C (z_d dtX2_move_0 13 rfl) rfl ?_
  exact ret _ _ _ _ (z_d dtX2_move_0 14 rfl) (⟨rfl, rfl⟩) rfl

set_option maxRecDepth 100000 in
set_option maxHeartbeats 4000000 in
theorem k_X2_putLeast {l : Launch} {D : va_G} {t : Nat → ClassId} {ad : Nat → Nat} {σ : zMem} {n : Int}  : z_Ci l D t yX2_putLeast cX2_putLeast 3 .int 0 0 0 0 [.ref (ad 5), .int (zI n)] (wX ad t σ) (fun r w => w = wX ad t (zS (zS σ 11 (zC n)) 12 (zC 0)) ∧ r = σ 11 0) := by
  refine z_Ci_of (by decide +kernel) [some (.ref (ad 5)), some (.int (zI n)), none] rfl rfl (Nat.le_of_ble_eq_true rfl) fun K hl hD ht hR hnm C ret => ?_
  subst hl; subst hD; subst ht
  refine z_aload_n C (z_d dtX2_putLeast_0 0 rfl) rfl ?_
  refine gf_X2_15 C (z_d dtX2_putLeast_0 1 rfl) ?_
  refine z_istore_n2 C (z_d dtX2_putLeast_0 2 rfl) rfl ?_
  refine z_aload_n C (z_d dtX2_putLeast_0 3 rfl) rfl ?_
  refine z_iload_n C (z_d dtX2_putLeast_0 4 rfl) rfl ?_
  refine pf_X2_15 C (z_d dtX2_putLeast_0 5 rfl) ?_
  refine z_aload_n C (z_d dtX2_putLeast_0 6 rfl) rfl ?_
  refine z_iconst C (z_d dtX2_putLeast_0 7 rfl) ?_
  refine pf_X2_9 C (z_d dtX2_putLeast_0 8 rfl) ?_
  refine z_iload_n C (z_d dtX2_putLeast_0 9 rfl) rfl ?_
  exact ret _ _ _ _ (z_d dtX2_putLeast_0 10 rfl) (⟨rfl, rfl⟩) rfl

set_option maxRecDepth 100000 in
set_option maxHeartbeats 4000000 in
theorem k_X2_somewhere {l : Launch} {D : va_G} {t : Nat → ClassId} {ad : Nat → Nat} {σ : zMem}  (h10 : ∀ i, -1 ≤ σ 10 i ∧ σ 10 i < 72) : z_Ci l D t yX2_somewhere cX2_somewhere 3 .int 0 0 0 0 [.ref (ad 5)] (wX ad t σ) (fun r w => w = wX ad t σ ∧ r = zSo (σ 10) 20) := by
  refine z_Ci_of (by decide +kernel) [some (.ref (ad 5)), none, none] rfl rfl (Nat.le_of_ble_eq_true rfl) fun K hl hD ht hR hnm C ret => ?_
  subst hl; subst hD; subst ht
  refine z_iconst C (z_d dtX2_somewhere_0 0 rfl) ?_
  refine z_istore_n1 C (z_d dtX2_somewhere_0 1 rfl) rfl ?_
  refine z_iconst C (z_d dtX2_somewhere_0 2 rfl) ?_
  refine z_istore_n2 C (z_d dtX2_somewhere_0 3 rfl) rfl ?_
  have lp_4 : ∀ (N_4 : Nat) (i : Nat) (k s : Int), (k = i ∧ i ≤ 20) → (s = zSo (σ 10) i) → 20 - i < N_4 → Gd K 0 0 4 [some (.ref (ad 5)), some (.int (zI s)), some (.int (zI k))] [] (wX ad (z_t K) σ) := by
    intro N_4
    induction N_4 with
    | zero => intro i k s hi hs hm_4; exact absurd hm_4 (Nat.not_lt_zero _)
    | succ N_4 ih_4 =>
      intro i k s hi hs hm_4
      obtain ⟨rfl, hi⟩ := hi
      have h10i := h10 i
      refine z_iload_n C (z_d dtX2_somewhere_0 4 rfl) rfl ?_
      refine z_bipush C (z_d dtX2_somewhere_0 5 rfl) zb_20 ?_
      refine z_icmp_ge (tgt := 29) C (z_d dtX2_somewhere_0 6 rfl) (by decide) (by omega) (fun h_7 => ?_) (fun h_7 => ?_)
      · refine z_iload_n C (z_d dtX2_somewhere_0 16 rfl) rfl ?_
        exact ret _ _ _ _ (z_d dtX2_somewhere_0 17 rfl) (⟨rfl, by rw [hs, show i = 20 by omega]⟩) rfl
      · refine z_aload_n C (z_d dtX2_somewhere_0 7 rfl) rfl ?_
        refine gf_X2_18 C (z_d dtX2_somewhere_0 8 rfl) ?_
        refine z_iload_n C (z_d dtX2_somewhere_0 9 rfl) rfl ?_
        refine al_X20 C (z_d dtX2_somewhere_0 10 rfl) (by omega) ?_
        refine z_iconst C (z_d dtX2_somewhere_0 11 rfl) ?_
        refine z_icmp_eq (tgt := 23) C (z_d dtX2_somewhere_0 12 rfl) (by decide) (by omega) (fun h_17 => ?_) (fun h_17 => ?_)
        · refine z_iinc2 C (z_d dtX2_somewhere_0 14 rfl) rfl ?_
          refine z_goto (tgt := 4) C (z_d dtX2_somewhere_0 15 rfl) (by decide) ?_
          exact ih_4 (i + 1) _ _ (by omega) (by rw [zSo]; (first | rw [if_pos (by omega)] | rw [if_neg (by omega)]) <;> omega) (by omega)
        · refine z_iinc1 C (z_d dtX2_somewhere_0 13 rfl) rfl ?_
          refine z_iinc2 C (z_d dtX2_somewhere_0 14 rfl) rfl ?_
          refine z_goto (tgt := 4) C (z_d dtX2_somewhere_0 15 rfl) (by decide) ?_
          exact ih_4 (i + 1) _ _ (by omega) (by rw [zSo]; (first | rw [if_pos (by omega)] | rw [if_neg (by omega)]) <;> omega) (by omega)
  exact lp_4 _ 0 _ _ (by omega) rfl (Nat.lt_succ_self _)

set_option maxRecDepth 100000 in
set_option maxHeartbeats 4000000 in
theorem k_X2_numberIn {l : Launch} {D : va_G} {t : Nat → ClassId} {ad : Nat → Nat} {σ : zMem} {z : Int} (hw : zHw σ) (hz : 0 ≤ z ∧ z < σ 49 0) (haz : zAz σ z) (h10 : ∀ i, -1 ≤ σ 10 i ∧ σ 10 i < 72) : z_Ci l D t yX2_numberIn cX2_numberIn 6 .int 2 41 0 0 [.ref (ad 5), .ref (σ 48 z).toNat, .ref (ad 1)] (wX ad t σ) (fun r w => w = wX ad t σ ∧ r = zNi σ (σ 50 (5 * z)) (σ 50 (5 * z + 1)) (σ 50 (5 * z + 2)) (σ 50 (5 * z + 3)) (σ 50 (5 * z + 4)) 20) := by
  refine z_Ci_of (by decide +kernel) [some (.ref (ad 5)), some (.ref (σ 48 z).toNat), some (.ref (ad 1)), none, none, none] rfl rfl (Nat.le_of_ble_eq_true rfl) fun K hl hD ht hR hnm C ret => ?_
  subst hl; subst hD; subst ht
  have ha := haz; unfold zAz at ha
  have hN := zHw_N hw
  have hW := hw; unfold zHw at hW
  refine z_iconst C (z_d dtX2_numberIn_0 0 rfl) ?_
  refine z_istore_n3 C (z_d dtX2_numberIn_0 1 rfl) rfl ?_
  refine z_iconst C (z_d dtX2_numberIn_0 2 rfl) ?_
  refine z_istore4 C (z_d dtX2_numberIn_0 3 rfl) rfl ?_
  have lp_5 : ∀ (N_5 : Nat) (i : Nat) (k s : Int), (k = i ∧ i ≤ 20) → (s = zNi σ (σ 50 (5 * z)) (σ 50 (5 * z + 1)) (σ 50 (5 * z + 2)) (σ 50 (5 * z + 3)) (σ 50 (5 * z + 4)) i) → 20 - i < N_5 → Gd K 0 0 5 [some (.ref (ad 5)), some (.ref (σ 48 z).toNat), some (.ref (ad 1)), some (.int (zI s)), some (.int (zI k)), none] [] (wX ad (z_t K) σ) := by
    intro N_5
    induction N_5 with
    | zero => intro i k s hi hs hm_5; exact absurd hm_5 (Nat.not_lt_zero _)
    | succ N_5 ih_5 =>
      intro i k s hi hs hm_5
      obtain ⟨rfl, hi⟩ := hi
      have h10i := h10 i
      have hg := fun q : 0 ≤ σ 10 i ∧ σ 10 i < zN σ => zGeo hw q
      refine z_iload C (z_d dtX2_numberIn_0 4 rfl) rfl ?_
      refine z_bipush C (z_d dtX2_numberIn_0 5 rfl) zb_20 ?_
      refine z_icmp_ge (tgt := 64) C (z_d dtX2_numberIn_0 6 rfl) (by decide) (by omega) (fun h_9 => ?_) (fun h_9 => ?_)
      · refine z_iload_n C (z_d dtX2_numberIn_0 31 rfl) rfl ?_
        exact ret _ _ _ _ (z_d dtX2_numberIn_0 32 rfl) (⟨rfl, by rw [hs, show i = 20 by omega]⟩) rfl
      · refine z_aload_n C (z_d dtX2_numberIn_0 7 rfl) rfl ?_
        refine gf_X2_18 C (z_d dtX2_numberIn_0 8 rfl) ?_
        refine z_iload C (z_d dtX2_numberIn_0 9 rfl) rfl ?_
        refine al_X20 C (z_d dtX2_numberIn_0 10 rfl) (by omega) ?_
        refine z_istore5 C (z_d dtX2_numberIn_0 11 rfl) rfl ?_
        refine z_aload_n C (z_d dtX2_numberIn_0 12 rfl) rfl ?_
        refine z_iload C (z_d dtX2_numberIn_0 13 rfl) rfl ?_
        refine z_callV C (z_d dtX2_numberIn_0 14 rfl) (k_X3_hasCell  (by first | assumption | omega) (by first | assumption | omega)) cal_X3_hasCell gw_31_4 rfl 1 3 rfl rfl rfl rfl hR ⟨rfl, rfl, rfl, rfl⟩ rfl (fun r_24 w_24 h_24 => ?_)
        obtain ⟨rfl, h_24⟩ := h_24
        have hg2 : (0 ≤ σ 10 i ∧ σ 10 i < zN σ) → _ := hg
        refine z_if_eq (tgt := 58) C (z_d dtX2_numberIn_0 15 rfl) (by decide) (by omega) (fun h_27 => ?_) (fun h_27 => ?_)
        · refine z_iinc4 C (z_d dtX2_numberIn_0 29 rfl) rfl ?_
          refine z_goto (tgt := 5) C (z_d dtX2_numberIn_0 30 rfl) (by decide) ?_
          refine z_drop5 ?_
          exact ih_5 (i + 1) _ _ (by omega) (by rw [zNi, hs]; (first | rw [if_pos (by omega)] | rw [if_neg (by omega)]) <;> omega) (by omega)
        · have hg3 := hg (by omega)
          refine z_aload_n C (z_d dtX2_numberIn_0 16 rfl) rfl ?_
          refine z_aload_n C (z_d dtX2_numberIn_0 17 rfl) rfl ?_
          refine z_iload C (z_d dtX2_numberIn_0 18 rfl) rfl ?_
          refine z_callV C (z_d dtX2_numberIn_0 19 rfl) (k_X3_floorOf  (by first | assumption | omega) (by first | assumption | omega)) cal_X3_floorOf gw_31_5 rfl 1 3 rfl rfl rfl rfl hR ⟨rfl, rfl, rfl, rfl⟩ rfl (fun r_34 w_34 h_34 => ?_)
          obtain ⟨rfl, rfl⟩ := h_34
          refine z_aload_n C (z_d dtX2_numberIn_0 20 rfl) rfl ?_
          refine z_iload C (z_d dtX2_numberIn_0 21 rfl) rfl ?_
          refine z_callV C (z_d dtX2_numberIn_0 22 rfl) (k_X3_xOf  (by first | assumption | omega) (by first | assumption | omega)) cal_X3_xOf gw_31_6 rfl 1 3 rfl rfl rfl rfl hR ⟨rfl, rfl, rfl, rfl⟩ rfl (fun r_40 w_40 h_40 => ?_)
          obtain ⟨rfl, rfl⟩ := h_40
          refine z_aload_n C (z_d dtX2_numberIn_0 23 rfl) rfl ?_
          refine z_iload C (z_d dtX2_numberIn_0 24 rfl) rfl ?_
          refine z_callV C (z_d dtX2_numberIn_0 25 rfl) (k_X3_yOf  (by first | assumption | omega) (by first | assumption | omega)) cal_X3_yOf gw_31_7 rfl 1 3 rfl rfl rfl rfl hR ⟨rfl, rfl, rfl, rfl⟩ rfl (fun r_46 w_46 h_46 => ?_)
          obtain ⟨rfl, rfl⟩ := h_46
          refine z_callV C (z_d dtX2_numberIn_0 26 rfl) (k_X0_contains  (by first | assumption | omega) (by first | assumption | omega) (by first | assumption | omega) (by first | assumption | omega) (by first | assumption | omega)) cal_X0_contains gw_31_8 rfl (30 + _) 0 (wX_ar (by omega)) rfl rfl rfl hR ⟨rfl, rfl, rfl, rfl⟩ rfl (fun r_49 w_49 h_49 => ?_)
          obtain ⟨rfl, h_49⟩ := h_49
          refine z_if_eq (tgt := 58) C (z_d dtX2_numberIn_0 27 rfl) (by decide) (by omega) (fun h_52 => ?_) (fun h_52 => ?_)
          · refine z_iinc4 C (z_d dtX2_numberIn_0 29 rfl) rfl ?_
            refine z_goto (tgt := 5) C (z_d dtX2_numberIn_0 30 rfl) (by decide) ?_
            refine z_drop5 ?_
            exact ih_5 (i + 1) _ _ (by omega) (by rw [zNi, hs]; (first | rw [if_pos (by omega)] | rw [if_neg (by omega)]) <;> omega) (by omega)
          · refine z_iinc3 C (z_d dtX2_numberIn_0 28 rfl) rfl ?_
            refine z_iinc4 C (z_d dtX2_numberIn_0 29 rfl) rfl ?_
            refine z_goto (tgt := 5) C (z_d dtX2_numberIn_0 30 rfl) (by decide) ?_
            refine z_drop5 ?_
            exact ih_5 (i + 1) _ _ (by omega) (by rw [zNi, hs]; (first | rw [if_pos (by omega)] | rw [if_neg (by omega)]) <;> omega) (by omega)
  exact lp_5 _ 0 _ _ (by omega) rfl (Nat.lt_succ_self _)

set_option maxRecDepth 100000 in
set_option maxHeartbeats 4000000 in
theorem k_X2_isTooNear {l : Launch} {D : va_G} {t : Nat → ClassId} {ad : Nat → Nat} {σ : zMem} {z : Int} (hz : 0 ≤ z ∧ z < σ 49 0) (haz : zAz σ z) (hg : 0 ≤ σ 12 0 ∧ σ 12 0 ≤ 30) (hl : 1 ≤ σ 11 0 ∧ σ 11 0 ≤ 20) (hai : ∀ i, 0 ≤ i → i < σ 12 0 → (0 ≤ σ 51 i ∧ σ 51 i < σ 49 0) ∧ zAz σ (σ 51 i)) : z_Ci l D t yX2_isTooNear cX2_isTooNear 4 .boolean 3 65 0 0 [.ref (ad 5), .ref (σ 48 z).toNat] (wX ad t σ) (fun r w => w = wX ad t σ ∧ ((r = 1 ∧ (∃ i, 0 ≤ i ∧ i < σ 12 0 ∧ 0 < zAp σ z (σ 51 i) ∧ zAp σ z (σ 51 i) < σ 11 0)) ∨ (r = 0 ∧ ¬ (∃ i, 0 ≤ i ∧ i < σ 12 0 ∧ 0 < zAp σ z (σ 51 i) ∧ zAp σ z (σ 51 i) < σ 11 0)))) := by
  refine z_Ci_of (by decide +kernel) [some (.ref (ad 5)), some (.ref (σ 48 z).toNat), none, none] rfl rfl (Nat.le_of_ble_eq_true rfl) fun K hl hD ht hR hnm C ret => ?_
  subst hl; subst hD; subst ht
  refine z_iconst C (z_d dtX2_isTooNear_0 0 rfl) ?_
  refine z_istore_n2 C (z_d dtX2_isTooNear_0 1 rfl) rfl ?_
  have lp_2 : ∀ (N_2 : Nat) (i : Int), (0 ≤ i ∧ i ≤ σ 12 0) → (∀ j, 0 ≤ j → j < i → ¬ (0 < zAp σ z (σ 51 j) ∧ zAp σ z (σ 51 j) < σ 11 0)) → (σ 12 0 - i).toNat < N_2 → Gd K 0 0 2 [some (.ref (ad 5)), some (.ref (σ 48 z).toNat), some (.int (zI i)), none] [] (wX ad (z_t K) σ) := by
    intro N_2
    induction N_2 with
    | zero => intro i hi hn hm_2; exact absurd hm_2 (Nat.not_lt_zero _)
    | succ N_2 ih_2 =>
      intro i hi hn hm_2
      have hq := fun q : i < σ 12 0 => hai i hi.1 q
      refine z_iload_n C (z_d dtX2_isTooNear_0 2 rfl) rfl ?_
      refine z_aload_n C (z_d dtX2_isTooNear_0 3 rfl) rfl ?_
      refine gf_X2_9 C (z_d dtX2_isTooNear_0 4 rfl) ?_
      refine z_icmp_ge (tgt := 41) C (z_d dtX2_isTooNear_0 5 rfl) (by decide) (by omega) (fun h_7 => ?_) (fun h_7 => ?_)
      · refine z_iconst C (z_d dtX2_isTooNear_0 23 rfl) ?_
        exact ret _ _ _ _ (z_d dtX2_isTooNear_0 24 rfl) (⟨rfl, Or.inr ⟨rfl, fun ⟨j, h0, h1, h2⟩ => hn j h0 (by omega) h2⟩⟩) (z_nb (by omega))
      · refine z_aload_n C (z_d dtX2_isTooNear_0 6 rfl) rfl ?_
        refine z_aload_n C (z_d dtX2_isTooNear_0 7 rfl) rfl ?_
        refine gf_X2_24 C (z_d dtX2_isTooNear_0 8 rfl) ?_
        refine z_iload_n C (z_d dtX2_isTooNear_0 9 rfl) rfl ?_
        have hq2 := hq (by omega)
        have hpb := zAp_b haz hq2.2
        refine al_Xar C (z_d dtX2_isTooNear_0 10 rfl) (by omega) hq2.1.1 ?_
        refine z_callV C (z_d dtX2_isTooNear_0 11 rfl) (k_X0_cellsApart  hz haz hq2.1 hq2.2) cal_X0_cellsApart gw_31_16 rfl (30 + _) 0 (wX_ar (by omega)) rfl rfl rfl hR ⟨rfl, rfl, rfl, rfl⟩ rfl (fun r_17 w_17 h_17 => ?_)
        obtain ⟨rfl, rfl⟩ := h_17
        refine z_istore_n3 C (z_d dtX2_isTooNear_0 12 rfl) rfl ?_
        refine z_iload_n C (z_d dtX2_isTooNear_0 13 rfl) rfl ?_
        refine z_if_le (tgt := 35) C (z_d dtX2_isTooNear_0 14 rfl) (by decide) (by omega) (fun h_22 => ?_) (fun h_22 => ?_)
        · refine z_iinc2 C (z_d dtX2_isTooNear_0 21 rfl) rfl ?_
          refine z_goto (tgt := 2) C (z_d dtX2_isTooNear_0 22 rfl) (by decide) ?_
          refine z_drop3 ?_
          exact ih_2 _ (by omega) (fun j h0 h1 => by
                by_cases e : j = i
                · subst e; omega
                · exact hn j h0 (by omega)) (by omega)
        · refine z_iload_n C (z_d dtX2_isTooNear_0 15 rfl) rfl ?_
          refine z_aload_n C (z_d dtX2_isTooNear_0 16 rfl) rfl ?_
          refine gf_X2_15 C (z_d dtX2_isTooNear_0 17 rfl) ?_
          refine z_icmp_ge (tgt := 35) C (z_d dtX2_isTooNear_0 18 rfl) (by decide) (by omega) (fun h_30 => ?_) (fun h_30 => ?_)
          · refine z_iinc2 C (z_d dtX2_isTooNear_0 21 rfl) rfl ?_
            refine z_goto (tgt := 2) C (z_d dtX2_isTooNear_0 22 rfl) (by decide) ?_
            refine z_drop3 ?_
            exact ih_2 _ (by omega) (fun j h0 h1 => by
                  by_cases e : j = i
                  · subst e; omega
                  · exact hn j h0 (by omega)) (by omega)
          · refine z_iconst C (z_d dtX2_isTooNear_0 19 rfl) ?_
            exact ret _ _ _ _ (z_d dtX2_isTooNear_0 20 rfl) (⟨rfl, Or.inl ⟨rfl, i, hi.1, by omega, by omega, by omega⟩⟩) (z_nb (by omega))
  exact lp_2 _ _ (by omega) (fun j h0 h1 => absurd h1 (by omega)) (Nat.lt_succ_self _)

set_option maxRecDepth 100000 in
set_option maxHeartbeats 4000000 in
theorem k_X2_wasGiven {l : Launch} {D : va_G} {t : Nat → ClassId} {ad : Nat → Nat} {σ : zMem} {z : Int} (hz : 0 ≤ z ∧ z < σ 49 0) (haz : zAz σ z) (hg : 0 ≤ σ 12 0 ∧ σ 12 0 ≤ 30) (hl : 1 ≤ σ 11 0 ∧ σ 11 0 ≤ 20) (hai : ∀ i, 0 ≤ i → i < σ 12 0 → (0 ≤ σ 51 i ∧ σ 51 i < σ 49 0) ∧ zAz σ (σ 51 i)) : z_Ci l D t yX2_wasGiven cX2_wasGiven 3 .boolean 3 65 0 0 [.ref (ad 5), .ref (σ 48 z).toNat] (wX ad t σ) (fun r w => w = wX ad t σ ∧ ((r = 1 ∧ (∃ i, 0 ≤ i ∧ i < σ 12 0 ∧ zAp σ z (σ 51 i) = 0)) ∨ (r = 0 ∧ ¬ (∃ i, 0 ≤ i ∧ i < σ 12 0 ∧ zAp σ z (σ 51 i) = 0)))) := by
  refine z_Ci_of (by decide +kernel) [some (.ref (ad 5)), some (.ref (σ 48 z).toNat), none] rfl rfl (Nat.le_of_ble_eq_true rfl) fun K hl hD ht hR hnm C ret => ?_
  subst hl; subst hD; subst ht
  refine z_iconst C (z_d dtX2_wasGiven_0 0 rfl) ?_
  refine z_istore_n2 C (z_d dtX2_wasGiven_0 1 rfl) rfl ?_
  have lp_2 : ∀ (N_2 : Nat) (i : Int), (0 ≤ i ∧ i ≤ σ 12 0) → (∀ j, 0 ≤ j → j < i → ¬ zAp σ z (σ 51 j) = 0) → (σ 12 0 - i).toNat < N_2 → Gd K 0 0 2 [some (.ref (ad 5)), some (.ref (σ 48 z).toNat), some (.int (zI i))] [] (wX ad (z_t K) σ) := by
    intro N_2
    induction N_2 with
    | zero => intro i hi hn hm_2; exact absurd hm_2 (Nat.not_lt_zero _)
    | succ N_2 ih_2 =>
      intro i hi hn hm_2
      have hq := fun q : i < σ 12 0 => hai i hi.1 q
      refine z_iload_n C (z_d dtX2_wasGiven_0 2 rfl) rfl ?_
      refine z_aload_n C (z_d dtX2_wasGiven_0 3 rfl) rfl ?_
      refine gf_X2_9 C (z_d dtX2_wasGiven_0 4 rfl) ?_
      refine z_icmp_ge (tgt := 31) C (z_d dtX2_wasGiven_0 5 rfl) (by decide) (by omega) (fun h_7 => ?_) (fun h_7 => ?_)
      · refine z_iconst C (z_d dtX2_wasGiven_0 17 rfl) ?_
        exact ret _ _ _ _ (z_d dtX2_wasGiven_0 18 rfl) (⟨rfl, Or.inr ⟨rfl, fun ⟨j, h0, h1, h2⟩ => hn j h0 (by omega) h2⟩⟩) (z_nb (by omega))
      · refine z_aload_n C (z_d dtX2_wasGiven_0 6 rfl) rfl ?_
        refine z_aload_n C (z_d dtX2_wasGiven_0 7 rfl) rfl ?_
        refine gf_X2_24 C (z_d dtX2_wasGiven_0 8 rfl) ?_
        refine z_iload_n C (z_d dtX2_wasGiven_0 9 rfl) rfl ?_
        have hq2 := hq (by omega)
        have hpb := zAp_b haz hq2.2
        refine al_Xar C (z_d dtX2_wasGiven_0 10 rfl) (by omega) hq2.1.1 ?_
        refine z_callV C (z_d dtX2_wasGiven_0 11 rfl) (k_X0_cellsApart  hz haz hq2.1 hq2.2) cal_X0_cellsApart gw_31_16 rfl (30 + _) 0 (wX_ar (by omega)) rfl rfl rfl hR ⟨rfl, rfl, rfl, rfl⟩ rfl (fun r_17 w_17 h_17 => ?_)
        obtain ⟨rfl, rfl⟩ := h_17
        refine z_if_ne (tgt := 25) C (z_d dtX2_wasGiven_0 12 rfl) (by decide) (by omega) (fun h_20 => ?_) (fun h_20 => ?_)
        · refine z_iinc2 C (z_d dtX2_wasGiven_0 15 rfl) rfl ?_
          refine z_goto (tgt := 2) C (z_d dtX2_wasGiven_0 16 rfl) (by decide) ?_
          exact ih_2 _ (by omega) (fun j h0 h1 => by
                by_cases e : j = i
                · subst e; omega
                · exact hn j h0 (by omega)) (by omega)
        · refine z_iconst C (z_d dtX2_wasGiven_0 13 rfl) ?_
          exact ret _ _ _ _ (z_d dtX2_wasGiven_0 14 rfl) (⟨rfl, Or.inl ⟨rfl, i, hi.1, by omega, by omega⟩⟩) (z_nb (by omega))
  exact lp_2 _ _ (by omega) (fun j h0 h1 => absurd h1 (by omega)) (Nat.lt_succ_self _)

set_option maxRecDepth 100000 in
set_option maxHeartbeats 4000000 in
theorem k_X2_giveAway {l : Launch} {D : va_G} {t : Nat → ClassId} {ad : Nat → Nat} {σ : zMem} {z : Int} (hw : zHw σ) (hz : 0 ≤ z ∧ z < σ 49 0) (haz : zAz σ z) (h10 : ∀ i, -1 ≤ σ 10 i ∧ σ 10 i < 72) (hg : 0 ≤ σ 12 0 ∧ σ 12 0 ≤ 30) (hl : 1 ≤ σ 11 0 ∧ σ 11 0 ≤ 20) (hai : ∀ i, 0 ≤ i → i < σ 12 0 → (0 ≤ σ 51 i ∧ σ 51 i < σ 49 0) ∧ zAz σ (σ 51 i)) : z_Ci l D t yX2_giveAway cX2_giveAway 4 .int 4 88 0 0 [.ref (ad 5), .ref (σ 48 z).toNat, .ref (ad 1)] (wX ad t σ) (fun r w => ∃ σ', w = wX ad t σ' ∧ (((zNi σ (σ 50 (5 * z)) (σ 50 (5 * z + 1)) (σ 50 (5 * z + 2)) (σ 50 (5 * z + 3)) (σ 50 (5 * z + 4)) 20 < σ 11 0 ∨ (∃ i, 0 ≤ i ∧ i < σ 12 0 ∧ 0 < zAp σ z (σ 51 i) ∧ zAp σ z (σ 51 i) < σ 11 0)) ∧ r = -3 ∧ σ' = σ) ∨ (¬ (zNi σ (σ 50 (5 * z)) (σ 50 (5 * z + 1)) (σ 50 (5 * z + 2)) (σ 50 (5 * z + 3)) (σ 50 (5 * z + 4)) 20 < σ 11 0 ∨ (∃ i, 0 ≤ i ∧ i < σ 12 0 ∧ 0 < zAp σ z (σ 51 i) ∧ zAp σ z (σ 51 i) < σ 11 0)) ∧ ((¬ (∃ i, 0 ≤ i ∧ i < σ 12 0 ∧ zAp σ z (σ 51 i) = 0) ∧ 30 ≤ σ 12 0 ∧ r = -4 ∧ σ' = σ) ∨ ((∃ i, 0 ≤ i ∧ i < σ 12 0 ∧ zAp σ z (σ 51 i) = 0) ∧ r = zNi σ (σ 50 (5 * z)) (σ 50 (5 * z + 1)) (σ 50 (5 * z + 2)) (σ 50 (5 * z + 3)) (σ 50 (5 * z + 4)) 20 - zNi σ (σ 50 (5 * z)) (σ 50 (5 * z + 1)) (σ 50 (5 * z + 2)) (σ 50 (5 * z + 3)) (σ 50 (5 * z + 4)) 20 % σ 11 0 ∧ σ' = σ) ∨ (¬ (∃ i, 0 ≤ i ∧ i < σ 12 0 ∧ zAp σ z (σ 51 i) = 0) ∧ σ 12 0 < 30 ∧ r = zNi σ (σ 50 (5 * z)) (σ 50 (5 * z + 1)) (σ 50 (5 * z + 2)) (σ 50 (5 * z + 3)) (σ 50 (5 * z + 4)) 20 - zNi σ (σ 50 (5 * z)) (σ 50 (5 * z + 1)) (σ 50 (5 * z + 2)) (σ 50 (5 * z + 3)) (σ 50 (5 * z + 4)) 20 % σ 11 0 ∧ σ' = zS (zS σ 51 (zU (σ 51) (σ 12 0) z)) 12 (zC (σ 12 0 + 1))))))) := by
  refine z_Ci_of (by decide +kernel) [some (.ref (ad 5)), some (.ref (σ 48 z).toNat), some (.ref (ad 1)), none] rfl rfl (Nat.le_of_ble_eq_true rfl) fun K hl hD ht hR hnm C ret => ?_
  subst hl; subst hD; subst ht
  have hnb := zNi_b σ (σ 50 (5 * z)) (σ 50 (5 * z + 1)) (σ 50 (5 * z + 2)) (σ 50 (5 * z + 3)) (σ 50 (5 * z + 4)) 20
  refine z_aload_n C (z_d dtX2_giveAway_0 0 rfl) rfl ?_
  refine z_aload_n C (z_d dtX2_giveAway_0 1 rfl) rfl ?_
  refine z_aload_n C (z_d dtX2_giveAway_0 2 rfl) rfl ?_
  refine z_callV C (z_d dtX2_giveAway_0 3 rfl) (k_X2_numberIn  (by first | assumption | omega) (by first | assumption | omega) (by first | assumption | omega) (by first | assumption | omega)) cal_X2_numberIn gw_31_0 rfl 5 2 rfl rfl rfl rfl hR ⟨rfl, rfl, rfl, rfl⟩ rfl (fun r_3 w_3 h_3 => ?_)
  obtain ⟨rfl, rfl⟩ := h_3
  refine z_istore_n3 C (z_d dtX2_giveAway_0 4 rfl) rfl ?_
  refine z_iload_n C (z_d dtX2_giveAway_0 5 rfl) rfl ?_
  refine z_aload_n C (z_d dtX2_giveAway_0 6 rfl) rfl ?_
  refine gf_X2_15 C (z_d dtX2_giveAway_0 7 rfl) ?_
  try simp (decide := true) only [zS_s, zS_o, zC]
  refine z_icmp_lt (tgt := 31) C (z_d dtX2_giveAway_0 8 rfl) (by decide) (by omega) (fun h_12 => ?_) (fun h_12 => ?_)
  · have hcase : zNi σ (σ 50 (5 * z)) (σ 50 (5 * z + 1)) (σ 50 (5 * z + 2)) (σ 50 (5 * z + 3)) (σ 50 (5 * z + 4)) 20 < σ 11 0 ∨ (∃ i, 0 ≤ i ∧ i < σ 12 0 ∧ 0 < zAp σ z (σ 51 i) ∧ zAp σ z (σ 51 i) < σ 11 0) := Or.inl (by omega)
    refine z_bipush C (z_d dtX2_giveAway_0 17 rfl) zb_m3 ?_
    exact ret _ _ _ _ (z_d dtX2_giveAway_0 18 rfl) (⟨σ, rfl, Or.inl ⟨hcase, rfl, rfl⟩⟩) rfl
  · refine z_aload_n C (z_d dtX2_giveAway_0 9 rfl) rfl ?_
    refine gf_X2_15 C (z_d dtX2_giveAway_0 10 rfl) ?_
    try simp (decide := true) only [zS_s, zS_o, zC]
    refine z_iconst C (z_d dtX2_giveAway_0 11 rfl) ?_
    refine z_icmp_lt (tgt := 31) C (z_d dtX2_giveAway_0 12 rfl) (by decide) (by omega) (fun h_20 => ?_) (fun h_20 => ?_)
    · exfalso; omega
    · refine z_aload_n C (z_d dtX2_giveAway_0 13 rfl) rfl ?_
      refine z_aload_n C (z_d dtX2_giveAway_0 14 rfl) rfl ?_
      refine z_callV C (z_d dtX2_giveAway_0 15 rfl) (k_X2_isTooNear  (by first | assumption | omega) (by first | assumption | omega) (by first | assumption | omega) (by first | assumption | omega) (by first | assumption | omega)) cal_X2_isTooNear gw_31_12 rfl 5 2 rfl rfl rfl rfl hR ⟨rfl, rfl, rfl, rfl⟩ rfl (fun r_25 w_25 h_25 => ?_)
      obtain ⟨rfl, h_25⟩ := h_25
      have hr25 : r_25 = 0 ∨ r_25 = 1 := by omega
      refine z_if_eq (tgt := 34) C (z_d dtX2_giveAway_0 16 rfl) (by decide) (by omega) (fun h_28 => ?_) (fun h_28 => ?_)
      · have hcase : ¬ (zNi σ (σ 50 (5 * z)) (σ 50 (5 * z + 1)) (σ 50 (5 * z + 2)) (σ 50 (5 * z + 3)) (σ 50 (5 * z + 4)) 20 < σ 11 0 ∨ (∃ i, 0 ≤ i ∧ i < σ 12 0 ∧ 0 < zAp σ z (σ 51 i) ∧ zAp σ z (σ 51 i) < σ 11 0)) := fun q => q.elim (fun a => by omega) (fun a => h_25.elim (fun b => by omega) (fun b => b.2 a))
        refine z_aload_n C (z_d dtX2_giveAway_0 19 rfl) rfl ?_
        refine z_aload_n C (z_d dtX2_giveAway_0 20 rfl) rfl ?_
        refine z_callV C (z_d dtX2_giveAway_0 21 rfl) (k_X2_wasGiven  (by first | assumption | omega) (by first | assumption | omega) (by first | assumption | omega) (by first | assumption | omega) (by first | assumption | omega)) cal_X2_wasGiven gw_32_6 rfl 5 2 rfl rfl rfl rfl hR ⟨rfl, rfl, rfl, rfl⟩ rfl (fun r_36 w_36 h_36 => ?_)
        obtain ⟨rfl, h_36⟩ := h_36
        have hr36 : r_36 = 0 ∨ r_36 = 1 := by omega
        refine z_if_ne (tgt := 74) C (z_d dtX2_giveAway_0 22 rfl) (by decide) (by omega) (fun h_39 => ?_) (fun h_39 => ?_)
        · have hwas : (∃ i, 0 ≤ i ∧ i < σ 12 0 ∧ zAp σ z (σ 51 i) = 0) := h_36.elim (fun q => q.2) (fun q => absurd q.1 h_39)
          refine z_iload_n C (z_d dtX2_giveAway_1 1 rfl) rfl ?_
          refine z_iload_n C (z_d dtX2_giveAway_1 2 rfl) rfl ?_
          refine z_aload_n C (z_d dtX2_giveAway_1 3 rfl) rfl ?_
          refine gf_X2_15 C (z_d dtX2_giveAway_1 4 rfl) ?_
          try simp (decide := true) only [zS_s, zS_o, zC]
          refine z_irem C (z_d dtX2_giveAway_1 5 rfl) (by omega) ?_
          refine z_isub C (z_d dtX2_giveAway_1 6 rfl) ?_
          exact ret _ _ _ _ (z_d dtX2_giveAway_1 7 rfl) (⟨_, rfl, Or.inr ⟨hcase, by
              first
                | exact Or.inr (Or.inl ⟨hwas, rfl, rfl⟩)
                | exact Or.inr (Or.inr ⟨hwas, by omega, rfl, rfl⟩)⟩⟩) rfl
        · have hwas : ¬ (∃ i, 0 ≤ i ∧ i < σ 12 0 ∧ zAp σ z (σ 51 i) = 0) := h_36.elim (fun q => by omega) (fun q => q.2)
          refine z_aload_n C (z_d dtX2_giveAway_0 23 rfl) rfl ?_
          refine gf_X2_9 C (z_d dtX2_giveAway_0 24 rfl) ?_
          try simp (decide := true) only [zS_s, zS_o, zC]
          refine z_bipush C (z_d dtX2_giveAway_0 25 rfl) zb_30 ?_
          refine z_icmp_lt (tgt := 54) C (z_d dtX2_giveAway_0 26 rfl) (by decide) (by omega) (fun h_48 => ?_) (fun h_48 => ?_)
          · refine z_aload_n C (z_d dtX2_giveAway_0 29 rfl) rfl ?_
            refine gf_X2_24 C (z_d dtX2_giveAway_0 30 rfl) ?_
            refine z_aload_n C (z_d dtX2_giveAway_0 31 rfl) rfl ?_
            refine gf_X2_9 C (z_d dtX2_giveAway_0 32 rfl) ?_
            try simp (decide := true) only [zS_s, zS_o, zC]
            refine z_aload_n C (z_d dtX2_giveAway_0 33 rfl) rfl ?_
            refine as_Xar C (z_d dtX2_giveAway_0 34 rfl) (by omega) (by omega) ?_
            refine z_aload_n C (z_d dtX2_giveAway_0 35 rfl) rfl ?_
            refine z_dup C (z_d dtX2_giveAway_0 36 rfl) rfl ?_
            refine gf_X2_9 C (z_d dtX2_giveAway_0 37 rfl) ?_
            try simp (decide := true) only [zS_s, zS_o, zC]
            refine z_iconst C (z_d dtX2_giveAway_0 38 rfl) ?_
            refine z_iadd C (z_d dtX2_giveAway_0 39 rfl) ?_
            refine pf_X2_9 C (z_d dtX2_giveAway_1 0 rfl) ?_
            refine z_iload_n C (z_d dtX2_giveAway_1 1 rfl) rfl ?_
            refine z_iload_n C (z_d dtX2_giveAway_1 2 rfl) rfl ?_
            refine z_aload_n C (z_d dtX2_giveAway_1 3 rfl) rfl ?_
            refine gf_X2_15 C (z_d dtX2_giveAway_1 4 rfl) ?_
            try simp (decide := true) only [zS_s, zS_o, zC]
            refine z_irem C (z_d dtX2_giveAway_1 5 rfl) (by omega) ?_
            refine z_isub C (z_d dtX2_giveAway_1 6 rfl) ?_
            exact ret _ _ _ _ (z_d dtX2_giveAway_1 7 rfl) (⟨_, rfl, Or.inr ⟨hcase, by
                first
                  | exact Or.inr (Or.inl ⟨hwas, rfl, rfl⟩)
                  | exact Or.inr (Or.inr ⟨hwas, by omega, rfl, rfl⟩)⟩⟩) rfl
          · refine z_bipush C (z_d dtX2_giveAway_0 27 rfl) zb_m4 ?_
            exact ret _ _ _ _ (z_d dtX2_giveAway_0 28 rfl) (⟨σ, rfl, Or.inr ⟨hcase, Or.inl ⟨hwas, by omega, rfl, rfl⟩⟩⟩) rfl
      · have hcase : zNi σ (σ 50 (5 * z)) (σ 50 (5 * z + 1)) (σ 50 (5 * z + 2)) (σ 50 (5 * z + 3)) (σ 50 (5 * z + 4)) 20 < σ 11 0 ∨ (∃ i, 0 ≤ i ∧ i < σ 12 0 ∧ 0 < zAp σ z (σ 51 i) ∧ zAp σ z (σ 51 i) < σ 11 0) := Or.inr (h_25.elim (fun q => q.2) (fun q => absurd q.1 h_28))
        refine z_bipush C (z_d dtX2_giveAway_0 17 rfl) zb_m3 ?_
        exact ret _ _ _ _ (z_d dtX2_giveAway_0 18 rfl) (⟨σ, rfl, Or.inl ⟨hcase, rfl, rfl⟩⟩) rfl

set_option maxRecDepth 100000 in
set_option maxHeartbeats 4000000 in
theorem k_X6_scoreAfter {l : Launch} {D : va_G} {t : Nat → ClassId} {ad : Nat → Nat} {σ : zMem} {row c d : Int} (hw : zHw σ) (ht : zTb σ) (hs : 0 ≤ σ 3 0 ∧ σ 3 0 ≤ 9) (hon : ∀ c, 0 ≤ c → c < zN σ → -1 ≤ σ 41 ((row + 1) * 72 + c) ∧ σ 41 ((row + 1) * 72 + c) ≤ 1000000) (hrow : 0 ≤ row ∧ row < 29) (hc : 0 ≤ c ∧ c < zN σ) (hd : -1 ≤ d ∧ d < 7) : z_Ci l D t yX6_scoreAfter cX6_scoreAfter 7 .int 2 41 0 0 [.ref (ad 4), .ref (ad 1), .int (zI row), .int (zI c), .int (zI d)] (wX ad t σ) (fun r w => w = wX ad t σ ∧ r = zSa σ (fun c => σ 41 ((row + 1) * 72 + c)) c d) := by
  refine z_Ci_of (by decide +kernel) [some (.ref (ad 4)), some (.ref (ad 1)), some (.int (zI row)), some (.int (zI c)), some (.int (zI d)), none, none] rfl rfl (Nat.le_of_ble_eq_true rfl) fun K hl hD ht hR hnm C ret => ?_
  subst hl; subst hD; subst ht
  have hN := zHw_N hw
  have hb := zTb_b hw ht hc d
  have hk := zLik_b hs d
  refine z_iload C (z_d dtX6_scoreAfter_0 0 rfl) rfl ?_
  refine z_iconst C (z_d dtX6_scoreAfter_0 1 rfl) ?_
  refine z_icmp_ne (tgt := 10) C (z_d dtX6_scoreAfter_0 2 rfl) (by decide) (by omega) (fun h_3 => ?_) (fun h_3 => ?_)
  · refine z_aload_n C (z_d dtX6_scoreAfter_0 5 rfl) rfl ?_
    refine z_iload_n C (z_d dtX6_scoreAfter_0 6 rfl) rfl ?_
    refine z_iload C (z_d dtX6_scoreAfter_0 7 rfl) rfl ?_
    refine z_callV C (z_d dtX6_scoreAfter_0 8 rfl) (k_X3_targetOf  (by first | assumption | omega) (by first | assumption | omega)) cal_X3_targetOf gw_26_12 rfl 1 3 rfl rfl rfl rfl hR ⟨rfl, rfl, rfl, rfl⟩ rfl (fun r_14 w_14 h_14 => ?_)
    obtain ⟨rfl, rfl⟩ := h_14
    refine z_istore5 C (z_d dtX6_scoreAfter_0 9 rfl) rfl ?_
    refine z_aload_n C (z_d dtX6_scoreAfter_0 10 rfl) rfl ?_
    refine z_iload C (z_d dtX6_scoreAfter_0 11 rfl) rfl ?_
    refine z_callV C (z_d dtX6_scoreAfter_0 12 rfl) (k_X3_hasCell  (by first | assumption | omega) (by first | assumption | omega)) cal_X3_hasCell gw_26_13 rfl 1 3 rfl rfl rfl rfl hR ⟨rfl, rfl, rfl, rfl⟩ rfl (fun r_22 w_22 h_22 => ?_)
    obtain ⟨rfl, h_22⟩ := h_22
    refine z_if_ne (tgt := 30) C (z_d dtX6_scoreAfter_0 13 rfl) (by decide) (by omega) (fun h_25 => ?_) (fun h_25 => ?_)
    · have hv := hon (σ 33 (c * 7 + d))
      refine z_aload_n C (z_d dtX6_scoreAfter_0 16 rfl) rfl ?_
      refine gf_X6_15 C (z_d dtX6_scoreAfter_0 17 rfl) ?_
      refine z_iload_n C (z_d dtX6_scoreAfter_0 18 rfl) rfl ?_
      refine z_iconst C (z_d dtX6_scoreAfter_0 19 rfl) ?_
      refine z_iadd C (z_d dtX6_scoreAfter_0 20 rfl) ?_
      refine z_bipush C (z_d dtX6_scoreAfter_0 21 rfl) zb_72 ?_
      refine z_imul C (z_d dtX6_scoreAfter_0 22 rfl) ?_
      refine z_iload C (z_d dtX6_scoreAfter_0 23 rfl) rfl ?_
      refine z_iadd C (z_d dtX6_scoreAfter_0 24 rfl) ?_
      refine al_X19 C (z_d dtX6_scoreAfter_0 25 rfl) (by omega) ?_
      refine z_istore6 C (z_d dtX6_scoreAfter_0 26 rfl) rfl ?_
      refine z_iload C (z_d dtX6_scoreAfter_0 27 rfl) rfl ?_
      refine z_iconst C (z_d dtX6_scoreAfter_0 28 rfl) ?_
      refine z_icmp_ne (tgt := 56) C (z_d dtX6_scoreAfter_0 29 rfl) (by decide) (by omega) (fun h_49 => ?_) (fun h_49 => ?_)
      · refine z_iload C (z_d dtX6_scoreAfter_0 32 rfl) rfl ?_
        refine z_aload_n C (z_d dtX6_scoreAfter_0 33 rfl) rfl ?_
        refine z_iload C (z_d dtX6_scoreAfter_0 34 rfl) rfl ?_
        refine z_callV C (z_d dtX6_scoreAfter_0 35 rfl) (k_X3_likelyTo  (by first | assumption | omega)) cal_X3_likelyTo gw_26_14 rfl 1 3 rfl rfl rfl rfl hR ⟨rfl, rfl, rfl, rfl⟩ rfl (fun r_61 w_61 h_61 => ?_)
        obtain ⟨rfl, rfl⟩ := h_61
        refine z_iadd C (z_d dtX6_scoreAfter_0 36 rfl) ?_
        exact ret _ _ _ _ (z_d dtX6_scoreAfter_0 37 rfl) (⟨rfl, by
            first
              | (exfalso; omega)
              | (unfold zSa
                 rw [if_neg (by omega), if_pos (by omega)]
                 first | rw [if_pos (by omega)] | rw [if_neg (by omega)])⟩) rfl
      · refine z_iconst C (z_d dtX6_scoreAfter_0 30 rfl) ?_
        refine z_goto (tgt := 65) C (z_d dtX6_scoreAfter_0 31 rfl) (by decide) ?_
        exact ret _ _ _ _ (z_d dtX6_scoreAfter_0 37 rfl) (⟨rfl, by
            first
              | (exfalso; omega)
              | (unfold zSa
                 rw [if_neg (by omega), if_pos (by omega)]
                 first | rw [if_pos (by omega)] | rw [if_neg (by omega)])⟩) rfl
    · refine z_iconst C (z_d dtX6_scoreAfter_0 14 rfl) ?_
      exact ret _ _ _ _ (z_d dtX6_scoreAfter_0 15 rfl) (⟨rfl, by
          unfold zSa
          first | rw [if_pos (by omega)] | rw [if_neg (by omega), if_neg (by omega)]⟩) rfl
  · refine z_iconst C (z_d dtX6_scoreAfter_0 3 rfl) ?_
    refine z_goto (tgt := 17) C (z_d dtX6_scoreAfter_0 4 rfl) (by decide) ?_
    refine z_istore5 C (z_d dtX6_scoreAfter_0 9 rfl) rfl ?_
    refine z_aload_n C (z_d dtX6_scoreAfter_0 10 rfl) rfl ?_
    refine z_iload C (z_d dtX6_scoreAfter_0 11 rfl) rfl ?_
    refine z_callV C (z_d dtX6_scoreAfter_0 12 rfl) (k_X3_hasCell  (by first | assumption | omega) (by first | assumption | omega)) cal_X3_hasCell gw_26_13 rfl 1 3 rfl rfl rfl rfl hR ⟨rfl, rfl, rfl, rfl⟩ rfl (fun r_22 w_22 h_22 => ?_)
    obtain ⟨rfl, h_22⟩ := h_22
    refine z_if_ne (tgt := 30) C (z_d dtX6_scoreAfter_0 13 rfl) (by decide) (by omega) (fun h_25 => ?_) (fun h_25 => ?_)
    · have hv := hon (σ 33 (c * 7 + d))
      refine z_aload_n C (z_d dtX6_scoreAfter_0 16 rfl) rfl ?_
      refine gf_X6_15 C (z_d dtX6_scoreAfter_0 17 rfl) ?_
      refine z_iload_n C (z_d dtX6_scoreAfter_0 18 rfl) rfl ?_
      refine z_iconst C (z_d dtX6_scoreAfter_0 19 rfl) ?_
      refine z_iadd C (z_d dtX6_scoreAfter_0 20 rfl) ?_
      refine z_bipush C (z_d dtX6_scoreAfter_0 21 rfl) zb_72 ?_
      refine z_imul C (z_d dtX6_scoreAfter_0 22 rfl) ?_
      refine z_iload C (z_d dtX6_scoreAfter_0 23 rfl) rfl ?_
      refine z_iadd C (z_d dtX6_scoreAfter_0 24 rfl) ?_
      refine al_X19 C (z_d dtX6_scoreAfter_0 25 rfl) (by omega) ?_
      refine z_istore6 C (z_d dtX6_scoreAfter_0 26 rfl) rfl ?_
      refine z_iload C (z_d dtX6_scoreAfter_0 27 rfl) rfl ?_
      refine z_iconst C (z_d dtX6_scoreAfter_0 28 rfl) ?_
      refine z_icmp_ne (tgt := 56) C (z_d dtX6_scoreAfter_0 29 rfl) (by decide) (by omega) (fun h_49 => ?_) (fun h_49 => ?_)
      · refine z_iload C (z_d dtX6_scoreAfter_0 32 rfl) rfl ?_
        refine z_aload_n C (z_d dtX6_scoreAfter_0 33 rfl) rfl ?_
        refine z_iload C (z_d dtX6_scoreAfter_0 34 rfl) rfl ?_
        refine z_callV C (z_d dtX6_scoreAfter_0 35 rfl) (k_X3_likelyTo  (by first | assumption | omega)) cal_X3_likelyTo gw_26_14 rfl 1 3 rfl rfl rfl rfl hR ⟨rfl, rfl, rfl, rfl⟩ rfl (fun r_61 w_61 h_61 => ?_)
        obtain ⟨rfl, rfl⟩ := h_61
        refine z_iadd C (z_d dtX6_scoreAfter_0 36 rfl) ?_
        exact ret _ _ _ _ (z_d dtX6_scoreAfter_0 37 rfl) (⟨rfl, by
            first
              | (exfalso; omega)
              | (unfold zSa
                 rw [if_neg (by omega), if_pos (by omega)]
                 first | rw [if_pos (by omega)] | rw [if_neg (by omega)])⟩) rfl
      · refine z_iconst C (z_d dtX6_scoreAfter_0 30 rfl) ?_
        refine z_goto (tgt := 65) C (z_d dtX6_scoreAfter_0 31 rfl) (by decide) ?_
        exact ret _ _ _ _ (z_d dtX6_scoreAfter_0 37 rfl) (⟨rfl, by
            first
              | (exfalso; omega)
              | (unfold zSa
                 rw [if_neg (by omega), if_pos (by omega)]
                 first | rw [if_pos (by omega)] | rw [if_neg (by omega)])⟩) rfl
    · refine z_iconst C (z_d dtX6_scoreAfter_0 14 rfl) ?_
      exact ret _ _ _ _ (z_d dtX6_scoreAfter_0 15 rfl) (⟨rfl, by
          unfold zSa
          first | rw [if_pos (by omega)] | rw [if_neg (by omega), if_neg (by omega)]⟩) rfl

set_option maxRecDepth 100000 in
set_option maxHeartbeats 4000000 in
theorem k_X6_bestDirection {l : Launch} {D : va_G} {t : Nat → ClassId} {ad : Nat → Nat} {σ : zMem} {row c : Int} (hw : zHw σ) (ht : zTb σ) (hs : 0 ≤ σ 3 0 ∧ σ 3 0 ≤ 9) (hon : ∀ c, 0 ≤ c → c < zN σ → -1 ≤ σ 41 ((row + 1) * 72 + c) ∧ σ 41 ((row + 1) * 72 + c) ≤ 1000000) (hrow : 0 ≤ row ∧ row < 29) (hc : 0 ≤ c ∧ c < zN σ) : z_Ci l D t yX6_bestDirection cX6_bestDirection 8 .int 3 67 0 0 [.ref (ad 4), .ref (ad 1), .int (zI row), .int (zI c)] (wX ad t σ) (fun r w => w = wX ad t σ ∧ r = (zBd σ (fun c => σ 41 ((row + 1) * 72 + c)) c 7).1) := by
  refine z_Ci_of (by decide +kernel) [some (.ref (ad 4)), some (.ref (ad 1)), some (.int (zI row)), some (.int (zI c)), none, none, none, none] rfl rfl (Nat.le_of_ble_eq_true rfl) fun K hl hD ht hR hnm C ret => ?_
  subst hl; subst hD; subst ht
  refine z_iconst C (z_d dtX6_bestDirection_0 0 rfl) ?_
  refine z_istore4 C (z_d dtX6_bestDirection_0 1 rfl) rfl ?_
  refine z_iconst C (z_d dtX6_bestDirection_0 2 rfl) ?_
  refine z_istore5 C (z_d dtX6_bestDirection_0 3 rfl) rfl ?_
  refine z_iconst C (z_d dtX6_bestDirection_0 4 rfl) ?_
  refine z_istore6 C (z_d dtX6_bestDirection_0 5 rfl) rfl ?_
  have lp_9 : ∀ (N_9 : Nat) (i : Nat) (d b m : Int), (d = i ∧ i ≤ 7) → ((b, m) = zBd σ (fun c => σ 41 ((row + 1) * 72 + c)) c i) → 7 - i < N_9 → Gd K 0 0 9 [some (.ref (ad 4)), some (.ref (ad 1)), some (.int (zI row)), some (.int (zI c)), some (.int (zI b)), some (.int (zI m)), some (.int (zI d)), none] [] (wX ad (z_t K) σ) := by
    intro N_9
    induction N_9 with
    | zero => intro i d b m hi hb hm_9; exact absurd hm_9 (Nat.not_lt_zero _)
    | succ N_9 ih_9 =>
      intro i d b m hi hb hm_9
      obtain ⟨rfl, hi⟩ := hi
      have hbb := zBd_b (V := (fun c => σ 41 ((row + 1) * 72 + c))) (b := 1000000) hs (by omega) hon c i
      rw [← hb] at hbb
      dsimp only at hbb
      have hsa := zSa_b (V := (fun c => σ 41 ((row + 1) * 72 + c))) (b := 1000000) hs (by omega) hon c i
      refine z_iload C (z_d dtX6_bestDirection_0 6 rfl) rfl ?_
      refine z_bipush C (z_d dtX6_bestDirection_0 7 rfl) zb_7 ?_
      refine z_icmp_ge (tgt := 48) C (z_d dtX6_bestDirection_0 8 rfl) (by decide) (by omega) (fun h_13 => ?_) (fun h_13 => ?_)
      · refine z_iload C (z_d dtX6_bestDirection_0 25 rfl) rfl ?_
        exact ret _ _ _ _ (z_d dtX6_bestDirection_0 26 rfl) (⟨rfl, by rw [show (7 : Nat) = i by omega, ← hb]⟩) rfl
      · refine z_aload_n C (z_d dtX6_bestDirection_0 9 rfl) rfl ?_
        refine z_aload_n C (z_d dtX6_bestDirection_0 10 rfl) rfl ?_
        refine z_iload_n C (z_d dtX6_bestDirection_0 11 rfl) rfl ?_
        refine z_iload_n C (z_d dtX6_bestDirection_0 12 rfl) rfl ?_
        refine z_iload C (z_d dtX6_bestDirection_0 13 rfl) rfl ?_
        refine z_callV C (z_d dtX6_bestDirection_0 14 rfl) (k_X6_scoreAfter  (by first | assumption | omega) (by first | assumption | omega) (by first | assumption | omega) (by first | assumption | omega) (by first | assumption | omega) (by first | assumption | omega) (by first | assumption | omega)) cal_X6_scoreAfter gw_26_8 rfl 4 6 rfl rfl rfl rfl hR ⟨rfl, rfl, rfl, rfl⟩ rfl (fun r_22 w_22 h_22 => ?_)
        obtain ⟨rfl, rfl⟩ := h_22
        refine z_istore7 C (z_d dtX6_bestDirection_0 15 rfl) rfl ?_
        refine z_iload C (z_d dtX6_bestDirection_0 16 rfl) rfl ?_
        refine z_iload C (z_d dtX6_bestDirection_0 17 rfl) rfl ?_
        refine z_icmp_le (tgt := 42) C (z_d dtX6_bestDirection_0 18 rfl) (by decide) (by omega) (fun h_31 => ?_) (fun h_31 => ?_)
        · refine z_iinc6 C (z_d dtX6_bestDirection_0 23 rfl) rfl ?_
          refine z_goto (tgt := 9) C (z_d dtX6_bestDirection_0 24 rfl) (by decide) ?_
          refine z_drop7 ?_
          exact ih_9 (i + 1) _ _ _ (by omega) (by
                  rw [zBd, ← hb]
                  dsimp only
                  first | rw [if_pos (show _ > _ by omega)] | rw [if_neg (show ¬ _ > _ by omega)]) (by omega)
        · refine z_iload C (z_d dtX6_bestDirection_0 19 rfl) rfl ?_
          refine z_istore5 C (z_d dtX6_bestDirection_0 20 rfl) rfl ?_
          refine z_iload C (z_d dtX6_bestDirection_0 21 rfl) rfl ?_
          refine z_istore4 C (z_d dtX6_bestDirection_0 22 rfl) rfl ?_
          refine z_iinc6 C (z_d dtX6_bestDirection_0 23 rfl) rfl ?_
          refine z_goto (tgt := 9) C (z_d dtX6_bestDirection_0 24 rfl) (by decide) ?_
          refine z_drop7 ?_
          exact ih_9 (i + 1) _ _ _ (by omega) (by
                  rw [zBd, ← hb]
                  dsimp only
                  first | rw [if_pos (show _ > _ by omega)] | rw [if_neg (show ¬ _ > _ by omega)]) (by omega)
  exact lp_9 _ 0 _ _ _ (by omega) rfl (Nat.lt_succ_self _)

set_option maxRecDepth 100000 in
set_option maxHeartbeats 4000000 in
theorem k_X6_bestFirst {l : Launch} {D : va_G} {t : Nat → ClassId} {ad : Nat → Nat} {σ : zMem} {n : Nat} (hn2 : 1 ≤ n ∧ n ≤ 72) (hv : ∀ c : Int, 0 ≤ c → c < n → -1 ≤ σ 41 c ∧ σ 41 c ≤ 1000000) : z_Ci l D t yX6_bestFirst cX6_bestFirst 4 .int 0 0 0 0 [.ref (ad 4), .int (zI n)] (wX ad t σ) (fun r w => w = wX ad t σ ∧ r = zMx (σ 41) n) := by
  refine z_Ci_of (by decide +kernel) [some (.ref (ad 4)), some (.int (zI n)), none, none] rfl rfl (Nat.le_of_ble_eq_true rfl) fun K hl hD ht hR hnm C ret => ?_
  subst hl; subst hD; subst ht
  refine z_iconst C (z_d dtX6_bestFirst_0 0 rfl) ?_
  refine z_istore_n2 C (z_d dtX6_bestFirst_0 1 rfl) rfl ?_
  refine z_iconst C (z_d dtX6_bestFirst_0 2 rfl) ?_
  refine z_istore_n3 C (z_d dtX6_bestFirst_0 3 rfl) rfl ?_
  have lp_4 : ∀ (N_4 : Nat) (c x : Int), (1 ≤ c ∧ c ≤ n) → (x = zMx (σ 41) c.toNat) → (n - c).toNat < N_4 → Gd K 0 0 4 [some (.ref (ad 4)), some (.int (zI n)), some (.int (zI x)), some (.int (zI c))] [] (wX ad (z_t K) σ) := by
    intro N_4
    induction N_4 with
    | zero => intro c x hc hx hm_4; exact absurd hm_4 (Nat.not_lt_zero _)
    | succ N_4 ih_4 =>
      intro c x hc hx hm_4
      have hxb := zMx_b (σ 41) c.toNat
      have hx0 := hv x (by omega) (by omega)
      have hc0 := fun q : c < n => hv c (by omega) q
      refine z_iload_n C (z_d dtX6_bestFirst_0 4 rfl) rfl ?_
      refine z_iload_n C (z_d dtX6_bestFirst_0 5 rfl) rfl ?_
      refine z_icmp_ge (tgt := 32) C (z_d dtX6_bestFirst_0 6 rfl) (by decide) (by omega) (fun h_6 => ?_) (fun h_6 => ?_)
      · refine z_iload_n C (z_d dtX6_bestFirst_0 20 rfl) rfl ?_
        exact ret _ _ _ _ (z_d dtX6_bestFirst_0 21 rfl) (⟨rfl, by rw [hx, show c = n by omega, Int.toNat_natCast]⟩) rfl
      · refine z_aload_n C (z_d dtX6_bestFirst_0 7 rfl) rfl ?_
        refine gf_X6_15 C (z_d dtX6_bestFirst_0 8 rfl) ?_
        refine z_iload_n C (z_d dtX6_bestFirst_0 9 rfl) rfl ?_
        refine al_X19 C (z_d dtX6_bestFirst_0 10 rfl) (by omega) ?_
        refine z_aload_n C (z_d dtX6_bestFirst_0 11 rfl) rfl ?_
        refine gf_X6_15 C (z_d dtX6_bestFirst_0 12 rfl) ?_
        refine z_iload_n C (z_d dtX6_bestFirst_0 13 rfl) rfl ?_
        refine al_X19 C (z_d dtX6_bestFirst_0 14 rfl) (by omega) ?_
        refine z_icmp_le (tgt := 26) C (z_d dtX6_bestFirst_0 15 rfl) (by decide) (by omega) (fun h_21 => ?_) (fun h_21 => ?_)
        · refine z_iinc3 C (z_d dtX6_bestFirst_0 18 rfl) rfl ?_
          refine z_goto (tgt := 4) C (z_d dtX6_bestFirst_0 19 rfl) (by decide) ?_
          exact ih_4 _ _ (by omega) (by
                  rw [show (c + 1).toNat = c.toNat + 1 by omega, zMx, Int.toNat_of_nonneg (by omega), ← hx]
                  first | rw [if_pos (by omega)] | rw [if_neg (by omega)]) (by omega)
        · refine z_iload_n C (z_d dtX6_bestFirst_0 16 rfl) rfl ?_
          refine z_istore_n2 C (z_d dtX6_bestFirst_0 17 rfl) rfl ?_
          refine z_iinc3 C (z_d dtX6_bestFirst_0 18 rfl) rfl ?_
          refine z_goto (tgt := 4) C (z_d dtX6_bestFirst_0 19 rfl) (by decide) ?_
          exact ih_4 _ _ (by omega) (by
                  rw [show (c + 1).toNat = c.toNat + 1 by omega, zMx, Int.toNat_of_nonneg (by omega), ← hx]
                  first | rw [if_pos (by omega)] | rw [if_neg (by omega)]) (by omega)
  exact lp_4 _ _ _ (by omega) (zMx_1 _).symm (Nat.lt_succ_self _)
