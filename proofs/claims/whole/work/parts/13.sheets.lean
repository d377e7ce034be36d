/-! THE SHEETS, THE MAP -/
set_option maxRecDepth 100000 in
set_option maxHeartbeats 4000000 in
theorem k_X5_renew {l : Launch} {D : va_G} {t : Nat → ClassId} {ad : Nat → Nat} {σ : zMem} {z f n : Int} (hz : 0 ≤ z ∧ z < 4) : z_Cv l D t yX5_renew cX5_renew 3 1 23 0 0 [.ref (ad (22 + z.toNat)), .int (zI f), .int (zI n)] (wX ad t σ) (fun w => w = wX ad t (zS (zS (zS (zS σ 16 (zU (σ 16) z 1)) 17 (zU (σ 17) z f)) 40 (zU (σ 40) z n)) 20 (fun i => if 240 * z ≤ i ∧ i < 240 * z + 240 then 0 else σ 20 i))) := by
  refine z_Cv_of (by decide +kernel) [some (.ref (ad (22 + z.toNat))), some (.int (zI f)), some (.int (zI n))] rfl rfl (Nat.le_of_ble_eq_true rfl) fun K hl hD ht hR hn C ret => ?_
  subst hl; subst hD; subst ht
  refine z_aload_n C (z_d dtX5_renew_0 0 rfl) rfl ?_
  refine z_iconst C (z_d dtX5_renew_0 1 rfl) ?_
  refine pf_X5_9 C (by omega) (by omega) (z_d dtX5_renew_0 2 rfl) (x := 1) ?_
  refine z_aload_n C (z_d dtX5_renew_0 3 rfl) rfl ?_
  refine z_iload_n C (z_d dtX5_renew_0 4 rfl) rfl ?_
  refine pf_X5_15 C (by omega) (z_d dtX5_renew_0 5 rfl) ?_
  refine z_aload_n C (z_d dtX5_renew_0 6 rfl) rfl ?_
  refine z_iload_n C (z_d dtX5_renew_0 7 rfl) rfl ?_
  refine pf_X5_19 C (by omega) (z_d dtX5_renew_0 8 rfl) ?_
  refine z_aload_n C (z_d dtX5_renew_0 9 rfl) rfl ?_
  refine gf_X5_22 C (by omega) (z_d dtX5_renew_0 10 rfl) ?_
  refine z_iconst C (z_d dtX5_renew_0 11 rfl) ?_
  refine z_callSv C (z_d dtX5_renew_0 12 rfl) (k_fillI (n := 240) (26 + z.toNat) (wX_si hz) (by decide)) cal_J7_fill_53178 gw_33_5 rfl rfl hR ⟨rfl, rfl, rfl, rfl⟩ rfl (fun w_20 h_20 => ?_)
  subst h_20
  refine z_items hz (fun i => if 240 * z ≤ i ∧ i < 240 * z + 240 then 0 else σ 20 i) (fun j hj => by rw [if_pos (by omega)]) (fun j h0 hj => by rw [if_neg (by omega)]; rfl) ?_
  exact ret _ _ _ (z_d dtX5_renew_0 13 rfl) (rfl)

set_option maxRecDepth 100000 in
set_option maxHeartbeats 4000000 in
theorem k_X5_drop {l : Launch} {D : va_G} {t : Nat → ClassId} {ad : Nat → Nat} {σ : zMem} {z : Int} (hz : 0 ≤ z ∧ z < 4) : z_Ci l D t yX5_drop cX5_drop 2 .int 0 0 0 0 [.ref (ad (22 + z.toNat))] (wX ad t σ) (fun r w => w = wX ad t (zS (zS σ 16 (zU (σ 16) z 0)) 40 (zU (σ 40) z 0)) ∧ r = σ 40 z) := by
  refine z_Ci_of (by decide +kernel) [some (.ref (ad (22 + z.toNat))), none] rfl rfl (Nat.le_of_ble_eq_true rfl) fun K hl hD ht hR hn C ret => ?_
  subst hl; subst hD; subst ht
  refine z_aload_n C (z_d dtX5_drop_0 0 rfl) rfl ?_
  refine gf_X5_19 C (by omega) (z_d dtX5_drop_0 1 rfl) ?_
  refine z_istore_n1 C (z_d dtX5_drop_0 2 rfl) rfl ?_
  refine z_aload_n C (z_d dtX5_drop_0 3 rfl) rfl ?_
  refine z_iconst C (z_d dtX5_drop_0 4 rfl) ?_
  refine pf_X5_9 C (by omega) (by omega) (z_d dtX5_drop_0 5 rfl) (x := 0) ?_
  refine z_aload_n C (z_d dtX5_drop_0 6 rfl) rfl ?_
  refine z_iconst C (z_d dtX5_drop_0 7 rfl) ?_
  refine pf_X5_19 C (by omega) (z_d dtX5_drop_0 8 rfl) ?_
  refine z_iload_n C (z_d dtX5_drop_0 9 rfl) rfl ?_
  exact ret _ _ _ _ (z_d dtX5_drop_0 10 rfl) (⟨rfl, rfl⟩) rfl

set_option maxRecDepth 100000 in
set_option maxHeartbeats 4000000 in
theorem k_X5_store {l : Launch} {D : va_G} {t : Nat → ClassId} {ad : Nat → Nat} {σ : zMem} {z i x : Int} (hz : 0 ≤ z ∧ z < 4) (hi : 0 ≤ i ∧ i < 240) (hf : 0 ≤ σ 17 z ∧ σ 17 z ≤ 2) : z_Cv l D t yX5_store cX5_store 3 0 0 0 0 [.ref (ad (22 + z.toNat)), .int (zI i), .int (zI x)] (wX ad t σ) (fun w => w = wX ad t (zS σ 20 (zU (σ 20) (240 * z + i) (zNr (σ 17 z) x)))) := by
  refine z_Cv_of (by decide +kernel) [some (.ref (ad (22 + z.toNat))), some (.int (zI i)), some (.int (zI x))] rfl rfl (Nat.le_of_ble_eq_true rfl) fun K hl hD ht hR hn C ret => ?_
  subst hl; subst hD; subst ht
  refine z_aload_n C (z_d dtX5_store_0 0 rfl) rfl ?_
  refine gf_X5_15 C (by omega) (z_d dtX5_store_0 1 rfl) ?_
  refine z_if_ne (tgt := 18) C (z_d dtX5_store_0 2 rfl) (by decide) (by omega) (fun h_4 => ?_) (fun h_4 => ?_)
  · refine z_aload_n C (z_d dtX5_store_0 10 rfl) rfl ?_
    refine gf_X5_15 C (by omega) (z_d dtX5_store_0 11 rfl) ?_
    refine z_iconst C (z_d dtX5_store_0 12 rfl) ?_
    refine z_icmp_ne (tgt := 37) C (z_d dtX5_store_0 13 rfl) (by decide) (by omega) (fun h_23 => ?_) (fun h_23 => ?_)
    · refine z_aload_n C (z_d dtX5_store_0 21 rfl) rfl ?_
      refine gf_X5_22 C (by omega) (z_d dtX5_store_0 22 rfl) ?_
      refine z_iload_n C (z_d dtX5_store_0 23 rfl) rfl ?_
      refine z_iload_n C (z_d dtX5_store_0 24 rfl) rfl ?_
      refine as_Xsi C (by omega) (z_d dtX5_store_0 25 rfl) (by omega) ?_
      try rw [show ((zI x).toInt8.toInt32).toInt = zNr (σ 17 z) x by unfold zNr; rw [if_pos (by omega)]]
      try rw [show ((zI x).toInt16.toInt32).toInt = zNr (σ 17 z) x by unfold zNr; rw [if_neg (by omega), if_pos (by omega)]]
      exact ret _ _ _ (z_d dtX5_store_0 26 rfl) ((by first | rfl | (rw [zNr, if_neg (by omega), if_neg (by omega)])))
    · refine z_aload_n C (z_d dtX5_store_0 14 rfl) rfl ?_
      refine gf_X5_22 C (by omega) (z_d dtX5_store_0 15 rfl) ?_
      refine z_iload_n C (z_d dtX5_store_0 16 rfl) rfl ?_
      refine z_iload_n C (z_d dtX5_store_0 17 rfl) rfl ?_
      refine z_i2s C (z_d dtX5_store_0 18 rfl) (zI_of _).symm ?_
      refine as_Xsi C (by omega) (z_d dtX5_store_0 19 rfl) (by omega) ?_
      refine z_goto (tgt := 44) C (z_d dtX5_store_0 20 rfl) (by decide) ?_
      try rw [show ((zI x).toInt8.toInt32).toInt = zNr (σ 17 z) x by unfold zNr; rw [if_pos (by omega)]]
      try rw [show ((zI x).toInt16.toInt32).toInt = zNr (σ 17 z) x by unfold zNr; rw [if_neg (by omega), if_pos (by omega)]]
      exact ret _ _ _ (z_d dtX5_store_0 26 rfl) ((by first | rfl | (rw [zNr, if_neg (by omega), if_neg (by omega)])))
  · refine z_aload_n C (z_d dtX5_store_0 3 rfl) rfl ?_
    refine gf_X5_22 C (by omega) (z_d dtX5_store_0 4 rfl) ?_
    refine z_iload_n C (z_d dtX5_store_0 5 rfl) rfl ?_
    refine z_iload_n C (z_d dtX5_store_0 6 rfl) rfl ?_
    refine z_i2b C (z_d dtX5_store_0 7 rfl) (zI_of _).symm ?_
    refine as_Xsi C (by omega) (z_d dtX5_store_0 8 rfl) (by omega) ?_
    refine z_goto (tgt := 44) C (z_d dtX5_store_0 9 rfl) (by decide) ?_
    try rw [show ((zI x).toInt8.toInt32).toInt = zNr (σ 17 z) x by unfold zNr; rw [if_pos (by omega)]]
    try rw [show ((zI x).toInt16.toInt32).toInt = zNr (σ 17 z) x by unfold zNr; rw [if_neg (by omega), if_pos (by omega)]]
    exact ret _ _ _ (z_d dtX5_store_0 26 rfl) ((by first | rfl | (rw [zNr, if_neg (by omega), if_neg (by omega)])))

set_option maxRecDepth 100000 in
set_option maxHeartbeats 4000000 in
theorem k_X5_hasItems {l : Launch} {D : va_G} {t : Nat → ClassId} {ad : Nat → Nat} {σ : zMem} {z a n : Int} (hz : 0 ≤ z ∧ z < 4) (hsz : 0 ≤ σ 40 z ∧ σ 40 z ≤ 240) (ha : -2147483648 ≤ a ∧ a < 2147483648) (hn2 : -2147483648 ≤ n ∧ n < 2147483648) : z_Ci l D t yX5_hasItems cX5_hasItems 3 .boolean 0 0 0 0 [.ref (ad (22 + z.toNat)), .int (zI a), .int (zI n)] (wX ad t σ) (fun r w => w = wX ad t σ ∧ ((r = 1 ∧ (0 ≤ a ∧ 0 ≤ n ∧ a ≤ σ 40 z ∧ n ≤ σ 40 z - a)) ∨ (r = 0 ∧ ¬ (0 ≤ a ∧ 0 ≤ n ∧ a ≤ σ 40 z ∧ n ≤ σ 40 z - a)))) := by
  refine z_Ci_of (by decide +kernel) [some (.ref (ad (22 + z.toNat))), some (.int (zI a)), some (.int (zI n))] rfl rfl (Nat.le_of_ble_eq_true rfl) fun K hl hD ht hR hn C ret => ?_
  subst hl; subst hD; subst ht
  refine z_iload_n C (z_d dtX5_hasItems_0 0 rfl) rfl ?_
  refine z_if_lt (tgt := 30) C (z_d dtX5_hasItems_0 1 rfl) (by decide) (by omega) (fun h_1 => ?_) (fun h_1 => ?_)
  · refine z_iconst C (z_d dtX5_hasItems_0 16 rfl) ?_
    exact ret _ _ _ _ (z_d dtX5_hasItems_0 17 rfl) (⟨rfl, by omega⟩) (z_nb (by omega))
  · refine z_iload_n C (z_d dtX5_hasItems_0 2 rfl) rfl ?_
    refine z_if_lt (tgt := 30) C (z_d dtX5_hasItems_0 3 rfl) (by decide) (by omega) (fun h_5 => ?_) (fun h_5 => ?_)
    · refine z_iconst C (z_d dtX5_hasItems_0 16 rfl) ?_
      exact ret _ _ _ _ (z_d dtX5_hasItems_0 17 rfl) (⟨rfl, by omega⟩) (z_nb (by omega))
    · refine z_iload_n C (z_d dtX5_hasItems_0 4 rfl) rfl ?_
      refine z_aload_n C (z_d dtX5_hasItems_0 5 rfl) rfl ?_
      refine gf_X5_19 C (by omega) (z_d dtX5_hasItems_0 6 rfl) ?_
      refine z_icmp_gt (tgt := 30) C (z_d dtX5_hasItems_0 7 rfl) (by decide) (by omega) (fun h_13 => ?_) (fun h_13 => ?_)
      · refine z_iconst C (z_d dtX5_hasItems_0 16 rfl) ?_
        exact ret _ _ _ _ (z_d dtX5_hasItems_0 17 rfl) (⟨rfl, by omega⟩) (z_nb (by omega))
      · refine z_iload_n C (z_d dtX5_hasItems_0 8 rfl) rfl ?_
        refine z_aload_n C (z_d dtX5_hasItems_0 9 rfl) rfl ?_
        refine gf_X5_19 C (by omega) (z_d dtX5_hasItems_0 10 rfl) ?_
        refine z_iload_n C (z_d dtX5_hasItems_0 11 rfl) rfl ?_
        refine z_isub C (z_d dtX5_hasItems_0 12 rfl) ?_
        refine z_icmp_gt (tgt := 30) C (z_d dtX5_hasItems_0 13 rfl) (by decide) (by omega) (fun h_23 => ?_) (fun h_23 => ?_)
        · refine z_iconst C (z_d dtX5_hasItems_0 16 rfl) ?_
          exact ret _ _ _ _ (z_d dtX5_hasItems_0 17 rfl) (⟨rfl, by omega⟩) (z_nb (by omega))
        · refine z_iconst C (z_d dtX5_hasItems_0 14 rfl) ?_
          refine z_goto (tgt := 31) C (z_d dtX5_hasItems_0 15 rfl) (by decide) ?_
          exact ret _ _ _ _ (z_d dtX5_hasItems_0 17 rfl) (⟨rfl, by omega⟩) (z_nb (by omega))

set_option maxRecDepth 100000 in
set_option maxHeartbeats 4000000 in
theorem k_X5_rows {l : Launch} {D : va_G} {t : Nat → ClassId} {ad : Nat → Nat} {σ : zMem} {z : Int} (hz : 0 ≤ z ∧ z < 4) (hsz : 0 ≤ σ 40 z ∧ σ 40 z ≤ 240) : z_Ci l D t yX5_rows cX5_rows 1 .int 0 0 0 0 [.ref (ad (22 + z.toNat))] (wX ad t σ) (fun r w => w = wX ad t σ ∧ r = σ 40 z / 8) := by
  refine z_Ci_of (by decide +kernel) [some (.ref (ad (22 + z.toNat)))] rfl rfl (Nat.le_of_ble_eq_true rfl) fun K hl hD ht hR hn C ret => ?_
  subst hl; subst hD; subst ht
  refine z_aload_n C (z_d dtX5_rows_0 0 rfl) rfl ?_
  refine gf_X5_19 C (by omega) (z_d dtX5_rows_0 1 rfl) ?_
  refine z_bipush C (z_d dtX5_rows_0 2 rfl) zb_8 ?_
  refine z_idiv C (z_d dtX5_rows_0 3 rfl) (by omega) ?_
  exact ret _ _ _ _ (z_d dtX5_rows_0 4 rfl) (⟨rfl, rfl⟩) rfl

set_option maxRecDepth 100000 in
set_option maxHeartbeats 4000000 in
theorem k_X5_heardOf {l : Launch} {D : va_G} {t : Nat → ClassId} {ad : Nat → Nat} {σ : zMem} {z row k : Int} (hz : 0 ≤ z ∧ z < 4) (hit : zIt σ) (hrow : 0 ≤ row ∧ row < 30) (hk : 0 ≤ k ∧ k < 8) : z_Ci l D t yX5_heardOf cX5_heardOf 4 .int 0 0 0 0 [.ref (ad (22 + z.toNat)), .int (zI row), .int (zI k)] (wX ad t σ) (fun r w => w = wX ad t σ ∧ r = zH0 (zHv σ z row k)) := by
  refine z_Ci_of (by decide +kernel) [some (.ref (ad (22 + z.toNat))), some (.int (zI row)), some (.int (zI k)), none] rfl rfl (Nat.le_of_ble_eq_true rfl) fun K hl hD ht hR hn C ret => ?_
  subst hl; subst hD; subst ht
  have hv := hit (240 * z + (row * 8 + k))
  refine z_aload_n C (z_d dtX5_heardOf_0 0 rfl) rfl ?_
  refine gf_X5_22 C (by omega) (z_d dtX5_heardOf_0 1 rfl) ?_
  refine z_iload_n C (z_d dtX5_heardOf_0 2 rfl) rfl ?_
  refine z_bipush C (z_d dtX5_heardOf_0 3 rfl) zb_8 ?_
  refine z_imul C (z_d dtX5_heardOf_0 4 rfl) ?_
  refine z_iload_n C (z_d dtX5_heardOf_0 5 rfl) rfl ?_
  refine z_iadd C (z_d dtX5_heardOf_0 6 rfl) ?_
  refine al_Xsi C (by omega) (z_d dtX5_heardOf_0 7 rfl) (by omega) ?_
  refine z_istore_n3 C (z_d dtX5_heardOf_0 8 rfl) rfl ?_
  refine z_iload_n C (z_d dtX5_heardOf_0 9 rfl) rfl ?_
  refine z_iconst C (z_d dtX5_heardOf_0 10 rfl) ?_
  refine z_icmp_lt (tgt := 27) C (z_d dtX5_heardOf_0 11 rfl) (by decide) (by omega) (fun h_14 => ?_) (fun h_14 => ?_)
  · refine z_bipush C (z_d dtX5_heardOf_0 17 rfl) zb_m2 ?_
    exact ret _ _ _ _ (z_d dtX5_heardOf_0 18 rfl) (⟨rfl, by unfold zH0 zHv; first | rw [if_pos (by omega)] | rw [if_neg (by omega)]⟩) rfl
  · refine z_iload_n C (z_d dtX5_heardOf_0 12 rfl) rfl ?_
    refine z_bipush C (z_d dtX5_heardOf_0 13 rfl) zb_9 ?_
    refine z_icmp_gt (tgt := 27) C (z_d dtX5_heardOf_0 14 rfl) (by decide) (by omega) (fun h_20 => ?_) (fun h_20 => ?_)
    · refine z_bipush C (z_d dtX5_heardOf_0 17 rfl) zb_m2 ?_
      exact ret _ _ _ _ (z_d dtX5_heardOf_0 18 rfl) (⟨rfl, by unfold zH0 zHv; first | rw [if_pos (by omega)] | rw [if_neg (by omega)]⟩) rfl
    · refine z_iload_n C (z_d dtX5_heardOf_0 15 rfl) rfl ?_
      refine z_goto (tgt := 29) C (z_d dtX5_heardOf_0 16 rfl) (by decide) ?_
      exact ret _ _ _ _ (z_d dtX5_heardOf_0 18 rfl) (⟨rfl, by unfold zH0 zHv; first | rw [if_pos (by omega)] | rw [if_neg (by omega)]⟩) rfl

set_option maxRecDepth 100000 in
set_option maxHeartbeats 4000000 in
theorem k_X5_heardBy {l : Launch} {D : va_G} {t : Nat → ClassId} {ad : Nat → Nat} {σ : zMem} {z row k o : Int} (hz : 0 ≤ z ∧ z < 4) (hit : zIt σ) (hrow : 0 ≤ row ∧ row < 30) (hk : 0 ≤ k ∧ k < 8) (ho : -4 ≤ o ∧ o ≤ 4) : z_Ci l D t yX5_heardBy cX5_heardBy 5 .int 1 23 0 0 [.ref (ad (22 + z.toNat)), .int (zI row), .int (zI k), .int (zI o)] (wX ad t σ) (fun r w => w = wX ad t σ ∧ r = zHo (zHv σ z row k) o) := by
  refine z_Ci_of (by decide +kernel) [some (.ref (ad (22 + z.toNat))), some (.int (zI row)), some (.int (zI k)), some (.int (zI o)), none] rfl rfl (Nat.le_of_ble_eq_true rfl) fun K hl hD ht hR hn C ret => ?_
  subst hl; subst hD; subst ht
  have hb := zH0_b (zHv σ z row k)
  generalize hv : zHv σ z row k = v at hb ⊢
  have hd : zH0 v = -2 ∧ ¬ (-1 ≤ v ∧ v ≤ 9) ∨ zH0 v = v ∧ (-1 ≤ v ∧ v ≤ 9) := by
    unfold zH0
    split <;> omega
  refine z_aload_n C (z_d dtX5_heardBy_0 0 rfl) rfl ?_
  refine z_iload_n C (z_d dtX5_heardBy_0 1 rfl) rfl ?_
  refine z_iload_n C (z_d dtX5_heardBy_0 2 rfl) rfl ?_
  refine z_callV C (z_d dtX5_heardBy_0 3 rfl) (k_X5_heardOf  (by first | assumption | omega) (by first | assumption | omega) (by first | assumption | omega) (by first | assumption | omega)) cal_X5_heardOf gw_19_6 rfl (22 + _) 5 (wX_sh (by omega)) rfl rfl rfl hR ⟨rfl, rfl, rfl, rfl⟩ rfl (fun r_3 w_3 h_3 => ?_)
  obtain ⟨rfl, rfl⟩ := h_3
  rw [hv]
  refine z_istore4 C (z_d dtX5_heardBy_0 4 rfl) rfl ?_
  refine z_iload C (z_d dtX5_heardBy_0 5 rfl) rfl ?_
  refine z_bipush C (z_d dtX5_heardBy_0 6 rfl) zb_m2 ?_
  refine z_icmp_eq (tgt := 21) C (z_d dtX5_heardBy_0 7 rfl) (by decide) (by omega) (fun h_12 => ?_) (fun h_12 => ?_)
  · refine z_iload C (z_d dtX5_heardBy_0 11 rfl) rfl ?_
    exact ret _ _ _ _ (z_d dtX5_heardBy_0 12 rfl) (⟨rfl, by
        rw [hv]
        unfold zHo
        by_cases q : -1 ≤ v ∧ v ≤ 9
        · rw [if_pos q]
          split
          · omega
          · split
            · omega
            · split <;> omega
        · rw [if_neg q]; omega⟩) rfl
  · refine z_iload C (z_d dtX5_heardBy_0 8 rfl) rfl ?_
    refine z_iconst C (z_d dtX5_heardBy_0 9 rfl) ?_
    refine z_icmp_ne (tgt := 24) C (z_d dtX5_heardBy_0 10 rfl) (by decide) (by omega) (fun h_18 => ?_) (fun h_18 => ?_)
    · refine z_iconst C (z_d dtX5_heardBy_0 13 rfl) ?_
      refine z_bipush C (z_d dtX5_heardBy_0 14 rfl) zb_9 ?_
      refine z_iload C (z_d dtX5_heardBy_0 15 rfl) rfl ?_
      refine z_iload_n C (z_d dtX5_heardBy_0 16 rfl) rfl ?_
      refine z_isub C (z_d dtX5_heardBy_0 17 rfl) ?_
      refine z_mminP C (z_d dtX5_heardBy_0 18 rfl) gw_19_4 gw_9_19 gw_9_20 gw_9_21 rfl (by rw [hR]; exact Nat.le_of_ble_eq_true rfl) (by rw [hR]; exact Nat.le_of_ble_eq_true rfl) (by rw [hR]; exact Nat.le_refl _) (by rw [hR]; exact Nat.le_refl _) (by omega) (fun m_31 h_31 => ?_)
      refine z_mmaxP C (z_d dtX5_heardBy_0 19 rfl) gw_19_5 gw_9_23 gw_9_20 gw_10_0 rfl (by rw [hR]; exact Nat.le_of_ble_eq_true rfl) (by rw [hR]; exact Nat.le_of_ble_eq_true rfl) (by rw [hR]; exact Nat.le_refl _) (by rw [hR]; exact Nat.le_refl _) (by omega) (fun m_34 h_34 => ?_)
      exact ret _ _ _ _ (z_d dtX5_heardBy_0 20 rfl) (⟨rfl, by
          rw [hv]
          unfold zHo
          by_cases q : -1 ≤ v ∧ v ≤ 9
          · rw [if_pos q]
            split
            · omega
            · split
              · omega
              · split <;> omega
          · rw [if_neg q]; omega⟩) rfl
    · refine z_iload C (z_d dtX5_heardBy_0 11 rfl) rfl ?_
      exact ret _ _ _ _ (z_d dtX5_heardBy_0 12 rfl) (⟨rfl, by
          rw [hv]
          unfold zHo
          by_cases q : -1 ≤ v ∧ v ≤ 9
          · rw [if_pos q]
            split
            · omega
            · split
              · omega
              · split <;> omega
          · rw [if_neg q]; omega⟩) rfl

set_option maxRecDepth 100000 in
set_option maxHeartbeats 4000000 in
theorem k_X4_clear {l : Launch} {D : va_G} {t : Nat → ClassId} {ad : Nat → Nat} {σ : zMem}   : z_Cv l D t yX4_clear cX4_clear 1 1 23 0 0 [.ref (ad 2)] (wX ad t σ) (fun w => w = wX ad t (zS σ 8 (zC 0))) := by
  refine z_Cv_of (by decide +kernel) [some (.ref (ad 2))] rfl rfl (Nat.le_of_ble_eq_true rfl) fun K hl hD ht hR hn C ret => ?_
  subst hl; subst hD; subst ht
  refine z_aload_n C (z_d dtX4_clear_0 0 rfl) rfl ?_
  refine gf_X4_15 C (z_d dtX4_clear_0 1 rfl) ?_
  refine z_iconst C (z_d dtX4_clear_0 2 rfl) ?_
  refine z_callSv C (z_d dtX4_clear_0 3 rfl) kf_X14 cal_J7_fill_53178 gw_6_5 rfl rfl hR ⟨rfl, rfl, rfl, rfl⟩ rfl (fun w_5 h_5 => ?_)
  subst h_5
  exact ret _ _ _ (z_d dtX4_clear_0 4 rfl) (rfl)

set_option maxRecDepth 100000 in
set_option maxHeartbeats 4000000 in
theorem k_X4_putDead {l : Launch} {D : va_G} {t : Nat → ClassId} {ad : Nat → Nat} {σ : zMem} {k s : Int} (hk : 0 ≤ k ∧ k < 8) (hdd : σ 30 0 = zDb (σ 7)) (h7 : zBo σ 7) (h01 : s = 0 ∨ s = 1) : z_Cv l D t yX4_putDead cX4_putDead 3 0 0 0 0 [.ref (ad 2), .int (zI k), .int (zI s)] (wX ad t σ) (fun w => w = wX ad t (zS σ 30 (zC (zDb (zU (σ 7) k s))))) := by
  refine z_Cv_of (by decide +kernel) [some (.ref (ad 2)), some (.int (zI k)), some (.int (zI s))] rfl rfl (Nat.le_of_ble_eq_true rfl) fun K hl hD ht hR hn C ret => ?_
  subst hl; subst hD; subst ht
  have hD := zDb_b h7
  have hB := zDb_k h7 hk
  have hU := zDb_u (F := σ 7) (v := s) hk
  have hm := Int.mul_comm (zDb (σ 7) / z_p2 k % 2) (z_p2 k)
  refine z_aload_n C (z_d dtX4_putDead_0 0 rfl) rfl ?_
  refine z_iload_n C (z_d dtX4_putDead_0 1 rfl) rfl ?_
  refine z_if_eq (tgt := 16) C (z_d dtX4_putDead_0 2 rfl) (by decide) (by omega) (fun h_2 => ?_) (fun h_2 => ?_)
  · refine z_aload_n C (z_d dtX4_putDead_0 10 rfl) rfl ?_
    refine gf_X4_9 C (z_d dtX4_putDead_0 11 rfl) ?_
    refine z_iconst C (z_d dtX4_putDead_0 12 rfl) ?_
    refine z_iload_n C (z_d dtX4_putDead_0 13 rfl) rfl ?_
    refine z_ishl C (z_d dtX4_putDead_0 14 rfl) (z_shl hk) ?_
    refine z_iconst C (z_d dtX4_putDead_0 15 rfl) ?_
    refine z_ixor C (z_d dtX4_putDead_0 16 rfl) (z_xor1 _) ?_
    refine z_iand C (z_d dtX4_putDead_0 17 rfl) (z_andn (by omega) hk) ?_
    try rw [show σ 30 0 + (1 - σ 30 0 / z_p2 k % 2) * z_p2 k = zDb (zU (σ 7) k s) by rw [hU, hdd, hB, show s = 1 by omega]]
    try rw [show σ 30 0 - σ 30 0 / z_p2 k % 2 * z_p2 k = zDb (zU (σ 7) k s) by rw [hU, hdd, hB, show s = 0 by omega, Int.zero_sub, Int.neg_mul]; rfl]
    refine pf_X4_9 C (z_d dtX4_putDead_0 18 rfl) ?_
    exact ret _ _ _ (z_d dtX4_putDead_0 19 rfl) (rfl)
  · refine z_aload_n C (z_d dtX4_putDead_0 3 rfl) rfl ?_
    refine gf_X4_9 C (z_d dtX4_putDead_0 4 rfl) ?_
    refine z_iconst C (z_d dtX4_putDead_0 5 rfl) ?_
    refine z_iload_n C (z_d dtX4_putDead_0 6 rfl) rfl ?_
    refine z_ishl C (z_d dtX4_putDead_0 7 rfl) (z_shl hk) ?_
    refine z_ior C (z_d dtX4_putDead_0 8 rfl) (z_orb (by omega) hk) ?_
    refine z_goto (tgt := 26) C (z_d dtX4_putDead_0 9 rfl) (by decide) ?_
    try rw [show σ 30 0 + (1 - σ 30 0 / z_p2 k % 2) * z_p2 k = zDb (zU (σ 7) k s) by rw [hU, hdd, hB, show s = 1 by omega]]
    try rw [show σ 30 0 - σ 30 0 / z_p2 k % 2 * z_p2 k = zDb (zU (σ 7) k s) by rw [hU, hdd, hB, show s = 0 by omega, Int.zero_sub, Int.neg_mul]; rfl]
    refine pf_X4_9 C (z_d dtX4_putDead_0 18 rfl) ?_
    exact ret _ _ _ (z_d dtX4_putDead_0 19 rfl) (rfl)

set_option maxRecDepth 100000 in
set_option maxHeartbeats 4000000 in
theorem k_X4_isDead {l : Launch} {D : va_G} {t : Nat → ClassId} {ad : Nat → Nat} {σ : zMem} {k : Int} (hk : 0 ≤ k ∧ k < 8) (hdd : σ 30 0 = zDb (σ 7)) (h7 : zBo σ 7) : z_Ci l D t yX4_isDead cX4_isDead 2 .boolean 0 0 0 0 [.ref (ad 2), .int (zI k)] (wX ad t σ) (fun r w => w = wX ad t σ ∧ ((r = 1 ∧ (σ 7 k = 1)) ∨ (r = 0 ∧ ¬ (σ 7 k = 1)))) := by
  refine z_Ci_of (by decide +kernel) [some (.ref (ad 2)), some (.int (zI k))] rfl rfl (Nat.le_of_ble_eq_true rfl) fun K hl hD ht hR hn C ret => ?_
  subst hl; subst hD; subst ht
  have hD := zDb_b h7
  have hB := zDb_k h7 hk
  have h7k := h7 k
  have hq : 0 ≤ σ 30 0 / z_p2 k ∧ σ 30 0 / z_p2 k < 256 := by
    have hp : 1 ≤ z_p2 k := by unfold z_p2; repeat (split; omega); omega
    have a := Int.ediv_nonneg (a := σ 30 0) (b := z_p2 k) (by omega) (by omega)
    have b := Int.ediv_le_self (z_p2 k) (show 0 ≤ σ 30 0 by omega)
    omega
  refine z_aload_n C (z_d dtX4_isDead_0 0 rfl) rfl ?_
  refine gf_X4_9 C (z_d dtX4_isDead_0 1 rfl) ?_
  refine z_iload_n C (z_d dtX4_isDead_0 2 rfl) rfl ?_
  refine z_ishr C (z_d dtX4_isDead_0 3 rfl) (z_shr (by omega) hk) ?_
  refine z_iconst C (z_d dtX4_isDead_0 4 rfl) ?_
  refine z_iand C (z_d dtX4_isDead_0 5 rfl) (z_and1 hq) ?_
  refine z_iconst C (z_d dtX4_isDead_0 6 rfl) ?_
  refine z_icmp_ne (tgt := 16) C (z_d dtX4_isDead_0 7 rfl) (by decide) (by omega) (fun h_9 => ?_) (fun h_9 => ?_)
  · refine z_iconst C (z_d dtX4_isDead_0 10 rfl) ?_
    exact ret _ _ _ _ (z_d dtX4_isDead_0 11 rfl) (⟨rfl, by rw [hdd, hB] at *; omega⟩) (z_nb (by omega))
  · refine z_iconst C (z_d dtX4_isDead_0 8 rfl) ?_
    refine z_goto (tgt := 17) C (z_d dtX4_isDead_0 9 rfl) (by decide) ?_
    exact ret _ _ _ _ (z_d dtX4_isDead_0 11 rfl) (⟨rfl, by rw [hdd, hB] at *; omega⟩) (z_nb (by omega))

set_option maxRecDepth 100000 in
set_option maxHeartbeats 4000000 in
theorem k_X4_slotOf {l : Launch} {D : va_G} {t : Nat → ClassId} {ad : Nat → Nat} {σ : zMem} {k c v : Int}  : z_Ci l D t yX4_slotOf cX4_slotOf 3 .int 0 0 0 0 [.int (zI k), .int (zI c), .int (zI v)] (wX ad t σ) (fun r w => w = wX ad t σ ∧ r = zAt k c v) := by
  refine z_Ci_of (by decide +kernel) [some (.int (zI k)), some (.int (zI c)), some (.int (zI v))] rfl rfl (Nat.le_of_ble_eq_true rfl) fun K hl hD ht hR hn C ret => ?_
  subst hl; subst hD; subst ht
  refine z_iload_n C (z_d dtX4_slotOf_0 0 rfl) rfl ?_
  refine z_bipush C (z_d dtX4_slotOf_0 1 rfl) zb_72 ?_
  refine z_imul C (z_d dtX4_slotOf_0 2 rfl) ?_
  refine z_iload_n C (z_d dtX4_slotOf_0 3 rfl) rfl ?_
  refine z_iadd C (z_d dtX4_slotOf_0 4 rfl) ?_
  refine z_bipush C (z_d dtX4_slotOf_0 5 rfl) zb_11 ?_
  refine z_imul C (z_d dtX4_slotOf_0 6 rfl) ?_
  refine z_iload_n C (z_d dtX4_slotOf_0 7 rfl) rfl ?_
  refine z_iadd C (z_d dtX4_slotOf_0 8 rfl) ?_
  refine z_iconst C (z_d dtX4_slotOf_0 9 rfl) ?_
  refine z_isub C (z_d dtX4_slotOf_0 10 rfl) ?_
  exact ret _ _ _ _ (z_d dtX4_slotOf_0 11 rfl) (⟨rfl, by unfold zAt; omega⟩) rfl

set_option maxRecDepth 100000 in
set_option maxHeartbeats 4000000 in
theorem k_X4_weightOf {l : Launch} {D : va_G} {t : Nat → ClassId} {ad : Nat → Nat} {σ : zMem} {k c v : Int} (hk : 0 ≤ k ∧ k < 8) (hc : 0 ≤ c ∧ c < 72) (hv : -1 ≤ v ∧ v ≤ 9) : z_Ci l D t yX4_weightOf cX4_weightOf 4 .int 1 22 0 0 [.ref (ad 2), .int (zI k), .int (zI c), .int (zI v)] (wX ad t σ) (fun r w => w = wX ad t σ ∧ r = zWt σ k c v) := by
  refine z_Ci_of (by decide +kernel) [some (.ref (ad 2)), some (.int (zI k)), some (.int (zI c)), some (.int (zI v))] rfl rfl (Nat.le_of_ble_eq_true rfl) fun K hl hD ht hR hn C ret => ?_
  subst hl; subst hD; subst ht
  have ha := zAt_b hk hc hv
  refine z_aload_n C (z_d dtX4_weightOf_0 0 rfl) rfl ?_
  refine gf_X4_15 C (z_d dtX4_weightOf_0 1 rfl) ?_
  refine z_iload_n C (z_d dtX4_weightOf_0 2 rfl) rfl ?_
  refine z_iload_n C (z_d dtX4_weightOf_0 3 rfl) rfl ?_
  refine z_iload_n C (z_d dtX4_weightOf_0 4 rfl) rfl ?_
  refine z_callS C (z_d dtX4_weightOf_0 5 rfl) (k_X4_slotOf  ) cal_X4_slotOf gw_16_9 rfl rfl hR ⟨rfl, rfl, rfl, rfl⟩ rfl (fun r_7 w_7 h_7 => ?_)
  obtain ⟨rfl, rfl⟩ := h_7
  refine al_X14 C (z_d dtX4_weightOf_0 6 rfl) (by omega) ?_
  refine z_iconst C (z_d dtX4_weightOf_0 7 rfl) ?_
  refine z_iadd C (z_d dtX4_weightOf_0 8 rfl) ?_
  exact ret _ _ _ _ (z_d dtX4_weightOf_0 9 rfl) (⟨rfl, rfl⟩) rfl

set_option maxRecDepth 100000 in
set_option maxHeartbeats 4000000 in
theorem k_X4_weightOfAll {l : Launch} {D : va_G} {t : Nat → ClassId} {ad : Nat → Nat} {σ : zMem} {k c : Int} (hk : 0 ≤ k ∧ k < 8) (hc : 0 ≤ c ∧ c < 72) : z_Ci l D t yX4_weightOfAll cX4_weightOfAll 5 .int 2 45 0 0 [.ref (ad 2), .int (zI k), .int (zI c)] (wX ad t σ) (fun r w => w = wX ad t σ ∧ r = zWa σ k c 11) := by
  refine z_Ci_of (by decide +kernel) [some (.ref (ad 2)), some (.int (zI k)), some (.int (zI c)), none, none] rfl rfl (Nat.le_of_ble_eq_true rfl) fun K hl hD ht hR hn C ret => ?_
  subst hl; subst hD; subst ht
  refine z_iconst C (z_d dtX4_weightOfAll_0 0 rfl) ?_
  refine z_istore_n3 C (z_d dtX4_weightOfAll_0 1 rfl) rfl ?_
  refine z_iconst C (z_d dtX4_weightOfAll_0 2 rfl) ?_
  refine z_istore4 C (z_d dtX4_weightOfAll_0 3 rfl) rfl ?_
  have lp_5 : ∀ (N_5 : Nat) (i : Nat) (v s : Int), (v = i - 1 ∧ i ≤ 11) → (s = zWa σ k c i) → 11 - i < N_5 → Gd K 0 0 5 [some (.ref (ad 2)), some (.int (zI k)), some (.int (zI c)), some (.int (zI s)), some (.int (zI v))] [] (wX ad (z_t K) σ) := by
    intro N_5
    induction N_5 with
    | zero => intro i v s hi hs hm_5; exact absurd hm_5 (Nat.not_lt_zero _)
    | succ N_5 ih_5 =>
      intro i v s hi hs hm_5
      obtain ⟨rfl, hi⟩ := hi
      refine z_iload C (z_d dtX4_weightOfAll_0 4 rfl) rfl ?_
      refine z_bipush C (z_d dtX4_weightOfAll_0 5 rfl) zb_9 ?_
      refine z_icmp_gt (tgt := 29) C (z_d dtX4_weightOfAll_0 6 rfl) (by decide) (by omega) (fun h_9 => ?_) (fun h_9 => ?_)
      · refine z_iload_n C (z_d dtX4_weightOfAll_0 17 rfl) rfl ?_
        exact ret _ _ _ _ (z_d dtX4_weightOfAll_0 18 rfl) (⟨rfl, by rw [hs, show i = 11 by omega]⟩) rfl
      · refine z_iload_n C (z_d dtX4_weightOfAll_0 7 rfl) rfl ?_
        refine z_aload_n C (z_d dtX4_weightOfAll_0 8 rfl) rfl ?_
        refine z_iload_n C (z_d dtX4_weightOfAll_0 9 rfl) rfl ?_
        refine z_iload_n C (z_d dtX4_weightOfAll_0 10 rfl) rfl ?_
        refine z_iload C (z_d dtX4_weightOfAll_0 11 rfl) rfl ?_
        refine z_callV C (z_d dtX4_weightOfAll_0 12 rfl) (k_X4_weightOf  (by first | assumption | omega) (by first | assumption | omega) (by first | assumption | omega)) cal_X4_weightOf gw_19_11 rfl 2 4 rfl rfl rfl rfl hR ⟨rfl, rfl, rfl, rfl⟩ rfl (fun r_18 w_18 h_18 => ?_)
        obtain ⟨rfl, rfl⟩ := h_18
        refine z_iadd C (z_d dtX4_weightOfAll_0 13 rfl) ?_
        refine z_istore_n3 C (z_d dtX4_weightOfAll_0 14 rfl) rfl ?_
        refine z_iinc4 C (z_d dtX4_weightOfAll_0 15 rfl) rfl ?_
        refine z_goto (tgt := 5) C (z_d dtX4_weightOfAll_0 16 rfl) (by decide) ?_
        exact ih_5 (i + 1) _ _ (by omega) (by rw [zWa, hs]) (by omega)
  exact lp_5 _ 0 _ _ (by omega) rfl (Nat.lt_succ_self _)

set_option maxRecDepth 100000 in
set_option maxHeartbeats 4000000 in
theorem k_X4_greatestWeight {l : Launch} {D : va_G} {t : Nat → ClassId} {ad : Nat → Nat} {σ : zMem} {k v n : Int} (hk : 0 ≤ k ∧ k < 8) (hv : -1 ≤ v ∧ v ≤ 9) (hmp : zMp σ) (hn2 : 1 ≤ n ∧ n ≤ 72) : z_Ci l D t yX4_greatestWeight cX4_greatestWeight 6 .int 2 45 0 0 [.ref (ad 2), .int (zI k), .int (zI v), .int (zI n)] (wX ad t σ) (fun r w => w = wX ad t σ ∧ r = zGw σ k v n.toNat) := by
  refine z_Ci_of (by decide +kernel) [some (.ref (ad 2)), some (.int (zI k)), some (.int (zI v)), some (.int (zI n)), none, none] rfl rfl (Nat.le_of_ble_eq_true rfl) fun K hl hD ht hR hn C ret => ?_
  subst hl; subst hD; subst ht
  refine z_iconst C (z_d dtX4_greatestWeight_0 0 rfl) ?_
  refine z_istore4 C (z_d dtX4_greatestWeight_0 1 rfl) rfl ?_
  refine z_iconst C (z_d dtX4_greatestWeight_0 2 rfl) ?_
  refine z_istore5 C (z_d dtX4_greatestWeight_0 3 rfl) rfl ?_
  have lp_6 : ∀ (N_6 : Nat) (i : Nat) (c g : Int), (c = i ∧ i ≤ n.toNat) → (g = zGw σ k v i) → n.toNat - i < N_6 → Gd K 0 0 6 [some (.ref (ad 2)), some (.int (zI k)), some (.int (zI v)), some (.int (zI n)), some (.int (zI g)), some (.int (zI c))] [] (wX ad (z_t K) σ) := by
    intro N_6
    induction N_6 with
    | zero => intro i c g hi hg hm_6; exact absurd hm_6 (Nat.not_lt_zero _)
    | succ N_6 ih_6 =>
      intro i c g hi hg hm_6
      obtain ⟨rfl, hi⟩ := hi
      have hb1 := zGw_b hmp k v i
      have hb2 := zWt_b hmp k i v
      refine z_iload C (z_d dtX4_greatestWeight_0 4 rfl) rfl ?_
      refine z_iload_n C (z_d dtX4_greatestWeight_0 5 rfl) rfl ?_
      refine z_icmp_ge (tgt := 33) C (z_d dtX4_greatestWeight_0 6 rfl) (by decide) (by omega) (fun h_9 => ?_) (fun h_9 => ?_)
      · refine z_iload C (z_d dtX4_greatestWeight_0 17 rfl) rfl ?_
        exact ret _ _ _ _ (z_d dtX4_greatestWeight_0 18 rfl) (⟨rfl, by rw [hg, show i = n.toNat by omega]⟩) rfl
      · refine z_iload C (z_d dtX4_greatestWeight_0 7 rfl) rfl ?_
        refine z_aload_n C (z_d dtX4_greatestWeight_0 8 rfl) rfl ?_
        refine z_iload_n C (z_d dtX4_greatestWeight_0 9 rfl) rfl ?_
        refine z_iload C (z_d dtX4_greatestWeight_0 10 rfl) rfl ?_
        refine z_iload_n C (z_d dtX4_greatestWeight_0 11 rfl) rfl ?_
        refine z_callV C (z_d dtX4_greatestWeight_0 12 rfl) (k_X4_weightOf  (by first | assumption | omega) (by first | assumption | omega) (by first | assumption | omega)) cal_X4_weightOf gw_19_11 rfl 2 4 rfl rfl rfl rfl hR ⟨rfl, rfl, rfl, rfl⟩ rfl (fun r_19 w_19 h_19 => ?_)
        obtain ⟨rfl, rfl⟩ := h_19
        refine z_mmaxP C (z_d dtX4_greatestWeight_0 13 rfl) gw_22_21 gw_9_23 gw_9_20 gw_10_0 rfl (by rw [hR]; exact Nat.le_of_ble_eq_true rfl) (by rw [hR]; exact Nat.le_of_ble_eq_true rfl) (by rw [hR]; exact Nat.le_refl _) (by rw [hR]; exact Nat.le_refl _) (by omega) (fun m_22 h_22 => ?_)
        refine z_istore4 C (z_d dtX4_greatestWeight_0 14 rfl) rfl ?_
        refine z_iinc5 C (z_d dtX4_greatestWeight_0 15 rfl) rfl ?_
        refine z_goto (tgt := 6) C (z_d dtX4_greatestWeight_0 16 rfl) (by decide) ?_
        exact ih_6 (i + 1) _ _ (by omega) (by rw [zGw]; split <;> omega) (by omega)
  exact lp_6 _ 0 _ _ (by omega) rfl (Nat.lt_succ_self _)

set_option maxRecDepth 100000 in
set_option maxHeartbeats 4000000 in
theorem k_X4_addRow {l : Launch} {D : va_G} {t : Nat → ClassId} {ad : Nat → Nat} {σ : zMem} {z row c : Int} (hz : 0 ≤ z ∧ z < 4) (hit : zIt σ) (hrow : 0 ≤ row ∧ row < 30) (hc : 0 ≤ c ∧ c < 72) (hmp : zMp σ) : z_Ci l D t yX4_addRow cX4_addRow 8 .int 1 23 0 0 [.ref (ad 2), .ref (ad (22 + z.toNat)), .int (zI row), .int (zI c)] (wX ad t σ) (fun r w => w = wX ad t (zS σ 8 (zSv σ z row c 8)) ∧ r = zSn σ z row 8) := by
  refine z_Ci_of (by decide +kernel) [some (.ref (ad 2)), some (.ref (ad (22 + z.toNat))), some (.int (zI row)), some (.int (zI c)), none, none, none, none] rfl rfl (Nat.le_of_ble_eq_true rfl) fun K hl hD ht hR hn C ret => ?_
  subst hl; subst hD; subst ht
  refine z_iconst C (z_d dtX4_addRow_0 0 rfl) ?_
  refine z_istore4 C (z_d dtX4_addRow_0 1 rfl) rfl ?_
  refine z_iconst C (z_d dtX4_addRow_0 2 rfl) ?_
  refine z_istore5 C (z_d dtX4_addRow_0 3 rfl) rfl ?_
  have lp_6 : ∀ (N_6 : Nat) (i : Nat) (k s : Int) (μ : zMem), (k = i ∧ i ≤ 8) → (s = zSn σ z row i) → (μ = zS σ 8 (zSv σ z row c i)) → 8 - i < N_6 → Gd K 0 0 6 [some (.ref (ad 2)), some (.ref (ad (22 + z.toNat))), some (.int (zI row)), some (.int (zI c)), some (.int (zI s)), some (.int (zI k)), none, none] [] (wX ad (z_t K) μ) := by
    intro N_6
    induction N_6 with
    | zero => intro i k s μ hi hs hm hm_6; exact absurd hm_6 (Nat.not_lt_zero _)
    | succ N_6 ih_6 =>
      intro i k s μ hi hs hm hm_6
      obtain ⟨rfl, hi⟩ := hi
      have e8 : μ 8 = zSv σ z row c i := by rw [hm]; rfl
      have e20 : μ 20 = σ 20 := by rw [hm]; rfl
      have hit2 : zIt μ := by unfold zIt; rw [e20]; exact hit
      have hb := zSv_b hmp z row c i
      have hv9 := zH0_b (zHv σ z row i)
      refine z_iload C (z_d dtX4_addRow_0 4 rfl) rfl ?_
      refine z_bipush C (z_d dtX4_addRow_0 5 rfl) zb_8 ?_
      refine z_icmp_ge (tgt := 70) C (z_d dtX4_addRow_0 6 rfl) (by decide) (by omega) (fun h_10 => ?_) (fun h_10 => ?_)
      · refine z_iload C (z_d dtX4_addRow_0 35 rfl) rfl ?_
        exact ret _ _ _ _ (z_d dtX4_addRow_0 36 rfl) (⟨by rw [hm, show i = 8 by omega], by rw [hs, show i = 8 by omega]⟩) rfl
      · refine z_aload_n C (z_d dtX4_addRow_0 7 rfl) rfl ?_
        refine z_iload_n C (z_d dtX4_addRow_0 8 rfl) rfl ?_
        refine z_iload C (z_d dtX4_addRow_0 9 rfl) rfl ?_
        refine z_callV C (z_d dtX4_addRow_0 10 rfl) (k_X5_heardOf  (by first | assumption | omega) hit2 (by first | assumption | omega) (by first | assumption | omega)) cal_X5_heardOf gw_16_5 rfl (22 + _) 5 (wX_sh (by omega)) rfl rfl rfl hR ⟨rfl, rfl, rfl, rfl⟩ rfl (fun r_17 w_17 h_17 => ?_)
        obtain ⟨rfl, hr17⟩ := h_17
        rw [show zHv μ z row i = zHv σ z row i by unfold zHv; rw [e20]] at hr17
        subst hr17
        refine z_istore6 C (z_d dtX4_addRow_0 11 rfl) rfl ?_
        refine z_iload C (z_d dtX4_addRow_0 12 rfl) rfl ?_
        refine z_bipush C (z_d dtX4_addRow_0 13 rfl) zb_m2 ?_
        refine z_icmp_eq (tgt := 64) C (z_d dtX4_addRow_0 14 rfl) (by decide) (by omega) (fun h_26 => ?_) (fun h_26 => ?_)
        · refine z_iinc5 C (z_d dtX4_addRow_0 33 rfl) rfl ?_
          refine z_goto (tgt := 6) C (z_d dtX4_addRow_0 34 rfl) (by decide) ?_
          refine z_drop6 ?_
          exact ih_6 (i + 1) _ _ _ (by omega) (by rw [zSn]; (first | rw [if_pos (by omega)] | rw [if_neg (by omega)]); omega) (by
                rw [zSv]
                first
                  | rw [if_pos (by omega)]; exact hm
                  | (rw [if_neg (by omega), e8, show m_60 = (if zSv σ z row c i (zAt i c (zH0 (zHv σ z row i))) < 255 then zSv σ z row c i (zAt i c (zH0 (zHv σ z row i))) + 1 else 255) by have := hb (zAt i c (zH0 (zHv σ z row i))); split <;> omega]; rw [hm]; funext j; unfold zS; cases hj : Nat.beq j 8 <;> rfl)) (by omega)
        · refine z_iinc4 C (z_d dtX4_addRow_0 15 rfl) rfl ?_
          refine z_iload C (z_d dtX4_addRow_0 16 rfl) rfl ?_
          refine z_iload_n C (z_d dtX4_addRow_0 17 rfl) rfl ?_
          refine z_iload C (z_d dtX4_addRow_0 18 rfl) rfl ?_
          refine z_callS C (z_d dtX4_addRow_0 19 rfl) (k_X4_slotOf  ) cal_X4_slotOf gw_16_9 rfl rfl hR ⟨rfl, rfl, rfl, rfl⟩ rfl (fun r_37 w_37 h_37 => ?_)
          obtain ⟨rfl, rfl⟩ := h_37
          have ha := zAt_b (k := (i : Int)) (c := c) (v := zH0 (zHv σ z row i)) (by omega) hc (by omega)
          have hb3 := hb (zAt i c (zH0 (zHv σ z row i)))
          refine z_istore7 C (z_d dtX4_addRow_0 20 rfl) rfl ?_
          refine z_aload_n C (z_d dtX4_addRow_0 21 rfl) rfl ?_
          refine gf_X4_15 C (z_d dtX4_addRow_0 22 rfl) ?_
          refine z_iload C (z_d dtX4_addRow_0 23 rfl) rfl ?_
          refine z_sipush C (z_d dtX4_addRow_0 24 rfl) zs_255 ?_
          refine z_aload_n C (z_d dtX4_addRow_0 25 rfl) rfl ?_
          refine gf_X4_15 C (z_d dtX4_addRow_0 26 rfl) ?_
          refine z_iload C (z_d dtX4_addRow_0 27 rfl) rfl ?_
          refine al_X14 C (z_d dtX4_addRow_0 28 rfl) (by omega) ?_
          try simp (decide := true) only [zS_s, zS_o, zC, e8]
          refine z_iconst C (z_d dtX4_addRow_0 29 rfl) ?_
          refine z_iadd C (z_d dtX4_addRow_0 30 rfl) ?_
          refine z_mminP C (z_d dtX4_addRow_0 31 rfl) gw_16_4 gw_9_19 gw_9_20 gw_9_21 rfl (by rw [hR]; exact Nat.le_of_ble_eq_true rfl) (by rw [hR]; exact Nat.le_of_ble_eq_true rfl) (by rw [hR]; exact Nat.le_refl _) (by rw [hR]; exact Nat.le_refl _) (by omega) (fun m_60 h_60 => ?_)
          refine as_X14 C (z_d dtX4_addRow_0 32 rfl) (by omega) ?_
          refine z_iinc5 C (z_d dtX4_addRow_0 33 rfl) rfl ?_
          refine z_goto (tgt := 6) C (z_d dtX4_addRow_0 34 rfl) (by decide) ?_
          refine z_drop6 ?_
          refine z_drop7 ?_
          exact ih_6 (i + 1) _ _ _ (by omega) (by rw [zSn]; (first | rw [if_pos (by omega)] | rw [if_neg (by omega)]); omega) (by
                rw [zSv]
                first
                  | rw [if_pos (by omega)]; exact hm
                  | (rw [if_neg (by omega), e8, show m_60 = (if zSv σ z row c i (zAt i c (zH0 (zHv σ z row i))) < 255 then zSv σ z row c i (zAt i c (zH0 (zHv σ z row i))) + 1 else 255) by have := hb (zAt i c (zH0 (zHv σ z row i))); split <;> omega]; rw [hm]; funext j; unfold zS; cases hj : Nat.beq j 8 <;> rfl)) (by omega)
  exact lp_6 _ 0 _ _ _ (by omega) rfl (by funext j; unfold zS; cases hj : Nat.beq j 8 with
      | true => rw [Nat.eq_of_beq_eq_true hj]; rfl
      | false => rfl) (Nat.lt_succ_self _)

set_option maxRecDepth 100000 in
set_option maxHeartbeats 4000000 in
theorem k_X4_rowWeight {l : Launch} {D : va_G} {t : Nat → ClassId} {ad : Nat → Nat} {σ : zMem} {z row c o wo : Int} (hz : 0 ≤ z ∧ z < 4) (hit : zIt σ) (hrow : 0 ≤ row ∧ row < 30) (hc : 0 ≤ c ∧ c < 72) (hmp : zMp σ) (hdd : σ 30 0 = zDb (σ 7)) (h7 : zBo σ 7) (ho : -4 ≤ o ∧ o ≤ 4) (hwo : -1 ≤ wo ∧ wo < 8) : z_Ci l D t yX4_rowWeight cX4_rowWeight 9 .int 2 47 0 0 [.ref (ad 2), .ref (ad (22 + z.toNat)), .int (zI row), .int (zI c), .int (zI o), .int (zI wo)] (wX ad t σ) (fun r w => w = wX ad t σ ∧ r = zRw σ z row c o wo 8) := by
  refine z_Ci_of (by decide +kernel) [some (.ref (ad 2)), some (.ref (ad (22 + z.toNat))), some (.int (zI row)), some (.int (zI c)), some (.int (zI o)), some (.int (zI wo)), none, none, none] rfl rfl (Nat.le_of_ble_eq_true rfl) fun K hl hD ht hR hn C ret => ?_
  subst hl; subst hD; subst ht
  refine z_iconst C (z_d dtX4_rowWeight_0 0 rfl) ?_
  refine z_istore6 C (z_d dtX4_rowWeight_0 1 rfl) rfl ?_
  refine z_iconst C (z_d dtX4_rowWeight_0 2 rfl) ?_
  refine z_istore7 C (z_d dtX4_rowWeight_0 3 rfl) rfl ?_
  have lp_6 : ∀ (N_6 : Nat) (i : Nat) (k s : Int), (k = i ∧ i ≤ 8) → (s = zRw σ z row c o wo i) → 8 - i < N_6 → Gd K 0 0 6 [some (.ref (ad 2)), some (.ref (ad (22 + z.toNat))), some (.int (zI row)), some (.int (zI c)), some (.int (zI o)), some (.int (zI wo)), some (.int (zI s)), some (.int (zI k)), none] [] (wX ad (z_t K) σ) := by
    intro N_6
    induction N_6 with
    | zero => intro i k s hi hs hm_6; exact absurd hm_6 (Nat.not_lt_zero _)
    | succ N_6 ih_6 =>
      intro i k s hi hs hm_6
      obtain ⟨rfl, hi⟩ := hi
      have hv9 := zHo_b (zHv σ z row i) o
      have h7i := h7 i
      refine z_iload C (z_d dtX4_rowWeight_0 4 rfl) rfl ?_
      refine z_bipush C (z_d dtX4_rowWeight_0 5 rfl) zb_8 ?_
      refine z_icmp_ge (tgt := 67) C (z_d dtX4_rowWeight_0 6 rfl) (by decide) (by omega) (fun h_10 => ?_) (fun h_10 => ?_)
      · refine z_iload C (z_d dtX4_rowWeight_0 33 rfl) rfl ?_
        exact ret _ _ _ _ (z_d dtX4_rowWeight_0 34 rfl) (⟨rfl, by rw [hs, show i = 8 by omega]⟩) rfl
      · refine z_aload_n C (z_d dtX4_rowWeight_0 7 rfl) rfl ?_
        refine z_iload_n C (z_d dtX4_rowWeight_0 8 rfl) rfl ?_
        refine z_iload C (z_d dtX4_rowWeight_0 9 rfl) rfl ?_
        refine z_iload C (z_d dtX4_rowWeight_0 10 rfl) rfl ?_
        refine z_callV C (z_d dtX4_rowWeight_0 11 rfl) (k_X5_heardBy  (by first | assumption | omega) (by first | assumption | omega) (by first | assumption | omega) (by first | assumption | omega) (by first | assumption | omega)) cal_X5_heardBy gw_19_0 rfl (22 + _) 5 (wX_sh (by omega)) rfl rfl rfl hR ⟨rfl, rfl, rfl, rfl⟩ rfl (fun r_19 w_19 h_19 => ?_)
        obtain ⟨rfl, rfl⟩ := h_19
        refine z_istore8 C (z_d dtX4_rowWeight_0 12 rfl) rfl ?_
        refine z_iload C (z_d dtX4_rowWeight_0 13 rfl) rfl ?_
        refine z_bipush C (z_d dtX4_rowWeight_0 14 rfl) zb_m2 ?_
        refine z_icmp_eq (tgt := 61) C (z_d dtX4_rowWeight_0 15 rfl) (by decide) (by omega) (fun h_28 => ?_) (fun h_28 => ?_)
        · refine z_iinc7 C (z_d dtX4_rowWeight_0 31 rfl) rfl ?_
          refine z_goto (tgt := 6) C (z_d dtX4_rowWeight_0 32 rfl) (by decide) ?_
          refine z_drop8 ?_
          exact ih_6 (i + 1) _ _ (by omega) (by rw [zRw, hs]; (first | rw [if_pos (by omega)] | rw [if_neg (by omega)]) <;> first | rfl | omega) (by omega)
        · refine z_iload C (z_d dtX4_rowWeight_0 16 rfl) rfl ?_
          refine z_iload C (z_d dtX4_rowWeight_0 17 rfl) rfl ?_
          refine z_icmp_eq (tgt := 61) C (z_d dtX4_rowWeight_0 18 rfl) (by decide) (by omega) (fun h_35 => ?_) (fun h_35 => ?_)
          · refine z_iinc7 C (z_d dtX4_rowWeight_0 31 rfl) rfl ?_
            refine z_goto (tgt := 6) C (z_d dtX4_rowWeight_0 32 rfl) (by decide) ?_
            refine z_drop8 ?_
            exact ih_6 (i + 1) _ _ (by omega) (by rw [zRw, hs]; (first | rw [if_pos (by omega)] | rw [if_neg (by omega)]) <;> first | rfl | omega) (by omega)
          · refine z_aload_n C (z_d dtX4_rowWeight_0 19 rfl) rfl ?_
            refine z_iload C (z_d dtX4_rowWeight_0 20 rfl) rfl ?_
            refine z_callV C (z_d dtX4_rowWeight_0 21 rfl) (k_X4_isDead  (by first | assumption | omega) (by first | assumption | omega) (by first | assumption | omega)) cal_X4_isDead gw_19_7 rfl 2 4 rfl rfl rfl rfl hR ⟨rfl, rfl, rfl, rfl⟩ rfl (fun r_41 w_41 h_41 => ?_)
            obtain ⟨rfl, h_41⟩ := h_41
            refine z_if_ne (tgt := 61) C (z_d dtX4_rowWeight_0 22 rfl) (by decide) (by omega) (fun h_44 => ?_) (fun h_44 => ?_)
            · refine z_iinc7 C (z_d dtX4_rowWeight_0 31 rfl) rfl ?_
              refine z_goto (tgt := 6) C (z_d dtX4_rowWeight_0 32 rfl) (by decide) ?_
              refine z_drop8 ?_
              exact ih_6 (i + 1) _ _ (by omega) (by rw [zRw, hs]; (first | rw [if_pos (by omega)] | rw [if_neg (by omega)]) <;> first | rfl | omega) (by omega)
            · refine z_iload C (z_d dtX4_rowWeight_0 23 rfl) rfl ?_
              refine z_aload_n C (z_d dtX4_rowWeight_0 24 rfl) rfl ?_
              refine z_iload C (z_d dtX4_rowWeight_0 25 rfl) rfl ?_
              refine z_iload_n C (z_d dtX4_rowWeight_0 26 rfl) rfl ?_
              refine z_iload C (z_d dtX4_rowWeight_0 27 rfl) rfl ?_
              refine z_callV C (z_d dtX4_rowWeight_0 28 rfl) (k_X4_weightOf  (by first | assumption | omega) (by first | assumption | omega) (by first | assumption | omega)) cal_X4_weightOf gw_19_11 rfl 2 4 rfl rfl rfl rfl hR ⟨rfl, rfl, rfl, rfl⟩ rfl (fun r_55 w_55 h_55 => ?_)
              obtain ⟨rfl, rfl⟩ := h_55
              refine z_iadd C (z_d dtX4_rowWeight_0 29 rfl) ?_
              refine z_istore6 C (z_d dtX4_rowWeight_0 30 rfl) rfl ?_
              refine z_iinc7 C (z_d dtX4_rowWeight_0 31 rfl) rfl ?_
              refine z_goto (tgt := 6) C (z_d dtX4_rowWeight_0 32 rfl) (by decide) ?_
              refine z_drop8 ?_
              exact ih_6 (i + 1) _ _ (by omega) (by rw [zRw, hs]; (first | rw [if_pos (by omega)] | rw [if_neg (by omega)]) <;> first | rfl | omega) (by omega)
  exact lp_6 _ 0 _ _ (by omega) rfl (Nat.lt_succ_self _)

set_option maxRecDepth 100000 in
set_option maxHeartbeats 4000000 in
theorem k_X4_bestOffset {l : Launch} {D : va_G} {t : Nat → ClassId} {ad : Nat → Nat} {σ : zMem} {z row c : Int} (hz : 0 ≤ z ∧ z < 4) (hit : zIt σ) (hrow : 0 ≤ row ∧ row < 30) (hc : 0 ≤ c ∧ c < 72) (hmp : zMp σ) (hdd : σ 30 0 = zDb (σ 7)) (h7 : zBo σ 7) : z_Ci l D t yX4_bestOffset cX4_bestOffset 9 .int 3 75 0 0 [.ref (ad 2), .ref (ad (22 + z.toNat)), .int (zI row), .int (zI c)] (wX ad t σ) (fun r w => w = wX ad t σ ∧ r = (zOf σ z row c 4).1) := by
  refine z_Ci_of (by decide +kernel) [some (.ref (ad 2)), some (.ref (ad (22 + z.toNat))), some (.int (zI row)), some (.int (zI c)), none, none, none, none, none] rfl rfl (Nat.le_of_ble_eq_true rfl) fun K hl hD ht hR hn C ret => ?_
  subst hl; subst hD; subst ht
  refine z_iconst C (z_d dtX4_bestOffset_0 0 rfl) ?_
  refine z_istore4 C (z_d dtX4_bestOffset_0 1 rfl) rfl ?_
  refine z_aload_n C (z_d dtX4_bestOffset_0 2 rfl) rfl ?_
  refine z_aload_n C (z_d dtX4_bestOffset_0 3 rfl) rfl ?_
  refine z_iload_n C (z_d dtX4_bestOffset_0 4 rfl) rfl ?_
  refine z_iload_n C (z_d dtX4_bestOffset_0 5 rfl) rfl ?_
  refine z_iconst C (z_d dtX4_bestOffset_0 6 rfl) ?_
  refine z_iconst C (z_d dtX4_bestOffset_0 7 rfl) ?_
  refine z_callV C (z_d dtX4_bestOffset_0 8 rfl) (k_X4_rowWeight  (by first | assumption | omega) (by first | assumption | omega) (by first | assumption | omega) (by first | assumption | omega) (by first | assumption | omega) (by first | assumption | omega) (by first | assumption | omega) (by first | assumption | omega) (by first | assumption | omega)) cal_X4_rowWeight gw_18_20 rfl 2 4 rfl rfl rfl rfl hR ⟨rfl, rfl, rfl, rfl⟩ rfl (fun r_9 w_9 h_9 => ?_)
  obtain ⟨rfl, rfl⟩ := h_9
  refine z_istore5 C (z_d dtX4_bestOffset_0 9 rfl) rfl ?_
  refine z_iconst C (z_d dtX4_bestOffset_0 10 rfl) ?_
  refine z_istore6 C (z_d dtX4_bestOffset_0 11 rfl) rfl ?_
  have lp_17 : ∀ (N_17 : Nat) (i : Nat) (a b m : Int), (a = i + 1 ∧ i ≤ 4) → ((b, m) = zOf σ z row c i) → (0 ≤ m ∧ m ≤ 2048) → 4 - i < N_17 → Gd K 0 0 17 [some (.ref (ad 2)), some (.ref (ad (22 + z.toNat))), some (.int (zI row)), some (.int (zI c)), some (.int (zI b)), some (.int (zI m)), some (.int (zI a)), none, none] [] (wX ad (z_t K) σ) := by
    intro N_17
    induction N_17 with
    | zero => intro i a b m hi hs hm hm_17; exact absurd hm_17 (Nat.not_lt_zero _)
    | succ N_17 ih_17 =>
      intro i a b m hi hs hm hm_17
      obtain ⟨rfl, hi⟩ := hi
      have hw1 := zRw_b hmp z row c (-((i : Int) + 1)) (-1) 8
      have hw2 := zRw_b hmp z row c ((i : Int) + 1) (-1) 8
      refine z_iload C (z_d dtX4_bestOffset_0 12 rfl) rfl ?_
      refine z_iconst C (z_d dtX4_bestOffset_0 13 rfl) ?_
      refine z_icmp_gt (tgt := 85) C (z_d dtX4_bestOffset_0 14 rfl) (by decide) (by omega) (fun h_20 => ?_) (fun h_20 => ?_)
      · refine z_iload C (z_d dtX4_bestOffset_1 9 rfl) rfl ?_
        exact ret _ _ _ _ (z_d dtX4_bestOffset_1 10 rfl) (⟨rfl, by rw [show (4 : Nat) = i by omega, ← hs]⟩) rfl
      · refine z_aload_n C (z_d dtX4_bestOffset_0 15 rfl) rfl ?_
        refine z_aload_n C (z_d dtX4_bestOffset_0 16 rfl) rfl ?_
        refine z_iload_n C (z_d dtX4_bestOffset_0 17 rfl) rfl ?_
        refine z_iload_n C (z_d dtX4_bestOffset_0 18 rfl) rfl ?_
        refine z_iload C (z_d dtX4_bestOffset_0 19 rfl) rfl ?_
        refine z_ineg C (z_d dtX4_bestOffset_0 20 rfl) ?_
        refine z_iconst C (z_d dtX4_bestOffset_0 21 rfl) ?_
        refine z_callV C (z_d dtX4_bestOffset_0 22 rfl) (k_X4_rowWeight  (by first | assumption | omega) (by first | assumption | omega) (by first | assumption | omega) (by first | assumption | omega) (by first | assumption | omega) (by first | assumption | omega) (by first | assumption | omega) (by first | assumption | omega) (by first | assumption | omega)) cal_X4_rowWeight gw_18_20 rfl 2 4 rfl rfl rfl rfl hR ⟨rfl, rfl, rfl, rfl⟩ rfl (fun r_31 w_31 h_31 => ?_)
        obtain ⟨rfl, rfl⟩ := h_31
        refine z_istore7 C (z_d dtX4_bestOffset_0 23 rfl) rfl ?_
        refine z_iload C (z_d dtX4_bestOffset_0 24 rfl) rfl ?_
        refine z_iload C (z_d dtX4_bestOffset_0 25 rfl) rfl ?_
        refine z_icmp_le (tgt := 52) C (z_d dtX4_bestOffset_0 26 rfl) (by decide) (by omega) (fun h_40 => ?_) (fun h_40 => ?_)
        · refine z_aload_n C (z_d dtX4_bestOffset_0 32 rfl) rfl ?_
          refine z_aload_n C (z_d dtX4_bestOffset_0 33 rfl) rfl ?_
          refine z_iload_n C (z_d dtX4_bestOffset_0 34 rfl) rfl ?_
          refine z_iload_n C (z_d dtX4_bestOffset_0 35 rfl) rfl ?_
          refine z_iload C (z_d dtX4_bestOffset_0 36 rfl) rfl ?_
          refine z_iconst C (z_d dtX4_bestOffset_0 37 rfl) ?_
          refine z_callV C (z_d dtX4_bestOffset_0 38 rfl) (k_X4_rowWeight  (by first | assumption | omega) (by first | assumption | omega) (by first | assumption | omega) (by first | assumption | omega) (by first | assumption | omega) (by first | assumption | omega) (by first | assumption | omega) (by first | assumption | omega) (by first | assumption | omega)) cal_X4_rowWeight gw_18_20 rfl 2 4 rfl rfl rfl rfl hR ⟨rfl, rfl, rfl, rfl⟩ rfl (fun r_59 w_59 h_59 => ?_)
          obtain ⟨rfl, rfl⟩ := h_59
          refine z_istore8 C (z_d dtX4_bestOffset_0 39 rfl) rfl ?_
          refine z_iload C (z_d dtX4_bestOffset_1 0 rfl) rfl ?_
          refine z_iload C (z_d dtX4_bestOffset_1 1 rfl) rfl ?_
          refine z_icmp_le (tgt := 79) C (z_d dtX4_bestOffset_1 2 rfl) (by decide) (by omega) (fun h_68 => ?_) (fun h_68 => ?_)
          · refine z_iinc6 C (z_d dtX4_bestOffset_1 7 rfl) rfl ?_
            refine z_goto (tgt := 17) C (z_d dtX4_bestOffset_1 8 rfl) (by decide) ?_
            refine z_drop7 ?_
            refine z_drop8 ?_
            exact ih_17 (i + 1) _ _ _ (by omega) (by first | exact zOf_11 hs (by omega) (by omega) | exact zOf_10 hs (by omega) (by omega) | exact zOf_01 hs (by omega) (by omega) | exact zOf_00 hs (by omega) (by omega)) (by omega) (by omega)
          · refine z_iload C (z_d dtX4_bestOffset_1 3 rfl) rfl ?_
            refine z_istore5 C (z_d dtX4_bestOffset_1 4 rfl) rfl ?_
            refine z_iload C (z_d dtX4_bestOffset_1 5 rfl) rfl ?_
            refine z_istore4 C (z_d dtX4_bestOffset_1 6 rfl) rfl ?_
            refine z_iinc6 C (z_d dtX4_bestOffset_1 7 rfl) rfl ?_
            refine z_goto (tgt := 17) C (z_d dtX4_bestOffset_1 8 rfl) (by decide) ?_
            refine z_drop7 ?_
            refine z_drop8 ?_
            exact ih_17 (i + 1) _ _ _ (by omega) (by first | exact zOf_11 hs (by omega) (by omega) | exact zOf_10 hs (by omega) (by omega) | exact zOf_01 hs (by omega) (by omega) | exact zOf_00 hs (by omega) (by omega)) (by omega) (by omega)
        · refine z_iload C (z_d dtX4_bestOffset_0 27 rfl) rfl ?_
          refine z_istore5 C (z_d dtX4_bestOffset_0 28 rfl) rfl ?_
          refine z_iload C (z_d dtX4_bestOffset_0 29 rfl) rfl ?_
          refine z_ineg C (z_d dtX4_bestOffset_0 30 rfl) ?_
          refine z_istore4 C (z_d dtX4_bestOffset_0 31 rfl) rfl ?_
          refine z_aload_n C (z_d dtX4_bestOffset_0 32 rfl) rfl ?_
          refine z_aload_n C (z_d dtX4_bestOffset_0 33 rfl) rfl ?_
          refine z_iload_n C (z_d dtX4_bestOffset_0 34 rfl) rfl ?_
          refine z_iload_n C (z_d dtX4_bestOffset_0 35 rfl) rfl ?_
          refine z_iload C (z_d dtX4_bestOffset_0 36 rfl) rfl ?_
          refine z_iconst C (z_d dtX4_bestOffset_0 37 rfl) ?_
          refine z_callV C (z_d dtX4_bestOffset_0 38 rfl) (k_X4_rowWeight  (by first | assumption | omega) (by first | assumption | omega) (by first | assumption | omega) (by first | assumption | omega) (by first | assumption | omega) (by first | assumption | omega) (by first | assumption | omega) (by first | assumption | omega) (by first | assumption | omega)) cal_X4_rowWeight gw_18_20 rfl 2 4 rfl rfl rfl rfl hR ⟨rfl, rfl, rfl, rfl⟩ rfl (fun r_59 w_59 h_59 => ?_)
          obtain ⟨rfl, rfl⟩ := h_59
          refine z_istore8 C (z_d dtX4_bestOffset_0 39 rfl) rfl ?_
          refine z_iload C (z_d dtX4_bestOffset_1 0 rfl) rfl ?_
          refine z_iload C (z_d dtX4_bestOffset_1 1 rfl) rfl ?_
          refine z_icmp_le (tgt := 79) C (z_d dtX4_bestOffset_1 2 rfl) (by decide) (by omega) (fun h_68 => ?_) (fun h_68 => ?_)
          · refine z_iinc6 C (z_d dtX4_bestOffset_1 7 rfl) rfl ?_
            refine z_goto (tgt := 17) C (z_d dtX4_bestOffset_1 8 rfl) (by decide) ?_
            refine z_drop7 ?_
            refine z_drop8 ?_
            exact ih_17 (i + 1) _ _ _ (by omega) (by first | exact zOf_11 hs (by omega) (by omega) | exact zOf_10 hs (by omega) (by omega) | exact zOf_01 hs (by omega) (by omega) | exact zOf_00 hs (by omega) (by omega)) (by omega) (by omega)
          · refine z_iload C (z_d dtX4_bestOffset_1 3 rfl) rfl ?_
            refine z_istore5 C (z_d dtX4_bestOffset_1 4 rfl) rfl ?_
            refine z_iload C (z_d dtX4_bestOffset_1 5 rfl) rfl ?_
            refine z_istore4 C (z_d dtX4_bestOffset_1 6 rfl) rfl ?_
            refine z_iinc6 C (z_d dtX4_bestOffset_1 7 rfl) rfl ?_
            refine z_goto (tgt := 17) C (z_d dtX4_bestOffset_1 8 rfl) (by decide) ?_
            refine z_drop7 ?_
            refine z_drop8 ?_
            exact ih_17 (i + 1) _ _ _ (by omega) (by first | exact zOf_11 hs (by omega) (by omega) | exact zOf_10 hs (by omega) (by omega) | exact zOf_01 hs (by omega) (by omega) | exact zOf_00 hs (by omega) (by omega)) (by omega) (by omega)
  exact lp_17 _ 0 _ _ _ (by omega) rfl (by have := zRw_b hmp z row c 0 (-1) 8; omega) (Nat.lt_succ_self _)
