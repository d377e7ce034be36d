/-! THE REFERENCE: hearing, areas, walkers, sheets -/
theorem zS_eq {σ : zMem} {k : Nat} {F : Int → Int} (h : ∀ i, F i = σ k i) : zS σ k F = σ := by
  funext k'
  by_cases e : k' = k
  · subst e; rw [zS_s]; funext i; exact h i
  · rw [zS_n e]
def zFw (σ : zMem) (f x0 x1 y0 y1 : Int) : Int → Int := fun c => if zIn σ c f x0 x1 y0 y1 then σ 9 c else 0
def zPr (σ : zMem) (k f x0 x1 y0 y1 : Int) : Nat → Int
  | 0 => 0
  | n + 1 => zPr σ k f x0 x1 y0 y1 n + if (zIn σ n f x0 x1 y0 y1 ↔ zIn σ n (σ 13 (5 * k)) (σ 13 (5 * k + 1)) (σ 13 (5 * k + 2)) (σ 13 (5 * k + 3)) (σ 13 (5 * k + 4))) then 0 else 1
theorem zPr_b (σ : zMem) (k f x0 x1 y0 y1 : Int) : ∀ n : Nat, 0 ≤ zPr σ k f x0 x1 y0 y1 n ∧ zPr σ k f x0 x1 y0 y1 n ≤ n
  | 0 => by simp [zPr]
  | n + 1 => by
    have a := zPr_b σ k f x0 x1 y0 y1 n
    rw [zPr]
    split <;> (constructor <;> (try push_cast) <;> omega)
theorem zIp_m {σ : zMem} (h : ∀ i, 0 ≤ σ 18 i ∧ σ 18 i ≤ 240) (z f i : Int) : (0 ≤ zIp σ z f i ∧ zIp σ z f i ≤ 3) ∧ (zIp σ z f i = 0 → (0 ≤ i ∧ i < 240) ∧ σ 17 z = f) := by
  have a := h z
  unfold zIp
  split
  · omega
  · split
    · omega
    · split <;> omega

set_option maxRecDepth 100000 in
set_option maxHeartbeats 4000000 in
theorem k_X8_isArea {l : Launch} {D : va_G} {t : Nat → ClassId} {ad : Nat → Nat} {σ : zMem} {f x0 x1 y0 y1 : Int} (hw : zHw σ) (hf : -2147483648 ≤ f ∧ f < 2147483648) (hx0 : -2147483648 ≤ x0 ∧ x0 < 2147483648) (hx1 : -2147483648 ≤ x1 ∧ x1 < 2147483648) (hy0 : -2147483648 ≤ y0 ∧ y0 < 2147483648) (hy1 : -2147483648 ≤ y1 ∧ y1 < 2147483648) : z_Ci l D t yX8_isArea cX8_isArea 6 .boolean 1 22 0 0 [.ref (ad 0), .int (zI f), .int (zI x0), .int (zI x1), .int (zI y0), .int (zI y1)] (wM ad t σ) (fun r w => w = wM ad t σ ∧ ((r = 1 ∧ (zIsA σ f x0 x1 y0 y1)) ∨ (r = 0 ∧ ¬ (zIsA σ f x0 x1 y0 y1)))) := by
  refine z_Ci_of (by decide +kernel) [some (.ref (ad 0)), some (.int (zI f)), some (.int (zI x0)), some (.int (zI x1)), some (.int (zI y0)), some (.int (zI y1))] rfl rfl (Nat.le_of_ble_eq_true rfl) fun K hl hD ht hR hnm C ret => ?_
  subst hl; subst hD; subst ht
  have hW := hw; unfold zHw at hW
  refine z_iload_n C (z_d dtX8_isArea_0 0 rfl) rfl ?_
  refine z_iconst C (z_d dtX8_isArea_0 1 rfl) ?_
  refine z_aload_n C (z_d dtX8_isArea_0 2 rfl) rfl ?_
  refine gf_X8_90 C (z_d dtX8_isArea_0 3 rfl) ?_
  refine z_iconst C (z_d dtX8_isArea_0 4 rfl) ?_
  refine z_isub C (z_d dtX8_isArea_0 5 rfl) ?_
  refine z_callS C (z_d dtX8_isArea_0 6 rfl) (k_X8_in  (by first | assumption | omega) (by first | assumption | omega) (by first | assumption | omega)) cal_X8_in gw_8_19 rfl rfl hR ⟨rfl, rfl, rfl, rfl⟩ rfl (fun r_8 w_8 h_8 => ?_)
  obtain ⟨rfl, h_8⟩ := h_8
  refine z_if_eq (tgt := 55) C (z_d dtX8_isArea_0 7 rfl) (by decide) (by omega) (fun h_11 => ?_) (fun h_11 => ?_)
  · refine z_iconst C (z_d dtX8_isArea_0 28 rfl) ?_
    exact ret _ _ _ _ (z_d dtX8_isArea_0 29 rfl) (⟨rfl, by unfold zIsA; omega⟩) (z_nb (by omega))
  · refine z_iload_n C (z_d dtX8_isArea_0 8 rfl) rfl ?_
    refine z_iconst C (z_d dtX8_isArea_0 9 rfl) ?_
    refine z_iload_n C (z_d dtX8_isArea_0 10 rfl) rfl ?_
    refine z_callS C (z_d dtX8_isArea_0 11 rfl) (k_X8_in  (by first | assumption | omega) (by first | assumption | omega) (by first | assumption | omega)) cal_X8_in gw_8_19 rfl rfl hR ⟨rfl, rfl, rfl, rfl⟩ rfl (fun r_17 w_17 h_17 => ?_)
    obtain ⟨rfl, h_17⟩ := h_17
    refine z_if_eq (tgt := 55) C (z_d dtX8_isArea_0 12 rfl) (by decide) (by omega) (fun h_20 => ?_) (fun h_20 => ?_)
    · refine z_iconst C (z_d dtX8_isArea_0 28 rfl) ?_
      exact ret _ _ _ _ (z_d dtX8_isArea_0 29 rfl) (⟨rfl, by unfold zIsA; omega⟩) (z_nb (by omega))
    · refine z_iload_n C (z_d dtX8_isArea_0 13 rfl) rfl ?_
      refine z_aload_n C (z_d dtX8_isArea_0 14 rfl) rfl ?_
      refine gf_X8_93 C (z_d dtX8_isArea_0 15 rfl) ?_
      refine z_icmp_ge (tgt := 55) C (z_d dtX8_isArea_0 16 rfl) (by decide) (by omega) (fun h_28 => ?_) (fun h_28 => ?_)
      · refine z_iconst C (z_d dtX8_isArea_0 28 rfl) ?_
        exact ret _ _ _ _ (z_d dtX8_isArea_0 29 rfl) (⟨rfl, by unfold zIsA; omega⟩) (z_nb (by omega))
      · refine z_iload C (z_d dtX8_isArea_0 17 rfl) rfl ?_
        refine z_iconst C (z_d dtX8_isArea_0 18 rfl) ?_
        refine z_iload C (z_d dtX8_isArea_0 19 rfl) rfl ?_
        refine z_callS C (z_d dtX8_isArea_0 20 rfl) (k_X8_in  (by first | assumption | omega) (by first | assumption | omega) (by first | assumption | omega)) cal_X8_in gw_8_19 rfl rfl hR ⟨rfl, rfl, rfl, rfl⟩ rfl (fun r_36 w_36 h_36 => ?_)
        obtain ⟨rfl, h_36⟩ := h_36
        refine z_if_eq (tgt := 55) C (z_d dtX8_isArea_0 21 rfl) (by decide) (by omega) (fun h_39 => ?_) (fun h_39 => ?_)
        · refine z_iconst C (z_d dtX8_isArea_0 28 rfl) ?_
          exact ret _ _ _ _ (z_d dtX8_isArea_0 29 rfl) (⟨rfl, by unfold zIsA; omega⟩) (z_nb (by omega))
        · refine z_iload C (z_d dtX8_isArea_0 22 rfl) rfl ?_
          refine z_aload_n C (z_d dtX8_isArea_0 23 rfl) rfl ?_
          refine gf_X8_96 C (z_d dtX8_isArea_0 24 rfl) ?_
          refine z_icmp_ge (tgt := 55) C (z_d dtX8_isArea_0 25 rfl) (by decide) (by omega) (fun h_48 => ?_) (fun h_48 => ?_)
          · refine z_iconst C (z_d dtX8_isArea_0 28 rfl) ?_
            exact ret _ _ _ _ (z_d dtX8_isArea_0 29 rfl) (⟨rfl, by unfold zIsA; omega⟩) (z_nb (by omega))
          · refine z_iconst C (z_d dtX8_isArea_0 26 rfl) ?_
            refine z_goto (tgt := 56) C (z_d dtX8_isArea_0 27 rfl) (by decide) ?_
            exact ret _ _ _ _ (z_d dtX8_isArea_0 29 rfl) (⟨rfl, by unfold zIsA; omega⟩) (z_nb (by omega))

set_option maxRecDepth 100000 in
set_option maxHeartbeats 4000000 in
theorem k_X8_isWithin {l : Launch} {D : va_G} {t : Nat → ClassId} {ad : Nat → Nat} {σ : zMem} {c f x0 x1 y0 y1 : Int} (hw : zHw σ) (hc : 0 ≤ c ∧ c < 2147483648) (hf : -2147483648 ≤ f ∧ f < 2147483648) (hx0 : -2147483648 ≤ x0 ∧ x0 < 2147483648) (hx1 : -2147483648 ≤ x1 ∧ x1 < 2147483648) (hy0 : -2147483648 ≤ y0 ∧ y0 < 2147483648) (hy1 : -2147483648 ≤ y1 ∧ y1 < 2147483648) : z_Ci l D t yX8_isWithin cX8_isWithin 7 .boolean 1 22 0 0 [.ref (ad 0), .int (zI c), .int (zI f), .int (zI x0), .int (zI x1), .int (zI y0), .int (zI y1)] (wM ad t σ) (fun r w => w = wM ad t σ ∧ ((r = 1 ∧ (zIn σ c f x0 x1 y0 y1)) ∨ (r = 0 ∧ ¬ (zIn σ c f x0 x1 y0 y1)))) := by
  refine z_Ci_of (by decide +kernel) [some (.ref (ad 0)), some (.int (zI c)), some (.int (zI f)), some (.int (zI x0)), some (.int (zI x1)), some (.int (zI y0)), some (.int (zI y1))] rfl rfl (Nat.le_of_ble_eq_true rfl) fun K hl hD ht hR hnm C ret => ?_
  subst hl; subst hD; subst ht
  have hW := hw; unfold zHw at hW
  have hwh := zHw_wh hw
  have m0 := Int.emod_nonneg c (show σ 1 0 ≠ 0 by omega)
  have m1 := Int.emod_lt_of_pos c (show 0 < σ 1 0 by omega)
  have m2 := Int.emod_nonneg (c / σ 1 0) (show σ 2 0 ≠ 0 by omega)
  have m3 := Int.emod_lt_of_pos (c / σ 1 0) (show 0 < σ 2 0 by omega)
  have m4 := Int.ediv_nonneg hc.1 (show 0 ≤ σ 1 0 * σ 2 0 by omega)
  have m5 : c / (σ 1 0 * σ 2 0) ≤ c := Int.ediv_le_self _ hc.1
  refine z_aload_n C (z_d dtX8_isWithin_0 0 rfl) rfl ?_
  refine z_iload_n C (z_d dtX8_isWithin_0 1 rfl) rfl ?_
  refine z_callV C (z_d dtX8_isWithin_0 2 rfl) (k_X8_floorOf  (by first | assumption | omega) (by first | assumption | omega)) cal_X8_floorOf gw_11_4 rfl 0 8 rfl rfl rfl rfl hR ⟨rfl, rfl, rfl, rfl⟩ rfl (fun r_2 w_2 h_2 => ?_)
  obtain ⟨rfl, rfl⟩ := h_2
  refine z_iload_n C (z_d dtX8_isWithin_0 3 rfl) rfl ?_
  refine z_icmp_ne (tgt := 42) C (z_d dtX8_isWithin_0 4 rfl) (by decide) (by omega) (fun h_6 => ?_) (fun h_6 => ?_)
  · refine z_iconst C (z_d dtX8_isWithin_0 21 rfl) ?_
    exact ret _ _ _ _ (z_d dtX8_isWithin_0 22 rfl) (⟨rfl, by omega⟩) (z_nb (by omega))
  · refine z_aload_n C (z_d dtX8_isWithin_0 5 rfl) rfl ?_
    refine z_iload_n C (z_d dtX8_isWithin_0 6 rfl) rfl ?_
    refine z_callV C (z_d dtX8_isWithin_0 7 rfl) (k_X8_xOf  (by first | assumption | omega) (by first | assumption | omega)) cal_X8_xOf gw_11_12 rfl 0 8 rfl rfl rfl rfl hR ⟨rfl, rfl, rfl, rfl⟩ rfl (fun r_11 w_11 h_11 => ?_)
    obtain ⟨rfl, rfl⟩ := h_11
    refine z_iload_n C (z_d dtX8_isWithin_0 8 rfl) rfl ?_
    refine z_iload C (z_d dtX8_isWithin_0 9 rfl) rfl ?_
    refine z_callS C (z_d dtX8_isWithin_0 10 rfl) (k_X8_in  (by first | assumption | omega) (by first | assumption | omega) (by first | assumption | omega)) cal_X8_in gw_8_19 rfl rfl hR ⟨rfl, rfl, rfl, rfl⟩ rfl (fun r_17 w_17 h_17 => ?_)
    obtain ⟨rfl, h_17⟩ := h_17
    refine z_if_eq (tgt := 42) C (z_d dtX8_isWithin_0 11 rfl) (by decide) (by omega) (fun h_20 => ?_) (fun h_20 => ?_)
    · refine z_iconst C (z_d dtX8_isWithin_0 21 rfl) ?_
      exact ret _ _ _ _ (z_d dtX8_isWithin_0 22 rfl) (⟨rfl, by omega⟩) (z_nb (by omega))
    · refine z_aload_n C (z_d dtX8_isWithin_0 12 rfl) rfl ?_
      refine z_iload_n C (z_d dtX8_isWithin_0 13 rfl) rfl ?_
      refine z_callV C (z_d dtX8_isWithin_0 14 rfl) (k_X8_yOf  (by first | assumption | omega) (by first | assumption | omega)) cal_X8_yOf gw_11_8 rfl 0 8 rfl rfl rfl rfl hR ⟨rfl, rfl, rfl, rfl⟩ rfl (fun r_25 w_25 h_25 => ?_)
      obtain ⟨rfl, rfl⟩ := h_25
      refine z_iload C (z_d dtX8_isWithin_0 15 rfl) rfl ?_
      refine z_iload C (z_d dtX8_isWithin_0 16 rfl) rfl ?_
      refine z_callS C (z_d dtX8_isWithin_0 17 rfl) (k_X8_in  (by first | assumption | omega) (by first | assumption | omega) (by first | assumption | omega)) cal_X8_in gw_8_19 rfl rfl hR ⟨rfl, rfl, rfl, rfl⟩ rfl (fun r_32 w_32 h_32 => ?_)
      obtain ⟨rfl, h_32⟩ := h_32
      refine z_if_eq (tgt := 42) C (z_d dtX8_isWithin_0 18 rfl) (by decide) (by omega) (fun h_35 => ?_) (fun h_35 => ?_)
      · refine z_iconst C (z_d dtX8_isWithin_0 21 rfl) ?_
        exact ret _ _ _ _ (z_d dtX8_isWithin_0 22 rfl) (⟨rfl, by omega⟩) (z_nb (by omega))
      · refine z_iconst C (z_d dtX8_isWithin_0 19 rfl) ?_
        refine z_goto (tgt := 43) C (z_d dtX8_isWithin_0 20 rfl) (by decide) ?_
        exact ret _ _ _ _ (z_d dtX8_isWithin_0 22 rfl) (⟨rfl, by omega⟩) (z_nb (by omega))

set_option maxRecDepth 100000 in
set_option maxHeartbeats 4000000 in
theorem k_X8_within {l : Launch} {D : va_G} {t : Nat → ClassId} {ad : Nat → Nat} {σ : zMem} {f x0 x1 y0 y1 : Int} (ok : okM σ) (hf : -2147483648 ≤ f ∧ f < 2147483648) (hx0 : -2147483648 ≤ x0 ∧ x0 < 2147483648) (hx1 : -2147483648 ≤ x1 ∧ x1 < 2147483648) (hy0 : -2147483648 ≤ y0 ∧ y0 < 2147483648) (hy1 : -2147483648 ≤ y1 ∧ y1 < 2147483648) : z_Ci l D t yX8_within cX8_within 8 .int 2 48 0 0 [.ref (ad 0), .int (zI f), .int (zI x0), .int (zI x1), .int (zI y0), .int (zI y1)] (wM ad t σ) (fun r w => w = wM ad t σ ∧ ((¬ zIsA σ f x0 x1 y0 y1 ∧ r = -2) ∨ (zIsA σ f x0 x1 y0 y1 ∧ r = zSum (zFw σ f x0 x1 y0 y1) (zN σ).toNat))) := by
  refine z_Ci_of (by decide +kernel) [some (.ref (ad 0)), some (.int (zI f)), some (.int (zI x0)), some (.int (zI x1)), some (.int (zI y0)), some (.int (zI y1)), none, none] rfl rfl (Nat.le_of_ble_eq_true rfl) fun K hl hD ht hR hnm C ret => ?_
  subst hl; subst hD; subst ht
  have ok2 := ok
  obtain ⟨⟨hw, h60, hs, h4, h5, h6, h7⟩, hmp, ⟨h9, hsum⟩, oW1, ⟨hle, hgi, hga⟩, oT1, ⟨h16, h17, h18, hit⟩⟩ := ok2
  have hN := zHw_N hw
  have hW := hw; unfold zHw at hW
  have hwh := zHw_wh hw
  have hn : σ 60 0 = ((zN σ).toNat : Int) ∧ 1 ≤ (zN σ).toNat ∧ (zN σ).toNat ≤ 72 := by omega
  have h9n : ∀ c : Int, 0 ≤ c → c < ((zN σ).toNat : Int) → 0 ≤ σ 9 c ∧ σ 9 c ≤ 1000000 := fun c a b => h9 c a (by omega)
  refine z_aload_n C (z_d dtX8_within_0 0 rfl) rfl ?_
  refine z_iload_n C (z_d dtX8_within_0 1 rfl) rfl ?_
  refine z_iload_n C (z_d dtX8_within_0 2 rfl) rfl ?_
  refine z_iload_n C (z_d dtX8_within_0 3 rfl) rfl ?_
  refine z_iload C (z_d dtX8_within_0 4 rfl) rfl ?_
  refine z_iload C (z_d dtX8_within_0 5 rfl) rfl ?_
  refine z_callV C (z_d dtX8_within_0 6 rfl) (k_X8_isArea  (by first | assumption | omega) (by first | assumption | omega) (by first | assumption | omega) (by first | assumption | omega) (by first | assumption | omega) (by first | assumption | omega)) cal_X8_isArea gw_24_16 rfl 0 8 rfl rfl rfl rfl hR ⟨rfl, rfl, rfl, rfl⟩ rfl (fun r_8 w_8 h_8 => ?_)
  obtain ⟨rfl, h_8⟩ := h_8
  refine z_if_ne (tgt := 17) C (z_d dtX8_within_0 7 rfl) (by decide) (by omega) (fun h_11 => ?_) (fun h_11 => ?_)
  · have hia : zIsA σ f x0 x1 y0 y1 := h_8.elim (fun q => q.2) (fun q => absurd q.1 h_11)
    refine z_iconst C (z_d dtX8_within_0 10 rfl) ?_
    refine z_istore6 C (z_d dtX8_within_0 11 rfl) rfl ?_
    refine z_iconst C (z_d dtX8_within_0 12 rfl) ?_
    refine z_istore7 C (z_d dtX8_within_0 13 rfl) rfl ?_
    have lp_23 : ∀ (N_23 : Nat) (i : Nat) (c s : Int), (c = i ∧ i ≤ (zN σ).toNat) → (s = zSum (zFw σ f x0 x1 y0 y1) i) → (zN σ).toNat - i < N_23 → Gd K 0 0 23 [some (.ref (ad 0)), some (.int (zI f)), some (.int (zI x0)), some (.int (zI x1)), some (.int (zI y0)), some (.int (zI y1)), some (.int (zI s)), some (.int (zI c))] [] (wM ad (z_t K) σ) := by
      intro N_23
      induction N_23 with
      | zero => intro i c s hi hs2 hm_23; exact absurd hm_23 (Nat.not_lt_zero _)
      | succ N_23 ih_23 =>
        intro i c s hi hs2 hm_23
        obtain ⟨rfl, hi⟩ := hi
        refine z_iload C (z_d dtX8_within_0 14 rfl) rfl ?_
        refine z_aload_n C (z_d dtX8_within_0 15 rfl) rfl ?_
        refine gf_X8_83 C (z_d dtX8_within_0 16 rfl) ?_
        refine z_icmp_ge (tgt := 70) C (z_d dtX8_within_0 17 rfl) (by decide) (by omega) (fun h_29 => ?_) (fun h_29 => ?_)
        · refine z_iload C (z_d dtX8_within_0 38 rfl) rfl ?_
          exact ret _ _ _ _ (z_d dtX8_within_0 39 rfl) (⟨rfl, Or.inr ⟨hia, by rw [hs2, show i = (zN σ).toNat by omega]⟩⟩) rfl
        · refine z_iload C (z_d dtX8_within_0 18 rfl) rfl ?_
          refine z_aload_n C (z_d dtX8_within_0 19 rfl) rfl ?_
          refine z_iload C (z_d dtX8_within_0 20 rfl) rfl ?_
          refine z_iload_n C (z_d dtX8_within_0 21 rfl) rfl ?_
          refine z_iload_n C (z_d dtX8_within_0 22 rfl) rfl ?_
          refine z_iload_n C (z_d dtX8_within_0 23 rfl) rfl ?_
          refine z_iload C (z_d dtX8_within_0 24 rfl) rfl ?_
          refine z_iload C (z_d dtX8_within_0 25 rfl) rfl ?_
          refine z_callV C (z_d dtX8_within_0 26 rfl) (k_X8_isWithin  (by first | assumption | omega) (by omega) (by first | assumption | omega) (by first | assumption | omega) (by first | assumption | omega) (by first | assumption | omega) (by first | assumption | omega)) cal_X8_isWithin gw_24_20 rfl 0 8 rfl rfl rfl rfl hR ⟨rfl, rfl, rfl, rfl⟩ rfl (fun r_44 w_44 h_44 => ?_)
          obtain ⟨rfl, h_44⟩ := h_44
          refine z_if_eq (tgt := 60) C (z_d dtX8_within_0 27 rfl) (by decide) (by omega) (fun h_47 => ?_) (fun h_47 => ?_)
          · refine z_iconst C (z_d dtX8_within_0 33 rfl) ?_
            refine z_iadd C (z_d dtX8_within_0 34 rfl) ?_
            refine z_istore6 C (z_d dtX8_within_0 35 rfl) rfl ?_
            refine z_iinc7 C (z_d dtX8_within_0 36 rfl) rfl ?_
            refine z_goto (tgt := 23) C (z_d dtX8_within_0 37 rfl) (by decide) ?_
            exact ih_23 (i + 1) _ _ (by omega) (by
                    rw [zSum, hs2]
                    unfold zFw
                    first | rw [if_pos (by omega)] | rw [if_neg (by omega)]) (by omega)
          · refine z_aload_n C (z_d dtX8_within_0 28 rfl) rfl ?_
            refine gf_X8_30 C (z_d dtX8_within_0 29 rfl) ?_
            refine z_iload C (z_d dtX8_within_0 30 rfl) rfl ?_
            refine al_M6 C (z_d dtX8_within_0 31 rfl) (by omega) ?_
            refine z_goto (tgt := 61) C (z_d dtX8_within_0 32 rfl) (by decide) ?_
            refine z_iadd C (z_d dtX8_within_0 34 rfl) ?_
            refine z_istore6 C (z_d dtX8_within_0 35 rfl) rfl ?_
            refine z_iinc7 C (z_d dtX8_within_0 36 rfl) rfl ?_
            refine z_goto (tgt := 23) C (z_d dtX8_within_0 37 rfl) (by decide) ?_
            exact ih_23 (i + 1) _ _ (by omega) (by
                    rw [zSum, hs2]
                    unfold zFw
                    first | rw [if_pos (by omega)] | rw [if_neg (by omega)]) (by omega)
    exact lp_23 _ 0 _ _ (by omega) rfl (Nat.lt_succ_self _)
  · have hia : ¬ zIsA σ f x0 x1 y0 y1 := h_8.elim (fun q => by omega) (fun q => q.2)
    refine z_bipush C (z_d dtX8_within_0 8 rfl) zb_m2 ?_
    exact ret _ _ _ _ (z_d dtX8_within_0 9 rfl) (⟨rfl, Or.inl ⟨hia, rfl⟩⟩) rfl

set_option maxRecDepth 100000 in
set_option maxHeartbeats 4000000 in
theorem k_X8_tells {l : Launch} {D : va_G} {t : Nat → ClassId} {ad : Nat → Nat} {σ : zMem} {z : Int} (hz : 0 ≤ z ∧ z < 4) (h18 : ∀ i, 0 ≤ σ 18 i ∧ σ 18 i ≤ 240) : z_Cv l D t yX8_tells cX8_tells 3 1 21 0 0 [.ref (ad 0), .int (zI z)] (wM ad t σ) (fun w => ∃ σ', w = wM ad t σ' ∧ zE σ' σ [14, 15] ∧ σ' 14 = zC (σ 18 z / 8) ∧ σ' 15 = fun i : Int => if 0 ≤ i ∧ i < σ 18 z / 8 then σ 65 i else σ 15 i) := by
  refine z_Cv_of (by decide +kernel) [some (.ref (ad 0)), some (.int (zI z)), none] rfl rfl (Nat.le_of_ble_eq_true rfl) fun K hl hD ht hR hnm C ret => ?_
  subst hl; subst hD; subst ht
  have h18z := h18 z
  refine z_aload_n C (z_d dtX8_tells_0 0 rfl) rfl ?_
  refine z_aload_n C (z_d dtX8_tells_0 1 rfl) rfl ?_
  refine z_iload_n C (z_d dtX8_tells_0 2 rfl) rfl ?_
  refine z_callV C (z_d dtX8_tells_0 3 rfl) (k_X8_rowsOf  (by first | assumption | omega) (by first | assumption | omega)) cal_X8_rowsOf gw_16_23 rfl 0 8 rfl rfl rfl rfl hR ⟨rfl, rfl, rfl, rfl⟩ rfl (fun r_3 w_3 h_3 => ?_)
  obtain ⟨rfl, rfl⟩ := h_3
  refine pf_X8_182 C (z_d dtX8_tells_0 4 rfl) ?_
  refine z_iconst C (z_d dtX8_tells_0 5 rfl) ?_
  refine z_istore_n2 C (z_d dtX8_tells_0 6 rfl) rfl ?_
  have lp_11 : ∀ (N_11 : Nat) (i : Nat) (c : Int) (μ : zMem), (c = i ∧ i ≤ (σ 18 z / 8).toNat) → (zE μ σ [14, 15]) → (μ 14 = zC (σ 18 z / 8)) → (μ 15 = fun j : Int => if 0 ≤ j ∧ j < i then σ 65 j else σ 15 j) → (σ 18 z / 8).toNat - i < N_11 → Gd K 0 0 11 [some (.ref (ad 0)), some (.int (zI z)), some (.int (zI c))] [] (wM ad (z_t K) μ) := by
    intro N_11
    induction N_11 with
    | zero => intro i c μ hi hE e14 e15 hm_11; exact absurd hm_11 (Nat.not_lt_zero _)
    | succ N_11 ih_11 =>
      intro i c μ hi hE e14 e15 hm_11
      obtain ⟨rfl, hi⟩ := hi
      have e65 := hE 65 (by decide)
      refine z_iload_n C (z_d dtX8_tells_0 7 rfl) rfl ?_
      refine z_aload_n C (z_d dtX8_tells_0 8 rfl) rfl ?_
      refine gf_X8_182 C (z_d dtX8_tells_0 9 rfl) ?_
      try simp (decide := true) only [zS_s, zS_o, zC, e14]
      refine z_icmp_ge (tgt := 37) C (z_d dtX8_tells_0 10 rfl) (by decide) (by omega) (fun h_16 => ?_) (fun h_16 => ?_)
      · exact ret _ _ _ (z_d dtX8_tells_0 21 rfl) (⟨_, rfl, hE, e14, by rw [e15]; funext j; rw [show (i : Int) = σ 18 z / 8 by omega]⟩)
      · refine z_aload_n C (z_d dtX8_tells_0 11 rfl) rfl ?_
        refine gf_X8_49 C (z_d dtX8_tells_0 12 rfl) ?_
        refine z_iload_n C (z_d dtX8_tells_0 13 rfl) rfl ?_
        refine z_aload_n C (z_d dtX8_tells_0 14 rfl) rfl ?_
        refine gf_X8_52 C (z_d dtX8_tells_0 15 rfl) ?_
        refine z_iload_n C (z_d dtX8_tells_0 16 rfl) rfl ?_
        refine al_M13 C (z_d dtX8_tells_0 17 rfl) (by omega) ?_
        try simp (decide := true) only [zS_s, zS_o, zC, e14]
        refine as_M12 C (z_d dtX8_tells_0 18 rfl) (by omega) ?_
        refine z_iinc2 C (z_d dtX8_tells_0 19 rfl) rfl ?_
        refine z_goto (tgt := 11) C (z_d dtX8_tells_0 20 rfl) (by decide) ?_
        exact ih_11 (i + 1) _ _ (by omega) (zE_set hE (by decide)) e14 (by
                rw [zS_s, e15, e65]
                funext j
                unfold zU
                by_cases e : j = i
                · rw [if_pos e, e, if_pos (by omega)]
                · rw [if_neg e]
                  dsimp only
                  by_cases q : 0 ≤ j ∧ j < i
                  · rw [if_pos q, if_pos (by omega)]
                  · rw [if_neg q, if_neg (by omega)]) (by omega)
  exact lp_11 _ 0 _ _ (by omega) (zE_set zE_rf (by decide)) (zS_s _ _ _) (by
        rw [zS_n (by decide)]
        funext j
        rw [if_neg (by omega)]) (Nat.lt_succ_self _)

set_option maxRecDepth 100000 in
set_option maxHeartbeats 4000000 in
theorem k_X8_way {l : Launch} {D : va_G} {t : Nat → ClassId} {ad : Nat → Nat} {σ : zMem} {i : Int} (ok : okM σ) (hi : -2147483648 ≤ i ∧ i < 2147483648) : z_Ci l D t yX8_way cX8_way 2 .int 1 22 0 0 [.ref (ad 0), .int (zI i)] (wM ad t σ) (fun r w => w = wM ad t σ ∧ ((¬ (0 ≤ i ∧ i < σ 14 0) ∧ r = -2) ∨ ((0 ≤ i ∧ i < σ 14 0) ∧ r = σ 15 i))) := by
  refine z_Ci_of (by decide +kernel) [some (.ref (ad 0)), some (.int (zI i))] rfl rfl (Nat.le_of_ble_eq_true rfl) fun K hl hD ht hR hnm C ret => ?_
  subst hl; subst hD; subst ht
  have ok2 := ok
  obtain ⟨⟨hw, h60, hs, h4, h5, h6, h7⟩, hmp, ⟨h9, hsum⟩, oW1, ⟨hle, hgi, hga⟩, oT1, ⟨h16, h17, h18, hit⟩⟩ := ok2
  have hN := zHw_N hw
  have hW := hw; unfold zHw at hW
  have hwh := zHw_wh hw
  unfold oT at oT1
  refine z_iload_n C (z_d dtX8_way_0 0 rfl) rfl ?_
  refine z_iconst C (z_d dtX8_way_0 1 rfl) ?_
  refine z_aload_n C (z_d dtX8_way_0 2 rfl) rfl ?_
  refine gf_X8_182 C (z_d dtX8_way_0 3 rfl) ?_
  refine z_iconst C (z_d dtX8_way_0 4 rfl) ?_
  refine z_isub C (z_d dtX8_way_0 5 rfl) ?_
  refine z_callS C (z_d dtX8_way_0 6 rfl) (k_X8_in  (by first | assumption | omega) (by first | assumption | omega) (by first | assumption | omega)) cal_X8_in gw_8_19 rfl rfl hR ⟨rfl, rfl, rfl, rfl⟩ rfl (fun r_8 w_8 h_8 => ?_)
  obtain ⟨rfl, h_8⟩ := h_8
  refine z_if_eq (tgt := 23) C (z_d dtX8_way_0 7 rfl) (by decide) (by omega) (fun h_11 => ?_) (fun h_11 => ?_)
  · refine z_bipush C (z_d dtX8_way_0 13 rfl) zb_m2 ?_
    exact ret _ _ _ _ (z_d dtX8_way_0 14 rfl) (⟨rfl, by omega⟩) rfl
  · refine z_aload_n C (z_d dtX8_way_0 8 rfl) rfl ?_
    refine gf_X8_49 C (z_d dtX8_way_0 9 rfl) ?_
    refine z_iload_n C (z_d dtX8_way_0 10 rfl) rfl ?_
    refine al_M12 C (z_d dtX8_way_0 11 rfl) (by omega) ?_
    refine z_goto (tgt := 25) C (z_d dtX8_way_0 12 rfl) (by decide) ?_
    exact ret _ _ _ _ (z_d dtX8_way_0 14 rfl) (⟨rfl, by omega⟩) rfl

set_option maxRecDepth 100000 in
set_option maxHeartbeats 4000000 in
theorem k_X8_put {l : Launch} {D : va_G} {t : Nat → ClassId} {ad : Nat → Nat} {σ : zMem} {k c : Int} (ok : okM σ) (hk : -2147483648 ≤ k ∧ k < 2147483648) (hc : -2147483648 ≤ c ∧ c < 2147483648) : z_Ci l D t yX8_put cX8_put 4 .int 2 43 0 0 [.ref (ad 0), .int (zI k), .int (zI c)] (wM ad t σ) (fun r w => ∃ σ', w = wM ad t σ' ∧ ((¬ ((0 ≤ k ∧ k < 20) ∧ (c = -1 ∨ (0 ≤ c ∧ c < zN σ))) ∧ r = -2 ∧ σ' = σ) ∨ (((0 ≤ k ∧ k < 20) ∧ (c = -1 ∨ (0 ≤ c ∧ c < zN σ))) ∧ r = σ 10 k ∧ σ' = zS (zS σ 10 (zU (σ 10) k c)) 12 (zC 0)))) := by
  refine z_Ci_of (by decide +kernel) [some (.ref (ad 0)), some (.int (zI k)), some (.int (zI c)), none] rfl rfl (Nat.le_of_ble_eq_true rfl) fun K hl hD ht hR hnm C ret => ?_
  subst hl; subst hD; subst ht
  have ok2 := ok
  obtain ⟨⟨hw, h60, hs, h4, h5, h6, h7⟩, hmp, ⟨h9, hsum⟩, oW1, ⟨hle, hgi, hga⟩, oT1, ⟨h16, h17, h18, hit⟩⟩ := ok2
  have hN := zHw_N hw
  have hW := hw; unfold zHw at hW
  have hwh := zHw_wh hw
  refine z_iload_n C (z_d dtX8_put_0 0 rfl) rfl ?_
  refine z_iconst C (z_d dtX8_put_0 1 rfl) ?_
  refine z_bipush C (z_d dtX8_put_0 2 rfl) zb_19 ?_
  refine z_callS C (z_d dtX8_put_0 3 rfl) (k_X8_in  (by first | assumption | omega) (by first | assumption | omega) (by first | assumption | omega)) cal_X8_in gw_8_19 rfl rfl hR ⟨rfl, rfl, rfl, rfl⟩ rfl (fun r_4 w_4 h_4 => ?_)
  obtain ⟨rfl, h_4⟩ := h_4
  refine z_if_eq (tgt := 23) C (z_d dtX8_put_0 4 rfl) (by decide) (by omega) (fun h_7 => ?_) (fun h_7 => ?_)
  · refine z_bipush C (z_d dtX8_put_0 12 rfl) zb_m2 ?_
    exact ret _ _ _ _ (z_d dtX8_put_0 13 rfl) (⟨σ, rfl, Or.inl ⟨by omega, rfl, rfl⟩⟩) rfl
  · refine z_iload_n C (z_d dtX8_put_0 5 rfl) rfl ?_
    refine z_iconst C (z_d dtX8_put_0 6 rfl) ?_
    refine z_icmp_eq (tgt := 26) C (z_d dtX8_put_0 7 rfl) (by decide) (by omega) (fun h_12 => ?_) (fun h_12 => ?_)
    · refine z_aload_n C (z_d dtX8_put_0 14 rfl) rfl ?_
      refine gf_X8_33 C (z_d dtX8_put_0 15 rfl) ?_
      refine z_iload_n C (z_d dtX8_put_0 16 rfl) rfl ?_
      refine al_M7 C (z_d dtX8_put_0 17 rfl) (by omega) ?_
      refine z_istore_n3 C (z_d dtX8_put_0 18 rfl) rfl ?_
      refine z_aload_n C (z_d dtX8_put_0 19 rfl) rfl ?_
      refine gf_X8_33 C (z_d dtX8_put_0 20 rfl) ?_
      refine z_iload_n C (z_d dtX8_put_0 21 rfl) rfl ?_
      refine z_iload_n C (z_d dtX8_put_0 22 rfl) rfl ?_
      refine as_M7 C (z_d dtX8_put_0 23 rfl) (by omega) ?_
      refine z_aload_n C (z_d dtX8_put_0 24 rfl) rfl ?_
      refine z_iconst C (z_d dtX8_put_0 25 rfl) ?_
      refine pf_X8_99 C (z_d dtX8_put_0 26 rfl) ?_
      refine z_iload_n C (z_d dtX8_put_0 27 rfl) rfl ?_
      exact ret _ _ _ _ (z_d dtX8_put_0 28 rfl) (⟨_, rfl, Or.inr ⟨by omega, rfl, rfl⟩⟩) rfl
    · refine z_aload_n C (z_d dtX8_put_0 8 rfl) rfl ?_
      refine z_iload_n C (z_d dtX8_put_0 9 rfl) rfl ?_
      refine z_callV C (z_d dtX8_put_0 10 rfl) (k_X8_isCell  (by first | assumption | omega) (by first | assumption | omega) (by first | assumption | omega)) cal_X8_isCell gw_10_20 rfl 0 8 rfl rfl rfl rfl hR ⟨rfl, rfl, rfl, rfl⟩ rfl (fun r_17 w_17 h_17 => ?_)
      obtain ⟨rfl, h_17⟩ := h_17
      refine z_if_ne (tgt := 26) C (z_d dtX8_put_0 11 rfl) (by decide) (by omega) (fun h_20 => ?_) (fun h_20 => ?_)
      · refine z_aload_n C (z_d dtX8_put_0 14 rfl) rfl ?_
        refine gf_X8_33 C (z_d dtX8_put_0 15 rfl) ?_
        refine z_iload_n C (z_d dtX8_put_0 16 rfl) rfl ?_
        refine al_M7 C (z_d dtX8_put_0 17 rfl) (by omega) ?_
        refine z_istore_n3 C (z_d dtX8_put_0 18 rfl) rfl ?_
        refine z_aload_n C (z_d dtX8_put_0 19 rfl) rfl ?_
        refine gf_X8_33 C (z_d dtX8_put_0 20 rfl) ?_
        refine z_iload_n C (z_d dtX8_put_0 21 rfl) rfl ?_
        refine z_iload_n C (z_d dtX8_put_0 22 rfl) rfl ?_
        refine as_M7 C (z_d dtX8_put_0 23 rfl) (by omega) ?_
        refine z_aload_n C (z_d dtX8_put_0 24 rfl) rfl ?_
        refine z_iconst C (z_d dtX8_put_0 25 rfl) ?_
        refine pf_X8_99 C (z_d dtX8_put_0 26 rfl) ?_
        refine z_iload_n C (z_d dtX8_put_0 27 rfl) rfl ?_
        exact ret _ _ _ _ (z_d dtX8_put_0 28 rfl) (⟨_, rfl, Or.inr ⟨by omega, rfl, rfl⟩⟩) rfl
      · refine z_bipush C (z_d dtX8_put_0 12 rfl) zb_m2 ?_
        exact ret _ _ _ _ (z_d dtX8_put_0 13 rfl) (⟨σ, rfl, Or.inl ⟨by omega, rfl, rfl⟩⟩) rfl

set_option maxRecDepth 100000 in
set_option maxHeartbeats 4000000 in
theorem k_X8_least {l : Launch} {D : va_G} {t : Nat → ClassId} {ad : Nat → Nat} {σ : zMem} {n : Int} (ok : okM σ) (hn : -2147483648 ≤ n ∧ n < 2147483648) : z_Ci l D t yX8_least cX8_least 3 .int 1 22 0 0 [.ref (ad 0), .int (zI n)] (wM ad t σ) (fun r w => ∃ σ', w = wM ad t σ' ∧ ((¬ (1 ≤ n ∧ n ≤ 20) ∧ r = -2 ∧ σ' = σ) ∨ ((1 ≤ n ∧ n ≤ 20) ∧ r = σ 11 0 ∧ σ' = zS (zS σ 11 (zC n)) 12 (zC 0)))) := by
  refine z_Ci_of (by decide +kernel) [some (.ref (ad 0)), some (.int (zI n)), none] rfl rfl (Nat.le_of_ble_eq_true rfl) fun K hl hD ht hR hnm C ret => ?_
  subst hl; subst hD; subst ht
  have ok2 := ok
  obtain ⟨⟨hw, h60, hs, h4, h5, h6, h7⟩, hmp, ⟨h9, hsum⟩, oW1, ⟨hle, hgi, hga⟩, oT1, ⟨h16, h17, h18, hit⟩⟩ := ok2
  have hN := zHw_N hw
  have hW := hw; unfold zHw at hW
  have hwh := zHw_wh hw
  refine z_iload_n C (z_d dtX8_least_0 0 rfl) rfl ?_
  refine z_iconst C (z_d dtX8_least_0 1 rfl) ?_
  refine z_bipush C (z_d dtX8_least_0 2 rfl) zb_20 ?_
  refine z_callS C (z_d dtX8_least_0 3 rfl) (k_X8_in  (by first | assumption | omega) (by first | assumption | omega) (by first | assumption | omega)) cal_X8_in gw_8_19 rfl rfl hR ⟨rfl, rfl, rfl, rfl⟩ rfl (fun r_4 w_4 h_4 => ?_)
  obtain ⟨rfl, h_4⟩ := h_4
  refine z_if_ne (tgt := 13) C (z_d dtX8_least_0 4 rfl) (by decide) (by omega) (fun h_7 => ?_) (fun h_7 => ?_)
  · refine z_aload_n C (z_d dtX8_least_0 7 rfl) rfl ?_
    refine gf_X8_58 C (z_d dtX8_least_0 8 rfl) ?_
    refine z_istore_n2 C (z_d dtX8_least_0 9 rfl) rfl ?_
    refine z_aload_n C (z_d dtX8_least_0 10 rfl) rfl ?_
    refine z_iload_n C (z_d dtX8_least_0 11 rfl) rfl ?_
    refine pf_X8_58 C (z_d dtX8_least_0 12 rfl) ?_
    refine z_aload_n C (z_d dtX8_least_0 13 rfl) rfl ?_
    refine z_iconst C (z_d dtX8_least_0 14 rfl) ?_
    refine pf_X8_99 C (z_d dtX8_least_0 15 rfl) ?_
    refine z_iload_n C (z_d dtX8_least_0 16 rfl) rfl ?_
    exact ret _ _ _ _ (z_d dtX8_least_0 17 rfl) (⟨_, rfl, Or.inr ⟨by omega, rfl, rfl⟩⟩) rfl
  · refine z_bipush C (z_d dtX8_least_0 5 rfl) zb_m2 ?_
    exact ret _ _ _ _ (z_d dtX8_least_0 6 rfl) (⟨σ, rfl, Or.inl ⟨by omega, rfl, rfl⟩⟩) rfl

set_option maxRecDepth 100000 in
set_option maxHeartbeats 4000000 in
theorem k_X8_hear {l : Launch} {D : va_G} {t : Nat → ClassId} {ad : Nat → Nat} {σ : zMem} {z row o : Int} (ok : okM σ) (hz : -2147483648 ≤ z ∧ z < 2147483648) (hrow : -2147483648 ≤ row ∧ row < 2147483648) (ho : -2147483648 ≤ o ∧ o < 2147483648) : z_Ci l D t yX8_hear cX8_hear 9 .int 2 48 0 0 [.ref (ad 0), .int (zI z), .int (zI row), .int (zI o)] (wM ad t σ) (fun r w => ∃ σ', w = wM ad t σ' ∧ ((¬ ((0 ≤ z ∧ z < 4) ∧ (-4 ≤ o ∧ o ≤ 4)) ∧ r = -2 ∧ σ' = σ) ∨ (((0 ≤ z ∧ z < 4) ∧ (-4 ≤ o ∧ o ≤ 4)) ∧ ((¬ zRp σ z row = 0 ∧ r = -10 - zRp σ z row ∧ σ' = zS σ 19 (zC (zRp σ z row))) ∨ (zRp σ z row = 0 ∧ zSum (zHx σ z row o) (zN σ).toNat ≤ 0 ∧ r = -3 ∧ zE σ' σ [62]) ∨ (zRp σ z row = 0 ∧ 0 < zSum (zHx σ z row o) (zN σ).toNat ∧ zE σ' σ [9, 62, 63] ∧ (∀ c, 0 ≤ c → c < zN σ → σ' 9 c = zWh (zHx σ z row o) (zN σ).toNat c) ∧ r = zCs (zWh (zHx σ z row o) (zN σ).toNat) (zN σ).toNat))))) := by
  refine z_Ci_of (by decide +kernel) [some (.ref (ad 0)), some (.int (zI z)), some (.int (zI row)), some (.int (zI o)), none, none, none, none, none] rfl rfl (Nat.le_of_ble_eq_true rfl) fun K hl hD ht hR hnm C ret => ?_
  subst hl; subst hD; subst ht
  have ok2 := ok
  obtain ⟨⟨hw, h60, hs, h4, h5, h6, h7⟩, hmp, ⟨h9, hsum⟩, oW1, ⟨hle, hgi, hga⟩, oT1, ⟨h16, h17, h18, hit⟩⟩ := ok2
  have hN := zHw_N hw
  have hW := hw; unfold zHw at hW
  have hwh := zHw_wh hw
  have hn : σ 60 0 = ((zN σ).toNat : Int) ∧ 1 ≤ (zN σ).toNat ∧ (zN σ).toNat ≤ 72 := by omega
  have h9n : ∀ c : Int, 0 ≤ c → c < ((zN σ).toNat : Int) → 0 ≤ σ 9 c ∧ σ 9 c ≤ 1000000 := fun c a b => h9 c a (by omega)
  have hrp : (0 ≤ zRp σ z row ∧ zRp σ z row ≤ 2) ∧ (zRp σ z row = 0 → 0 ≤ row ∧ row < 30) := zRp_m h18 z row
  have hmb : ∀ (k : Nat) (c : Int), 0 ≤ c → c < zN σ → 0 ≤ zHm σ z row o (zN σ).toNat k c ∧ zHm σ z row o (zN σ).toNat k c ≤ 1000 := fun k c a b => by
    have p := zHm_b (s := z) (row := row) (o := o) (n := (zN σ).toNat) hmp k c.toNat (by omega)
    rw [Int.toNat_of_nonneg a] at p
    exact p
  refine z_iload_n C (z_d dtX8_hear_0 0 rfl) rfl ?_
  refine z_callS C (z_d dtX8_hear_0 1 rfl) (k_X8_isSheet  (by first | assumption | omega)) cal_X8_isSheet gw_16_16 rfl rfl hR ⟨rfl, rfl, rfl, rfl⟩ rfl (fun r_1 w_1 h_1 => ?_)
  obtain ⟨rfl, h_1⟩ := h_1
  refine z_if_eq (tgt := 17) C (z_d dtX8_hear_0 2 rfl) (by decide) (by omega) (fun h_4 => ?_) (fun h_4 => ?_)
  · refine z_bipush C (z_d dtX8_hear_0 8 rfl) zb_m2 ?_
    exact ret _ _ _ _ (z_d dtX8_hear_0 9 rfl) (⟨σ, rfl, Or.inl ⟨by omega, rfl, rfl⟩⟩) rfl
  · refine z_iload_n C (z_d dtX8_hear_0 3 rfl) rfl ?_
    refine z_bipush C (z_d dtX8_hear_0 4 rfl) zb_m4 ?_
    refine z_iconst C (z_d dtX8_hear_0 5 rfl) ?_
    refine z_callS C (z_d dtX8_hear_0 6 rfl) (k_X8_in  (by first | assumption | omega) (by first | assumption | omega) (by first | assumption | omega)) cal_X8_in gw_8_19 rfl rfl hR ⟨rfl, rfl, rfl, rfl⟩ rfl (fun r_11 w_11 h_11 => ?_)
    obtain ⟨rfl, h_11⟩ := h_11
    refine z_if_ne (tgt := 20) C (z_d dtX8_hear_0 7 rfl) (by decide) (by omega) (fun h_14 => ?_) (fun h_14 => ?_)
    · refine z_aload_n C (z_d dtX8_hear_0 10 rfl) rfl ?_
      refine z_iload_n C (z_d dtX8_hear_0 11 rfl) rfl ?_
      refine z_iload_n C (z_d dtX8_hear_0 12 rfl) rfl ?_
      refine z_callV C (z_d dtX8_hear_0 13 rfl) (k_X8_lacksRow  (by omega) (by first | assumption | omega) (by first | assumption | omega) (by first | assumption | omega)) cal_X8_lacksRow gw_16_19 rfl 0 8 rfl rfl rfl rfl hR ⟨rfl, rfl, rfl, rfl⟩ rfl (fun r_23 w_23 h_23 => ?_)
      obtain ⟨rfl, rfl⟩ := h_23
      refine z_istore4 C (z_d dtX8_hear_0 14 rfl) rfl ?_
      refine z_iload C (z_d dtX8_hear_0 15 rfl) rfl ?_
      refine z_if_le (tgt := 40) C (z_d dtX8_hear_0 16 rfl) (by decide) (by omega) (fun h_30 => ?_) (fun h_30 => ?_)
      · refine z_iconst C (z_d dtX8_hear_0 21 rfl) ?_
        refine z_istore5 C (z_d dtX8_hear_0 22 rfl) rfl ?_
        have lp_43 : ∀ (N_43 : Nat) (c : Int) (μ : zMem), (0 ≤ c ∧ c ≤ zN σ) → (zE μ σ [62]) → (∀ j, 0 ≤ j → j < c → μ 62 j = 1000) → (zN σ - c).toNat < N_43 → Gd K 0 0 43 [some (.ref (ad 0)), some (.int (zI z)), some (.int (zI row)), some (.int (zI o)), some (.int (zI (zRp σ z row))), some (.int (zI c)), none, none, none] [] (wM ad (z_t K) μ) := by
          intro N_43
          induction N_43 with
          | zero => intro c μ hc hE hm hm_43; exact absurd hm_43 (Nat.not_lt_zero _)
          | succ N_43 ih_43 =>
            intro c μ hc hE hm hm_43
            have e60 := hE 60 (by decide)
            have e7 := hE 7 (by decide)
            have e9 := hE 9 (by decide)
            refine z_iload C (z_d dtX8_hear_0 23 rfl) rfl ?_
            refine z_aload_n C (z_d dtX8_hear_0 24 rfl) rfl ?_
            refine gf_X8_83 C (z_d dtX8_hear_0 25 rfl) ?_
            try simp (decide := true) only [zS_s, zS_o, zC, e60, e7, e9]
            refine z_icmp_ge (tgt := 68) C (z_d dtX8_hear_0 26 rfl) (by decide) (by omega) (fun h_49 => ?_) (fun h_49 => ?_)
            · refine z_iconst C (z_d dtX8_hear_0 34 rfl) ?_
              refine z_istore5 C (z_d dtX8_hear_0 35 rfl) rfl ?_
              have lp_71 : ∀ (N_71 : Nat) (k : Nat) (kk : Int) (ν : zMem), (kk = k ∧ k ≤ 8) → (zE ν σ [62]) → (∀ j, 0 ≤ j → j < zN σ → ν 62 j = zHm σ z row o (zN σ).toNat k j) → 8 - k < N_71 → Gd K 0 0 71 [some (.ref (ad 0)), some (.int (zI z)), some (.int (zI row)), some (.int (zI o)), some (.int (zI (zRp σ z row))), some (.int (zI kk)), none, none, none] [] (wM ad (z_t K) ν) := by
                intro N_71
                induction N_71 with
                | zero => intro k kk ν hk hE2 hm2 hm_71; exact absurd hm_71 (Nat.not_lt_zero _)
                | succ N_71 ih_71 =>
                  intro k kk ν hk hE2 hm2 hm_71
                  obtain ⟨rfl, hk⟩ := hk
                  have e60 := hE2 60 (by decide)
                  have e7 := hE2 7 (by decide)
                  have e9 := hE2 9 (by decide)
                  have h7k := h7 k
                  have eV := zHv_E hE2 (by decide) z row k
                  have hv9 := zHo_b (zHv σ z row k) o
                  refine z_iload C (z_d dtX8_hear_0 36 rfl) rfl ?_
                  refine z_bipush C (z_d dtX8_hear_0 37 rfl) zb_8 ?_
                  refine z_icmp_ge (tgt := 213) C (z_d dtX8_hear_0 38 rfl) (by decide) (by omega) (fun h_75 => ?_) (fun h_75 => ?_)
                  · refine z_iconst C (z_d dtX8_hear_2 27 rfl) ?_
                    refine z_istore5 C (z_d dtX8_hear_2 28 rfl) rfl ?_
                    have lp_216 : ∀ (N_216 : Nat) (c : Int) (ξ : zMem), (0 ≤ c ∧ c ≤ zN σ) → (zE ξ σ [62]) → (∀ j, 0 ≤ j → j < zN σ → (j < c → ξ 62 j = zHx σ z row o j) ∧ (c ≤ j → ξ 62 j = zHm σ z row o (zN σ).toNat 8 j)) → (zN σ - c).toNat < N_216 → Gd K 0 0 216 [some (.ref (ad 0)), some (.int (zI z)), some (.int (zI row)), some (.int (zI o)), some (.int (zI (zRp σ z row))), some (.int (zI c)), none, none, none] [] (wM ad (z_t K) ξ) := by
                      intro N_216
                      induction N_216 with
                      | zero => intro c ξ hc5 hE5 hm5 hm_216; exact absurd hm_216 (Nat.not_lt_zero _)
                      | succ N_216 ih_216 =>
                        intro c ξ hc5 hE5 hm5 hm_216
                        have e60 := hE5 60 (by decide)
                        have e7 := hE5 7 (by decide)
                        have e9 := hE5 9 (by decide)
                        have hcur := fun q : c < zN σ => (hm5 c (by omega) q).2 (by omega)
                        have hmbc := fun q : c < zN σ => hmb 8 c (by omega) q
                        have h9c := fun q : c < zN σ => h9 c (by omega) q
                        have hpr := fun q : c < zN σ => Int.mul_le_mul (hmbc q).2 (h9c q).2 (h9c q).1 (by omega)
                        have hpr0 := fun q : c < zN σ => Int.mul_nonneg (hmbc q).1 (h9c q).1
                        refine z_iload C (z_d dtX8_hear_2 29 rfl) rfl ?_
                        refine z_aload_n C (z_d dtX8_hear_2 30 rfl) rfl ?_
                        refine gf_X8_83 C (z_d dtX8_hear_2 31 rfl) ?_
                        try simp (decide := true) only [zS_s, zS_o, zC, e60, e7, e9]
                        refine z_icmp_ge (tgt := 254) C (z_d dtX8_hear_2 32 rfl) (by decide) (by omega) (fun h_222 => ?_) (fun h_222 => ?_)
                        · refine z_aload_n C (z_d dtX8_hear_3 9 rfl) rfl ?_
                          refine z_callV C (z_d dtX8_hear_3 10 rfl) (k_X8_whole (n := (zN σ).toNat) (by rw [e60]; exact hn) (fun c2 a b => by
                                rw [(hm5 c2 a (by omega)).1 (by omega)]
                                have p := hmb 8 c2 a (by omega)
                                have q := h9 c2 a (by omega)
                                have u := Int.mul_le_mul p.2 q.2 q.1 (by omega)
                                have v := Int.mul_nonneg p.1 q.1
                                have e : zHx σ z row o c2 = zHm σ z row o (zN σ).toNat 8 c2 * σ 9 c2 := rfl
                                omega)) cal_X8_whole gw_9_2 rfl 0 8 rfl rfl rfl rfl hR ⟨rfl, rfl, rfl, rfl⟩ rfl (fun r_255 w_255 h_255 => ?_)
                          obtain ⟨σ_255, rfl, h255⟩ := h_255
                          have ex5 : ∀ c2 : Int, 0 ≤ c2 → c2 < ((zN σ).toNat : Int) → ξ 62 c2 = zHx σ z row o c2 := fun c2 a b => (hm5 c2 a (by omega)).1 (by omega)
                          rw [zSum_cg (F := ξ 62) (G := zHx σ z row o) _ ex5] at h255
                          have ecg := fun c2 a b => zWh_cg (W := ξ 62) (V := zHx σ z row o) hn.2.1 ex5 c2 a b
                          have hr255 : r_255 = 0 ∨ r_255 = 1 := h255.elim (fun q => Or.inl q.2.1) (fun q => Or.inr q.2.1)
                          refine z_if_eq (tgt := 268) C (z_d dtX8_hear_3 11 rfl) (by decide) (by omega) (fun h_258 => ?_) (fun h_258 => ?_)
                          · refine z_bipush C (z_d dtX8_hear_3 15 rfl) zb_m3 ?_
                            exact ret _ _ _ _ (z_d dtX8_hear_3 16 rfl) (by
                                first
                                  | exact ⟨_, rfl, Or.inr ⟨by omega, Or.inr (Or.inr ⟨by omega, h62.1, zE_tr (zE_mo h62.2.2.1 (by decide)) (zE_mo hE5 (by decide)), fun c a b => by rw [h62.2.2.2 c a (by omega)]; exact ecg c a (by omega), rfl⟩)⟩⟩
                                  | (have h63 := h255.resolve_right (fun q => by omega)
                                     exact ⟨_, rfl, Or.inr ⟨by omega, Or.inr (Or.inl ⟨by omega, by omega, rfl, by rw [h63.2.2]; exact hE5⟩)⟩⟩)) rfl
                          · refine z_aload_n C (z_d dtX8_hear_3 12 rfl) rfl ?_
                            have h62 := h255.resolve_left (fun q => h_258 q.2.1)
                            have hx0 : ∀ c : Int, 0 ≤ c → c < ((zN σ).toNat : Int) → 0 ≤ zHx σ z row o c := fun c a b => Int.mul_nonneg (hmb 8 c a (by omega)).1 (h9 c a (by omega)).1
                            have hok := zWh_ok hn.2.1 hx0 h62.1
                            have e60b := (h62.2.2.1 60 (by decide)).trans e60
                            refine z_callV C (z_d dtX8_hear_3 13 rfl) (k_X8_withShare (n := (zN σ).toNat) (by rw [e60b]; exact hn) (fun c a b => by rw [h62.2.2.2 c a b, ecg c a b]; exact hok.1 c a b)) cal_X8_withShare gw_21_23 rfl 0 8 rfl rfl rfl rfl hR ⟨rfl, rfl, rfl, rfl⟩ rfl (fun r_262 w_262 h_262 => ?_)
                            obtain ⟨rfl, rfl⟩ := h_262
                            rw [zCs_cg (F := σ_255 9) (G := zWh (zHx σ z row o) (zN σ).toNat) _ (fun c a b => by rw [h62.2.2.2 c a b]; exact ecg c a b)]
                            refine z_goto (tgt := 270) C (z_d dtX8_hear_3 14 rfl) (by decide) ?_
                            exact ret _ _ _ _ (z_d dtX8_hear_3 16 rfl) (by
                                first
                                  | exact ⟨_, rfl, Or.inr ⟨by omega, Or.inr (Or.inr ⟨by omega, h62.1, zE_tr (zE_mo h62.2.2.1 (by decide)) (zE_mo hE5 (by decide)), fun c a b => by rw [h62.2.2.2 c a (by omega)]; exact ecg c a (by omega), rfl⟩)⟩⟩
                                  | (have h63 := h255.resolve_right (fun q => by omega)
                                     exact ⟨_, rfl, Or.inr ⟨by omega, Or.inr (Or.inl ⟨by omega, by omega, rfl, by rw [h63.2.2]; exact hE5⟩)⟩⟩)) rfl
                        · refine z_aload_n C (z_d dtX8_hear_2 33 rfl) rfl ?_
                          refine gf_X8_39 C (z_d dtX8_hear_2 34 rfl) ?_
                          refine z_iload C (z_d dtX8_hear_2 35 rfl) rfl ?_
                          refine z_aload_n C (z_d dtX8_hear_2 36 rfl) rfl ?_
                          refine gf_X8_39 C (z_d dtX8_hear_2 37 rfl) ?_
                          refine z_iload C (z_d dtX8_hear_2 38 rfl) rfl ?_
                          refine al_M9 C (z_d dtX8_hear_2 39 rfl) (by omega) ?_
                          try simp (decide := true) only [zS_s, zS_o, zC, e60, e7, e9]
                          refine z_topL (hcur (by omega)) ?_
                          refine z_aload_n C (z_d dtX8_hear_3 0 rfl) rfl ?_
                          refine gf_X8_30 C (z_d dtX8_hear_3 1 rfl) ?_
                          refine z_iload C (z_d dtX8_hear_3 2 rfl) rfl ?_
                          refine al_M6 C (z_d dtX8_hear_3 3 rfl) (by omega) ?_
                          try simp (decide := true) only [zS_s, zS_o, zC, e60, e7, e9]
                          refine z_i2l C (z_d dtX8_hear_3 4 rfl) (by omega) ?_
                          refine z_lmul C (z_d dtX8_hear_3 5 rfl) ?_
                          refine as_M9 C (z_d dtX8_hear_3 6 rfl) (by omega) ?_
                          refine z_iinc5 C (z_d dtX8_hear_3 7 rfl) rfl ?_
                          refine z_goto (tgt := 216) C (z_d dtX8_hear_3 8 rfl) (by decide) ?_
                          exact ih_216 _ _ (by omega) (zE_set hE5 (by decide)) (fun j a b => by
                                  rw [zS_s]
                                  constructor
                                  · intro q
                                    by_cases e : j = c
                                    · subst e; rw [zU_s]; rfl
                                    · rw [zU_n e]; exact (hm5 j a b).1 (by omega)
                                  · intro q
                                    rw [zU_n (by omega)]; exact (hm5 j a b).2 (by omega)) (by omega)
                    exact lp_216 _ _ _ (by omega) hE2 (fun j a b => ⟨fun q => absurd q (by omega), fun _ => by rw [hm2 j a b, show k = 8 by omega]⟩) (Nat.lt_succ_self _)
                  · refine z_aload_n C (z_d dtX8_hear_0 39 rfl) rfl ?_
                    refine z_iload_n C (z_d dtX8_hear_1 0 rfl) rfl ?_
                    refine z_iload_n C (z_d dtX8_hear_1 1 rfl) rfl ?_
                    refine z_iload C (z_d dtX8_hear_1 2 rfl) rfl ?_
                    refine z_iload_n C (z_d dtX8_hear_1 3 rfl) rfl ?_
                    refine z_callV C (z_d dtX8_hear_1 4 rfl) (k_X8_heard  (by omega) (by unfold zIt; rw [hE2 20 (by decide)]; exact hit) (hrp.2 (by omega)) (by omega) (by omega)) cal_X8_heard gw_17_12 rfl 0 8 rfl rfl rfl rfl hR ⟨rfl, rfl, rfl, rfl⟩ rfl (fun r_84 w_84 h_84 => ?_)
                    obtain ⟨rfl, rfl⟩ := h_84
                    rw [eV]
                    refine z_istore6 C (z_d dtX8_hear_1 5 rfl) rfl ?_
                    refine z_iload C (z_d dtX8_hear_1 6 rfl) rfl ?_
                    refine z_bipush C (z_d dtX8_hear_1 7 rfl) zb_m2 ?_
                    refine z_icmp_eq (tgt := 207) C (z_d dtX8_hear_1 8 rfl) (by decide) (by omega) (fun h_93 => ?_) (fun h_93 => ?_)
                    · refine z_iinc5 C (z_d dtX8_hear_2 25 rfl) rfl ?_
                      refine z_goto (tgt := 71) C (z_d dtX8_hear_2 26 rfl) (by decide) ?_
                      refine z_drop6 ?_
                      exact ih_71 (k + 1) _ _ (by omega) (by first | exact hE4 | exact hE2) (fun j a b => by
                              rw [zHm]
                              dsimp only
                              first
                                | (rw [if_pos ⟨by omega, by omega⟩]; exact (hm4 j a b).1 (by omega))
                                | (rw [if_neg (fun q => by omega)]; exact hm2 j a b)) (by omega)
                    · refine z_aload_n C (z_d dtX8_hear_1 9 rfl) rfl ?_
                      refine gf_X8_23 C (z_d dtX8_hear_1 10 rfl) ?_
                      refine z_iload C (z_d dtX8_hear_1 11 rfl) rfl ?_
                      refine al_M4 C (z_d dtX8_hear_1 12 rfl) (by omega) ?_
                      try simp (decide := true) only [zS_s, zS_o, zC, e60, e7, e9]
                      refine z_if_ne (tgt := 207) C (z_d dtX8_hear_1 13 rfl) (by decide) (by omega) (fun h_103 => ?_) (fun h_103 => ?_)
                      · refine z_iinc5 C (z_d dtX8_hear_2 25 rfl) rfl ?_
                        refine z_goto (tgt := 71) C (z_d dtX8_hear_2 26 rfl) (by decide) ?_
                        refine z_drop6 ?_
                        exact ih_71 (k + 1) _ _ (by omega) (by first | exact hE4 | exact hE2) (fun j a b => by
                                rw [zHm]
                                dsimp only
                                first
                                  | (rw [if_pos ⟨by omega, by omega⟩]; exact (hm4 j a b).1 (by omega))
                                  | (rw [if_neg (fun q => by omega)]; exact hm2 j a b)) (by omega)
                      · refine z_iconst C (z_d dtX8_hear_1 14 rfl) ?_
                        refine z_istore7 C (z_d dtX8_hear_1 15 rfl) rfl ?_
                        refine z_iconst C (z_d dtX8_hear_1 16 rfl) ?_
                        refine z_istore8 C (z_d dtX8_hear_1 17 rfl) rfl ?_
                        have lp_112 : ∀ (N_112 : Nat) (m : Nat) (c g : Int), (c = m ∧ m ≤ (zN σ).toNat) → (g = if m = 0 then 0 else zGw σ k (zHo (zHv σ z row k) o) m) → (zN σ).toNat - m < N_112 → Gd K 0 0 112 [some (.ref (ad 0)), some (.int (zI z)), some (.int (zI row)), some (.int (zI o)), some (.int (zI (zRp σ z row))), some (.int (zI (k : Int))), some (.int (zI (zHo (zHv σ z row k) o))), some (.int (zI g)), some (.int (zI c))] [] (wM ad (z_t K) ν) := by
                          intro N_112
                          induction N_112 with
                          | zero => intro m c g hc2 hg hm_112; exact absurd hm_112 (Nat.not_lt_zero _)
                          | succ N_112 ih_112 =>
                            intro m c g hc2 hg hm_112
                            obtain ⟨rfl, hc2⟩ := hc2
                            have eW := zWt_E hE2 (by decide) k m (zHo (zHv σ z row k) o)
                            have hwt := zWt_b hmp k m (zHo (zHv σ z row k) o)
                            have hgw := zGw_b hmp k (zHo (zHv σ z row k) o) m
                            have hg3 : 0 ≤ g ∧ g ≤ 256 := by
                              split at hg <;> omega
                            refine z_iload C (z_d dtX8_hear_1 18 rfl) rfl ?_
                            refine z_aload_n C (z_d dtX8_hear_1 19 rfl) rfl ?_
                            refine gf_X8_83 C (z_d dtX8_hear_1 20 rfl) ?_
                            try simp (decide := true) only [zS_s, zS_o, zC, e60, e7, e9]
                            refine z_icmp_ge (tgt := 159) C (z_d dtX8_hear_1 21 rfl) (by decide) (by omega) (fun h_118 => ?_) (fun h_118 => ?_)
                            · refine z_iconst C (z_d dtX8_hear_1 39 rfl) ?_
                              refine z_istore8 C (z_d dtX8_hear_2 0 rfl) rfl ?_
                              obtain rfl : g = zGw σ k (zHo (zHv σ z row k) o) (zN σ).toNat := by rw [hg, if_neg (by omega), show m = (zN σ).toNat by omega]
                              have lp_162 : ∀ (N_162 : Nat) (c : Int) (κ : zMem), (0 ≤ c ∧ c ≤ zN σ) → (zE κ σ [62]) → (∀ j, 0 ≤ j → j < zN σ → (j < c → κ 62 j = zHm σ z row o (zN σ).toNat k j * zWt σ k j (zHo (zHv σ z row k) o) / zGw σ k (zHo (zHv σ z row k) o) (zN σ).toNat) ∧ (c ≤ j → κ 62 j = zHm σ z row o (zN σ).toNat k j)) → (zN σ - c).toNat < N_162 → Gd K 0 0 162 [some (.ref (ad 0)), some (.int (zI z)), some (.int (zI row)), some (.int (zI o)), some (.int (zI (zRp σ z row))), some (.int (zI (k : Int))), some (.int (zI (zHo (zHv σ z row k) o))), some (.int (zI (zGw σ k (zHo (zHv σ z row k) o) (zN σ).toNat))), some (.int (zI c))] [] (wM ad (z_t K) κ) := by
                                intro N_162
                                induction N_162 with
                                | zero => intro c κ hc4 hE4 hm4 hm_162; exact absurd hm_162 (Nat.not_lt_zero _)
                                | succ N_162 ih_162 =>
                                  intro c κ hc4 hE4 hm4 hm_162
                                  have e60 := hE4 60 (by decide)
                                  have e7 := hE4 7 (by decide)
                                  have e9 := hE4 9 (by decide)
                                  have eW := zWt_E hE4 (by decide) k c (zHo (zHv σ z row k) o)
                                  have hwt := zWt_b hmp k c (zHo (zHv σ z row k) o)
                                  have hgw := zGw_b hmp k (zHo (zHv σ z row k) o) (zN σ).toNat
                                  have hcur := fun q : c < zN σ => (hm4 c (by omega) q).2 (by omega)
                                  have hmbc := fun q : c < zN σ => hmb k c (by omega) q
                                  have hpr := fun q : c < zN σ => Int.mul_le_mul (hmbc q).2 hwt.2 (by omega) (by omega)
                                  have hpr0 := fun q : c < zN σ => Int.mul_nonneg (hmbc q).1 (show 0 ≤ zWt σ k c (zHo (zHv σ z row k) o) by omega)
                                  have hmp4 : zMp κ := by unfold zMp; rw [hE4 8 (by decide)]; exact hmp
                                  refine z_iload C (z_d dtX8_hear_2 1 rfl) rfl ?_
                                  refine z_aload_n C (z_d dtX8_hear_2 2 rfl) rfl ?_
                                  refine gf_X8_83 C (z_d dtX8_hear_2 3 rfl) ?_
                                  try simp (decide := true) only [zS_s, zS_o, zC, e60, e7, e9]
                                  refine z_icmp_ge (tgt := 207) C (z_d dtX8_hear_2 4 rfl) (by decide) (by omega) (fun h_168 => ?_) (fun h_168 => ?_)
                                  · refine z_iinc5 C (z_d dtX8_hear_2 25 rfl) rfl ?_
                                    refine z_goto (tgt := 71) C (z_d dtX8_hear_2 26 rfl) (by decide) ?_
                                    refine z_drop6 ?_
                                    refine z_drop7 ?_
                                    refine z_drop8 ?_
                                    exact ih_71 (k + 1) _ _ (by omega) (by first | exact hE4 | exact hE2) (fun j a b => by
                                            rw [zHm]
                                            dsimp only
                                            first
                                              | (rw [if_pos ⟨by omega, by omega⟩]; exact (hm4 j a b).1 (by omega))
                                              | (rw [if_neg (fun q => by omega)]; exact hm2 j a b)) (by omega)
                                  · refine z_aload_n C (z_d dtX8_hear_2 5 rfl) rfl ?_
                                    refine gf_X8_39 C (z_d dtX8_hear_2 6 rfl) ?_
                                    refine z_iload C (z_d dtX8_hear_2 7 rfl) rfl ?_
                                    refine z_aload_n C (z_d dtX8_hear_2 8 rfl) rfl ?_
                                    refine gf_X8_39 C (z_d dtX8_hear_2 9 rfl) ?_
                                    refine z_iload C (z_d dtX8_hear_2 10 rfl) rfl ?_
                                    refine al_M9 C (z_d dtX8_hear_2 11 rfl) (by omega) ?_
                                    try simp (decide := true) only [zS_s, zS_o, zC, e60, e7, e9]
                                    refine z_topL (hcur (by omega)) ?_
                                    refine z_aload_n C (z_d dtX8_hear_2 12 rfl) rfl ?_
                                    refine z_iload C (z_d dtX8_hear_2 13 rfl) rfl ?_
                                    refine z_iload C (z_d dtX8_hear_2 14 rfl) rfl ?_
                                    refine z_iload C (z_d dtX8_hear_2 15 rfl) rfl ?_
                                    refine z_callV C (z_d dtX8_hear_2 16 rfl) (k_X8_weightOf  (by omega) (by omega) (by omega)) cal_X8_weightOf gw_18_8 rfl 0 8 rfl rfl rfl rfl hR ⟨rfl, rfl, rfl, rfl⟩ rfl (fun r_191 w_191 h_191 => ?_)
                                    obtain ⟨rfl, rfl⟩ := h_191
                                    rw [eW]
                                    refine z_i2l C (z_d dtX8_hear_2 17 rfl) (by omega) ?_
                                    refine z_lmul C (z_d dtX8_hear_2 18 rfl) ?_
                                    refine z_iload C (z_d dtX8_hear_2 19 rfl) rfl ?_
                                    refine z_i2l C (z_d dtX8_hear_2 20 rfl) (by omega) ?_
                                    refine z_ldiv C (z_d dtX8_hear_2 21 rfl) (by omega) ?_
                                    refine as_M9 C (z_d dtX8_hear_2 22 rfl) (by omega) ?_
                                    refine z_iinc8 C (z_d dtX8_hear_2 23 rfl) rfl ?_
                                    refine z_goto (tgt := 162) C (z_d dtX8_hear_2 24 rfl) (by decide) ?_
                                    exact ih_162 _ _ (by omega) (zE_set hE4 (by decide)) (fun j a b => by
                                            rw [zS_s]
                                            constructor
                                            · intro q
                                              by_cases e : j = c
                                              · subst e; rw [zU_s]
                                              · rw [zU_n e]; exact (hm4 j a b).1 (by omega)
                                            · intro q
                                              rw [zU_n (by omega)]; exact (hm4 j a b).2 (by omega)) (by omega)
                              refine lp_162 _ _ _ ?_ ?_ ?_ (Nat.lt_succ_self _)
                              · exact (by omega)
                              · exact hE2
                              · exact (fun j a b => ⟨fun q => absurd q (by omega), fun _ => hm2 j a b⟩)
                            · refine z_aload_n C (z_d dtX8_hear_1 22 rfl) rfl ?_
                              refine z_iload C (z_d dtX8_hear_1 23 rfl) rfl ?_
                              refine z_iload C (z_d dtX8_hear_1 24 rfl) rfl ?_
                              refine z_iload C (z_d dtX8_hear_1 25 rfl) rfl ?_
                              refine z_callV C (z_d dtX8_hear_1 26 rfl) (k_X8_weightOf  (by omega) (by omega) (by omega)) cal_X8_weightOf gw_18_8 rfl 0 8 rfl rfl rfl rfl hR ⟨rfl, rfl, rfl, rfl⟩ rfl (fun r_128 w_128 h_128 => ?_)
                              obtain ⟨rfl, rfl⟩ := h_128
                              rw [eW]
                              refine z_iload C (z_d dtX8_hear_1 27 rfl) rfl ?_
                              refine z_icmp_le (tgt := 149) C (z_d dtX8_hear_1 28 rfl) (by decide) (by omega) (fun h_133 => ?_) (fun h_133 => ?_)
                              · refine z_iload C (z_d dtX8_hear_1 35 rfl) rfl ?_
                                refine z_istore7 C (z_d dtX8_hear_1 36 rfl) rfl ?_
                                refine z_iinc8 C (z_d dtX8_hear_1 37 rfl) rfl ?_
                                refine z_goto (tgt := 112) C (z_d dtX8_hear_1 38 rfl) (by decide) ?_
                                exact ih_112 (m + 1) _ _ (by omega) (by
                                        rw [if_neg (by omega), zGw]
                                        by_cases q : m = 0
                                        · subst q
                                          rw [if_pos rfl] at hg
                                          have e0 : zGw σ k (zHo (zHv σ z row k) o) 0 = 1 := rfl
                                          rw [e0]
                                          split <;> omega
                                        · rw [if_neg q] at hg
                                          split <;> omega) (by omega)
                              · refine z_aload_n C (z_d dtX8_hear_1 29 rfl) rfl ?_
                                refine z_iload C (z_d dtX8_hear_1 30 rfl) rfl ?_
                                refine z_iload C (z_d dtX8_hear_1 31 rfl) rfl ?_
                                refine z_iload C (z_d dtX8_hear_1 32 rfl) rfl ?_
                                refine z_callV C (z_d dtX8_hear_1 33 rfl) (k_X8_weightOf  (by omega) (by omega) (by omega)) cal_X8_weightOf gw_18_8 rfl 0 8 rfl rfl rfl rfl hR ⟨rfl, rfl, rfl, rfl⟩ rfl (fun r_143 w_143 h_143 => ?_)
                                obtain ⟨rfl, rfl⟩ := h_143
                                rw [eW]
                                refine z_goto (tgt := 151) C (z_d dtX8_hear_1 34 rfl) (by decide) ?_
                                refine z_istore7 C (z_d dtX8_hear_1 36 rfl) rfl ?_
                                refine z_iinc8 C (z_d dtX8_hear_1 37 rfl) rfl ?_
                                refine z_goto (tgt := 112) C (z_d dtX8_hear_1 38 rfl) (by decide) ?_
                                exact ih_112 (m + 1) _ _ (by omega) (by
                                        rw [if_neg (by omega), zGw]
                                        by_cases q : m = 0
                                        · subst q
                                          rw [if_pos rfl] at hg
                                          have e0 : zGw σ k (zHo (zHv σ z row k) o) 0 = 1 := rfl
                                          rw [e0]
                                          split <;> omega
                                        · rw [if_neg q] at hg
                                          split <;> omega) (by omega)
                        exact lp_112 _ 0 _ _ (by omega) rfl (Nat.lt_succ_self _)
              exact lp_71 _ 0 _ _ (by omega) hE (fun j a b => hm j a (by omega)) (Nat.lt_succ_self _)
            · refine z_aload_n C (z_d dtX8_hear_0 27 rfl) rfl ?_
              refine gf_X8_39 C (z_d dtX8_hear_0 28 rfl) ?_
              refine z_iload C (z_d dtX8_hear_0 29 rfl) rfl ?_
              refine z_ldc2 C gk_RX8_169 (z_d dtX8_hear_0 30 rfl) ?_
              refine as_M9 C (z_d dtX8_hear_0 31 rfl) (by omega) ?_
              refine z_iinc5 C (z_d dtX8_hear_0 32 rfl) rfl ?_
              refine z_goto (tgt := 43) C (z_d dtX8_hear_0 33 rfl) (by decide) ?_
              exact ih_43 _ _ (by omega) (zE_set hE (by decide)) (fun j a b => by
                      rw [zS_s]
                      by_cases e : j = c
                      · subst e; rw [zU_s]
                      · rw [zU_n e]; exact hm j a (by omega)) (by omega)
        exact lp_43 _ _ _ (by omega) zE_rf (fun j a b => absurd b (by omega)) (Nat.lt_succ_self _)
      · refine z_aload_n C (z_d dtX8_hear_0 17 rfl) rfl ?_
        refine z_iload C (z_d dtX8_hear_0 18 rfl) rfl ?_
        refine z_callV C (z_d dtX8_hear_0 19 rfl) (k_X8_meets  ) cal_X8_meets gw_17_3 rfl 0 8 rfl rfl rfl rfl hR ⟨rfl, rfl, rfl, rfl⟩ rfl (fun r_36 w_36 h_36 => ?_)
        obtain ⟨rfl, rfl⟩ := h_36
        exact ret _ _ _ _ (z_d dtX8_hear_0 20 rfl) (⟨_, rfl, Or.inr ⟨by omega, Or.inl ⟨by omega, rfl, rfl⟩⟩⟩) rfl
    · refine z_bipush C (z_d dtX8_hear_0 8 rfl) zb_m2 ?_
      exact ret _ _ _ _ (z_d dtX8_hear_0 9 rfl) (⟨σ, rfl, Or.inl ⟨by omega, rfl, rfl⟩⟩) rfl

set_option maxRecDepth 100000 in
set_option maxHeartbeats 4000000 in
theorem k_X8_sheet {l : Launch} {D : va_G} {t : Nat → ClassId} {ad : Nat → Nat} {σ : zMem} {z f n : Int} (ok : okM σ) (hz : -2147483648 ≤ z ∧ z < 2147483648) (hf : -2147483648 ≤ f ∧ f < 2147483648) (hn : -2147483648 ≤ n ∧ n < 2147483648) : z_Ci l D t yX8_sheet cX8_sheet 5 .int 2 42 0 0 [.ref (ad 0), .int (zI z), .int (zI f), .int (zI n)] (wM ad t σ) (fun r w => ∃ σ', w = wM ad t σ' ∧ ((¬ ((0 ≤ z ∧ z < 4) ∧ (0 ≤ f ∧ f < 3) ∧ n ≤ 240) ∧ r = -2 ∧ σ' = σ) ∨ (((0 ≤ z ∧ z < 4) ∧ (0 ≤ f ∧ f < 3) ∧ n ≤ 240) ∧ ((n < 0 ∧ r = -15 ∧ σ' = zS σ 19 (zC 5)) ∨ (0 ≤ n ∧ r = n ∧ σ' = zS (zS (zS (zS σ 16 (zU (σ 16) z 1)) 17 (zU (σ 17) z f)) 18 (zU (σ 18) z n)) 20 (fun i => if 240 * z ≤ i ∧ i < 240 * z + 240 then 0 else σ 20 i)))))) := by
  refine z_Ci_of (by decide +kernel) [some (.ref (ad 0)), some (.int (zI z)), some (.int (zI f)), some (.int (zI n)), none] rfl rfl (Nat.le_of_ble_eq_true rfl) fun K hl hD ht hR hnm C ret => ?_
  subst hl; subst hD; subst ht
  have ok2 := ok
  obtain ⟨⟨hw, h60, hs, h4, h5, h6, h7⟩, hmp, ⟨h9, hsum⟩, oW1, ⟨hle, hgi, hga⟩, oT1, ⟨h16, h17, h18, hit⟩⟩ := ok2
  have hN := zHw_N hw
  have hW := hw; unfold zHw at hW
  have hwh := zHw_wh hw
  refine z_iload_n C (z_d dtX8_sheet_0 0 rfl) rfl ?_
  refine z_callS C (z_d dtX8_sheet_0 1 rfl) (k_X8_isSheet  (by first | assumption | omega)) cal_X8_isSheet gw_16_16 rfl rfl hR ⟨rfl, rfl, rfl, rfl⟩ rfl (fun r_1 w_1 h_1 => ?_)
  obtain ⟨rfl, h_1⟩ := h_1
  refine z_if_eq (tgt := 23) C (z_d dtX8_sheet_0 2 rfl) (by decide) (by omega) (fun h_4 => ?_) (fun h_4 => ?_)
  · refine z_bipush C (z_d dtX8_sheet_0 11 rfl) zb_m2 ?_
    exact ret _ _ _ _ (z_d dtX8_sheet_0 12 rfl) (⟨σ, rfl, Or.inl ⟨by omega, rfl, rfl⟩⟩) rfl
  · refine z_iload_n C (z_d dtX8_sheet_0 3 rfl) rfl ?_
    refine z_iconst C (z_d dtX8_sheet_0 4 rfl) ?_
    refine z_iconst C (z_d dtX8_sheet_0 5 rfl) ?_
    refine z_callS C (z_d dtX8_sheet_0 6 rfl) (k_X8_in  (by first | assumption | omega) (by first | assumption | omega) (by first | assumption | omega)) cal_X8_in gw_8_19 rfl rfl hR ⟨rfl, rfl, rfl, rfl⟩ rfl (fun r_10 w_10 h_10 => ?_)
    obtain ⟨rfl, h_10⟩ := h_10
    refine z_if_eq (tgt := 23) C (z_d dtX8_sheet_0 7 rfl) (by decide) (by omega) (fun h_13 => ?_) (fun h_13 => ?_)
    · refine z_bipush C (z_d dtX8_sheet_0 11 rfl) zb_m2 ?_
      exact ret _ _ _ _ (z_d dtX8_sheet_0 12 rfl) (⟨σ, rfl, Or.inl ⟨by omega, rfl, rfl⟩⟩) rfl
    · refine z_iload_n C (z_d dtX8_sheet_0 8 rfl) rfl ?_
      refine z_sipush C (z_d dtX8_sheet_0 9 rfl) zs_240 ?_
      refine z_icmp_le (tgt := 26) C (z_d dtX8_sheet_0 10 rfl) (by decide) (by omega) (fun h_20 => ?_) (fun h_20 => ?_)
      · refine z_iload_n C (z_d dtX8_sheet_0 13 rfl) rfl ?_
        refine z_if_ge (tgt := 36) C (z_d dtX8_sheet_0 14 rfl) (by decide) (by omega) (fun h_27 => ?_) (fun h_27 => ?_)
        · refine z_aload_n C (z_d dtX8_sheet_0 19 rfl) rfl ?_
          refine gf_X8_64 C (z_d dtX8_sheet_0 20 rfl) ?_
          refine z_iload_n C (z_d dtX8_sheet_0 21 rfl) rfl ?_
          refine z_iconst C (z_d dtX8_sheet_0 22 rfl) ?_
          refine as_M16 C (z_d dtX8_sheet_0 23 rfl) (by omega) (by omega) ?_
          refine z_aload_n C (z_d dtX8_sheet_0 24 rfl) rfl ?_
          refine gf_X8_67 C (z_d dtX8_sheet_0 25 rfl) ?_
          refine z_iload_n C (z_d dtX8_sheet_0 26 rfl) rfl ?_
          refine z_iload_n C (z_d dtX8_sheet_0 27 rfl) rfl ?_
          refine as_M17 C (z_d dtX8_sheet_0 28 rfl) (by omega) ?_
          refine z_aload_n C (z_d dtX8_sheet_0 29 rfl) rfl ?_
          refine gf_X8_70 C (z_d dtX8_sheet_0 30 rfl) ?_
          refine z_iload_n C (z_d dtX8_sheet_0 31 rfl) rfl ?_
          refine z_iload_n C (z_d dtX8_sheet_0 32 rfl) rfl ?_
          refine as_M18 C (z_d dtX8_sheet_0 33 rfl) (by omega) ?_
          refine z_iconst C (z_d dtX8_sheet_0 34 rfl) ?_
          refine z_istore4 C (z_d dtX8_sheet_0 35 rfl) rfl ?_
          have lp_60 : ∀ (N_60 : Nat) (i : Nat) (c : Int) (μ : zMem), (c = i ∧ i ≤ 240) → (μ = zS (zS (zS (zS σ 16 (zU (σ 16) z 1)) 17 (zU (σ 17) z f)) 18 (zU (σ 18) z n)) 20 (fun q => if 240 * z ≤ q ∧ q < 240 * z + i then 0 else σ 20 q)) → 240 - i < N_60 → Gd K 0 0 60 [some (.ref (ad 0)), some (.int (zI z)), some (.int (zI f)), some (.int (zI n)), some (.int (zI c))] [] (wM ad (z_t K) μ) := by
            intro N_60
            induction N_60 with
            | zero => intro i c μ hi hm hm_60; exact absurd hm_60 (Nat.not_lt_zero _)
            | succ N_60 ih_60 =>
              intro i c μ hi hm hm_60
              obtain ⟨rfl, hi⟩ := hi
              refine z_iload C (z_d dtX8_sheet_0 36 rfl) rfl ?_
              refine z_sipush C (z_d dtX8_sheet_0 37 rfl) zs_240 ?_
              refine z_icmp_ge (tgt := 88) C (z_d dtX8_sheet_0 38 rfl) (by decide) (by omega) (fun h_65 => ?_) (fun h_65 => ?_)
              · refine z_iload_n C (z_d dtX8_sheet_1 10 rfl) rfl ?_
                exact ret _ _ _ _ (z_d dtX8_sheet_1 11 rfl) (⟨_, rfl, Or.inr ⟨by omega, Or.inr ⟨by omega, rfl, by rw [hm, show i = 240 by omega]; rfl⟩⟩⟩) rfl
              · refine z_aload_n C (z_d dtX8_sheet_0 39 rfl) rfl ?_
                refine gf_X8_73 C (z_d dtX8_sheet_1 0 rfl) ?_
                refine z_sipush C (z_d dtX8_sheet_1 1 rfl) zs_240 ?_
                refine z_iload_n C (z_d dtX8_sheet_1 2 rfl) rfl ?_
                refine z_imul C (z_d dtX8_sheet_1 3 rfl) ?_
                refine z_iload C (z_d dtX8_sheet_1 4 rfl) rfl ?_
                refine z_iadd C (z_d dtX8_sheet_1 5 rfl) ?_
                refine z_iconst C (z_d dtX8_sheet_1 6 rfl) ?_
                refine as_M19 C (z_d dtX8_sheet_1 7 rfl) (by omega) ?_
                refine z_iinc4 C (z_d dtX8_sheet_1 8 rfl) rfl ?_
                refine z_goto (tgt := 60) C (z_d dtX8_sheet_1 9 rfl) (by decide) ?_
                exact ih_60 (i + 1) _ _ (by omega) (by
                        rw [hm, zS_zS, zS_s]
                        congr 1
                        funext q
                        unfold zU
                        by_cases e : q = 240 * z + i
                        · rw [if_pos e, if_pos (by omega)]
                        · rw [if_neg e]
                          dsimp only
                          by_cases p : 240 * z ≤ q ∧ q < 240 * z + i
                          · rw [if_pos p, if_pos (by omega)]
                          · rw [if_neg p, if_neg (by omega)]) (by omega)
          exact lp_60 _ 0 _ _ (by omega) (Eq.symm (zS_eq (fun q => by rw [if_neg (by omega)]; rfl))) (Nat.lt_succ_self _)
        · refine z_aload_n C (z_d dtX8_sheet_0 15 rfl) rfl ?_
          refine z_iconst C (z_d dtX8_sheet_0 16 rfl) ?_
          refine z_callV C (z_d dtX8_sheet_0 17 rfl) (k_X8_meets  ) cal_X8_meets gw_17_3 rfl 0 8 rfl rfl rfl rfl hR ⟨rfl, rfl, rfl, rfl⟩ rfl (fun r_32 w_32 h_32 => ?_)
          obtain ⟨rfl, rfl⟩ := h_32
          exact ret _ _ _ _ (z_d dtX8_sheet_0 18 rfl) (⟨_, rfl, Or.inr ⟨by omega, Or.inl ⟨by omega, rfl, rfl⟩⟩⟩) rfl
      · refine z_bipush C (z_d dtX8_sheet_0 11 rfl) zb_m2 ?_
        exact ret _ _ _ _ (z_d dtX8_sheet_0 12 rfl) (⟨σ, rfl, Or.inl ⟨by omega, rfl, rfl⟩⟩) rfl

set_option maxRecDepth 100000 in
set_option maxHeartbeats 4000000 in
theorem k_X8_lose {l : Launch} {D : va_G} {t : Nat → ClassId} {ad : Nat → Nat} {σ : zMem} {z : Int} (ok : okM σ) (hz : -2147483648 ≤ z ∧ z < 2147483648) : z_Ci l D t yX8_lose cX8_lose 2 .int 2 42 0 0 [.ref (ad 0), .int (zI z)] (wM ad t σ) (fun r w => ∃ σ', w = wM ad t σ' ∧ ((¬ (0 ≤ z ∧ z < 4) ∧ r = -2 ∧ σ' = σ) ∨ ((0 ≤ z ∧ z < 4) ∧ ((σ 16 z = 0 ∧ r = -11 ∧ σ' = zS σ 19 (zC 1)) ∨ (σ 16 z = 1 ∧ r = σ 18 z ∧ σ' = zS σ 16 (zU (σ 16) z 0)))))) := by
  refine z_Ci_of (by decide +kernel) [some (.ref (ad 0)), some (.int (zI z))] rfl rfl (Nat.le_of_ble_eq_true rfl) fun K hl hD ht hR hnm C ret => ?_
  subst hl; subst hD; subst ht
  have ok2 := ok
  obtain ⟨⟨hw, h60, hs, h4, h5, h6, h7⟩, hmp, ⟨h9, hsum⟩, oW1, ⟨hle, hgi, hga⟩, oT1, ⟨h16, h17, h18, hit⟩⟩ := ok2
  have hN := zHw_N hw
  have hW := hw; unfold zHw at hW
  have hwh := zHw_wh hw
  have h16z := h16 z
  refine z_iload_n C (z_d dtX8_lose_0 0 rfl) rfl ?_
  refine z_callS C (z_d dtX8_lose_0 1 rfl) (k_X8_isSheet  (by first | assumption | omega)) cal_X8_isSheet gw_16_16 rfl rfl hR ⟨rfl, rfl, rfl, rfl⟩ rfl (fun r_1 w_1 h_1 => ?_)
  obtain ⟨rfl, h_1⟩ := h_1
  refine z_if_ne (tgt := 10) C (z_d dtX8_lose_0 2 rfl) (by decide) (by omega) (fun h_4 => ?_) (fun h_4 => ?_)
  · refine z_aload_n C (z_d dtX8_lose_0 5 rfl) rfl ?_
    refine gf_X8_64 C (z_d dtX8_lose_0 6 rfl) ?_
    refine z_iload_n C (z_d dtX8_lose_0 7 rfl) rfl ?_
    refine al_M16 C (z_d dtX8_lose_0 8 rfl) (by omega) ?_
    try simp (decide := true) only [zS_s, zS_o, zC]
    refine z_if_ne (tgt := 25) C (z_d dtX8_lose_0 9 rfl) (by decide) (by omega) (fun h_16 => ?_) (fun h_16 => ?_)
    · refine z_aload_n C (z_d dtX8_lose_0 14 rfl) rfl ?_
      refine gf_X8_64 C (z_d dtX8_lose_0 15 rfl) ?_
      refine z_iload_n C (z_d dtX8_lose_0 16 rfl) rfl ?_
      refine z_iconst C (z_d dtX8_lose_0 17 rfl) ?_
      refine as_M16 C (z_d dtX8_lose_0 18 rfl) (by omega) (by omega) ?_
      refine z_aload_n C (z_d dtX8_lose_0 19 rfl) rfl ?_
      refine gf_X8_70 C (z_d dtX8_lose_0 20 rfl) ?_
      refine z_iload_n C (z_d dtX8_lose_0 21 rfl) rfl ?_
      refine al_M18 C (z_d dtX8_lose_0 22 rfl) (by omega) ?_
      try simp (decide := true) only [zS_s, zS_o, zC]
      exact ret _ _ _ _ (z_d dtX8_lose_0 23 rfl) (⟨_, rfl, Or.inr ⟨by omega, Or.inr ⟨by omega, rfl, rfl⟩⟩⟩) rfl
    · refine z_aload_n C (z_d dtX8_lose_0 10 rfl) rfl ?_
      refine z_iconst C (z_d dtX8_lose_0 11 rfl) ?_
      refine z_callV C (z_d dtX8_lose_0 12 rfl) (k_X8_meets  ) cal_X8_meets gw_17_3 rfl 0 8 rfl rfl rfl rfl hR ⟨rfl, rfl, rfl, rfl⟩ rfl (fun r_21 w_21 h_21 => ?_)
      obtain ⟨rfl, rfl⟩ := h_21
      exact ret _ _ _ _ (z_d dtX8_lose_0 13 rfl) (⟨_, rfl, Or.inr ⟨by omega, Or.inl ⟨by omega, rfl, rfl⟩⟩⟩) rfl
  · refine z_bipush C (z_d dtX8_lose_0 3 rfl) zb_m2 ?_
    exact ret _ _ _ _ (z_d dtX8_lose_0 4 rfl) (⟨σ, rfl, Or.inl ⟨by omega, rfl, rfl⟩⟩) rfl

set_option maxRecDepth 100000 in
set_option maxHeartbeats 4000000 in
theorem k_X8_lacks {l : Launch} {D : va_G} {t : Nat → ClassId} {ad : Nat → Nat} {σ : zMem} {z f i : Int} (hz : 0 ≤ z ∧ z < 4) (h18 : ∀ i, 0 ≤ σ 18 i ∧ σ 18 i ≤ 240) (h16 : zBo σ 16) (hff : ∀ i, 0 ≤ σ 17 i ∧ σ 17 i ≤ 2) (hf : -2147483648 ≤ f ∧ f < 2147483648) (hi : -2147483648 ≤ i ∧ i < 2147483648) : z_Ci l D t yX8_lacks cX8_lacks 4 .int 1 22 0 0 [.ref (ad 0), .int (zI z), .int (zI f), .int (zI i)] (wM ad t σ) (fun r w => w = wM ad t σ ∧ r = zIp σ z f i) := by
  refine z_Ci_of (by decide +kernel) [some (.ref (ad 0)), some (.int (zI z)), some (.int (zI f)), some (.int (zI i))] rfl rfl (Nat.le_of_ble_eq_true rfl) fun K hl hD ht hR hnm C ret => ?_
  subst hl; subst hD; subst ht
  have h16z := h16 z
  have h18z := h18 z
  have hffz := hff z
  refine z_aload_n C (z_d dtX8_lacks_0 0 rfl) rfl ?_
  refine gf_X8_64 C (z_d dtX8_lacks_0 1 rfl) ?_
  refine z_iload_n C (z_d dtX8_lacks_0 2 rfl) rfl ?_
  refine al_M16 C (z_d dtX8_lacks_0 3 rfl) (by omega) ?_
  refine z_if_ne (tgt := 13) C (z_d dtX8_lacks_0 4 rfl) (by decide) (by omega) (fun h_6 => ?_) (fun h_6 => ?_)
  · refine z_aload_n C (z_d dtX8_lacks_0 7 rfl) rfl ?_
    refine gf_X8_67 C (z_d dtX8_lacks_0 8 rfl) ?_
    refine z_iload_n C (z_d dtX8_lacks_0 9 rfl) rfl ?_
    refine al_M17 C (z_d dtX8_lacks_0 10 rfl) (by omega) ?_
    refine z_iload_n C (z_d dtX8_lacks_0 11 rfl) rfl ?_
    refine z_icmp_eq (tgt := 27) C (z_d dtX8_lacks_0 12 rfl) (by decide) (by omega) (fun h_20 => ?_) (fun h_20 => ?_)
    · refine z_iload_n C (z_d dtX8_lacks_0 15 rfl) rfl ?_
      refine z_iconst C (z_d dtX8_lacks_0 16 rfl) ?_
      refine z_aload_n C (z_d dtX8_lacks_0 17 rfl) rfl ?_
      refine gf_X8_70 C (z_d dtX8_lacks_0 18 rfl) ?_
      refine z_iload_n C (z_d dtX8_lacks_0 19 rfl) rfl ?_
      refine al_M18 C (z_d dtX8_lacks_0 20 rfl) (by omega) ?_
      refine z_iconst C (z_d dtX8_lacks_0 21 rfl) ?_
      refine z_isub C (z_d dtX8_lacks_0 22 rfl) ?_
      refine z_callS C (z_d dtX8_lacks_0 23 rfl) (k_X8_in  (by first | assumption | omega) (by first | assumption | omega) (by first | assumption | omega)) cal_X8_in gw_8_19 rfl rfl hR ⟨rfl, rfl, rfl, rfl⟩ rfl (fun r_37 w_37 h_37 => ?_)
      obtain ⟨rfl, h_37⟩ := h_37
      refine z_if_eq (tgt := 47) C (z_d dtX8_lacks_0 24 rfl) (by decide) (by omega) (fun h_40 => ?_) (fun h_40 => ?_)
      · refine z_iconst C (z_d dtX8_lacks_0 27 rfl) ?_
        exact ret _ _ _ _ (z_d dtX8_lacks_0 28 rfl) (⟨rfl, by
            unfold zIp
            first
              | rw [if_pos (by omega)]
              | rw [if_neg (by omega), if_pos (by omega)]
              | rw [if_neg (by omega), if_neg (by omega), if_pos (by omega)]
              | rw [if_neg (by omega), if_neg (by omega), if_neg (by omega)]⟩) rfl
      · refine z_iconst C (z_d dtX8_lacks_0 25 rfl) ?_
        refine z_goto (tgt := 48) C (z_d dtX8_lacks_0 26 rfl) (by decide) ?_
        exact ret _ _ _ _ (z_d dtX8_lacks_0 28 rfl) (⟨rfl, by
            unfold zIp
            first
              | rw [if_pos (by omega)]
              | rw [if_neg (by omega), if_pos (by omega)]
              | rw [if_neg (by omega), if_neg (by omega), if_pos (by omega)]
              | rw [if_neg (by omega), if_neg (by omega), if_neg (by omega)]⟩) rfl
    · refine z_iconst C (z_d dtX8_lacks_0 13 rfl) ?_
      refine z_goto (tgt := 48) C (z_d dtX8_lacks_0 14 rfl) (by decide) ?_
      exact ret _ _ _ _ (z_d dtX8_lacks_0 28 rfl) (⟨rfl, by
          unfold zIp
          first
            | rw [if_pos (by omega)]
            | rw [if_neg (by omega), if_pos (by omega)]
            | rw [if_neg (by omega), if_neg (by omega), if_pos (by omega)]
            | rw [if_neg (by omega), if_neg (by omega), if_neg (by omega)]⟩) rfl
  · refine z_iconst C (z_d dtX8_lacks_0 5 rfl) ?_
    refine z_goto (tgt := 48) C (z_d dtX8_lacks_0 6 rfl) (by decide) ?_
    exact ret _ _ _ _ (z_d dtX8_lacks_0 28 rfl) (⟨rfl, by
        unfold zIp
        first
          | rw [if_pos (by omega)]
          | rw [if_neg (by omega), if_pos (by omega)]
          | rw [if_neg (by omega), if_neg (by omega), if_pos (by omega)]
          | rw [if_neg (by omega), if_neg (by omega), if_neg (by omega)]⟩) rfl

set_option maxRecDepth 100000 in
set_option maxHeartbeats 4000000 in
theorem k_X8_lay {l : Launch} {D : va_G} {t : Nat → ClassId} {ad : Nat → Nat} {σ : zMem} {z f i v : Int} (ok : okM σ) (hz : -2147483648 ≤ z ∧ z < 2147483648) (hf : -2147483648 ≤ f ∧ f < 2147483648) (hi : -2147483648 ≤ i ∧ i < 2147483648) (hv : -2147483648 ≤ v ∧ v < 2147483648) : z_Ci l D t yX8_lay cX8_lay 6 .int 2 45 0 0 [.ref (ad 0), .int (zI z), .int (zI f), .int (zI i), .int (zI v)] (wM ad t σ) (fun r w => ∃ σ', w = wM ad t σ' ∧ ((¬ ((0 ≤ z ∧ z < 4) ∧ (0 ≤ f ∧ f < 3)) ∧ r = -2 ∧ σ' = σ) ∨ (((0 ≤ z ∧ z < 4) ∧ (0 ≤ f ∧ f < 3)) ∧ ((¬ zIp σ z f i = 0 ∧ r = -10 - zIp σ z f i ∧ σ' = zS σ 19 (zC (zIp σ z f i))) ∨ (zIp σ z f i = 0 ∧ r = 1 ∧ σ' = zS σ 20 (zU (σ 20) (240 * z + i) (zNr f v))))))) := by
  refine z_Ci_of (by decide +kernel) [some (.ref (ad 0)), some (.int (zI z)), some (.int (zI f)), some (.int (zI i)), some (.int (zI v)), none] rfl rfl (Nat.le_of_ble_eq_true rfl) fun K hl hD ht hR hnm C ret => ?_
  subst hl; subst hD; subst ht
  have ok2 := ok
  obtain ⟨⟨hw, h60, hs, h4, h5, h6, h7⟩, hmp, ⟨h9, hsum⟩, oW1, ⟨hle, hgi, hga⟩, oT1, ⟨h16, h17, h18, hit⟩⟩ := ok2
  have hN := zHw_N hw
  have hW := hw; unfold zHw at hW
  have hwh := zHw_wh hw
  have hip := zIp_m h18 z f i
  refine z_iload_n C (z_d dtX8_lay_0 0 rfl) rfl ?_
  refine z_callS C (z_d dtX8_lay_0 1 rfl) (k_X8_isSheet  (by first | assumption | omega)) cal_X8_isSheet gw_16_16 rfl rfl hR ⟨rfl, rfl, rfl, rfl⟩ rfl (fun r_1 w_1 h_1 => ?_)
  obtain ⟨rfl, h_1⟩ := h_1
  refine z_if_eq (tgt := 16) C (z_d dtX8_lay_0 2 rfl) (by decide) (by omega) (fun h_4 => ?_) (fun h_4 => ?_)
  · refine z_bipush C (z_d dtX8_lay_0 8 rfl) zb_m2 ?_
    exact ret _ _ _ _ (z_d dtX8_lay_0 9 rfl) (⟨σ, rfl, Or.inl ⟨by omega, rfl, rfl⟩⟩) rfl
  · refine z_iload_n C (z_d dtX8_lay_0 3 rfl) rfl ?_
    refine z_iconst C (z_d dtX8_lay_0 4 rfl) ?_
    refine z_iconst C (z_d dtX8_lay_0 5 rfl) ?_
    refine z_callS C (z_d dtX8_lay_0 6 rfl) (k_X8_in  (by first | assumption | omega) (by first | assumption | omega) (by first | assumption | omega)) cal_X8_in gw_8_19 rfl rfl hR ⟨rfl, rfl, rfl, rfl⟩ rfl (fun r_10 w_10 h_10 => ?_)
    obtain ⟨rfl, h_10⟩ := h_10
    refine z_if_ne (tgt := 19) C (z_d dtX8_lay_0 7 rfl) (by decide) (by omega) (fun h_13 => ?_) (fun h_13 => ?_)
    · refine z_aload_n C (z_d dtX8_lay_0 10 rfl) rfl ?_
      refine z_iload_n C (z_d dtX8_lay_0 11 rfl) rfl ?_
      refine z_iload_n C (z_d dtX8_lay_0 12 rfl) rfl ?_
      refine z_iload_n C (z_d dtX8_lay_0 13 rfl) rfl ?_
      refine z_callV C (z_d dtX8_lay_0 14 rfl) (k_X8_lacks  (by omega) (by first | assumption | omega) (by first | assumption | omega) h17 (by first | assumption | omega) (by first | assumption | omega)) cal_X8_lacks gw_34_15 rfl 0 8 rfl rfl rfl rfl hR ⟨rfl, rfl, rfl, rfl⟩ rfl (fun r_23 w_23 h_23 => ?_)
      obtain ⟨rfl, rfl⟩ := h_23
      refine z_istore5 C (z_d dtX8_lay_0 15 rfl) rfl ?_
      refine z_iload C (z_d dtX8_lay_0 16 rfl) rfl ?_
      refine z_if_le (tgt := 40) C (z_d dtX8_lay_0 17 rfl) (by decide) (by omega) (fun h_30 => ?_) (fun h_30 => ?_)
      · refine z_aload_n C (z_d dtX8_lay_0 22 rfl) rfl ?_
        refine gf_X8_73 C (z_d dtX8_lay_0 23 rfl) ?_
        refine z_sipush C (z_d dtX8_lay_0 24 rfl) zs_240 ?_
        refine z_iload_n C (z_d dtX8_lay_0 25 rfl) rfl ?_
        refine z_imul C (z_d dtX8_lay_0 26 rfl) ?_
        refine z_iload_n C (z_d dtX8_lay_0 27 rfl) rfl ?_
        refine z_iadd C (z_d dtX8_lay_0 28 rfl) ?_
        refine z_iload_n C (z_d dtX8_lay_0 29 rfl) rfl ?_
        refine z_if_ne (tgt := 61) C (z_d dtX8_lay_0 30 rfl) (by decide) (by omega) (fun h_52 => ?_) (fun h_52 => ?_)
        · refine z_iload_n C (z_d dtX8_lay_0 34 rfl) rfl ?_
          refine z_iconst C (z_d dtX8_lay_0 35 rfl) ?_
          refine z_icmp_ne (tgt := 72) C (z_d dtX8_lay_0 36 rfl) (by decide) (by omega) (fun h_63 => ?_) (fun h_63 => ?_)
          · refine z_iload C (z_d dtX8_lay_1 0 rfl) rfl ?_
            try rw [show ((zI v).toInt8.toInt32).toInt = zNr f v by unfold zNr; rw [if_pos (by omega)]]
            try rw [show ((zI v).toInt16.toInt32).toInt = zNr f v by unfold zNr; rw [if_neg (by omega), if_pos (by omega)]]
            refine as_M19 C (z_d dtX8_lay_1 1 rfl) (by have := (hip.2 (by omega)).1; omega) ?_
            refine z_iconst C (z_d dtX8_lay_1 2 rfl) ?_
            exact ret _ _ _ _ (z_d dtX8_lay_1 3 rfl) (⟨_, rfl, Or.inr ⟨by omega, Or.inr ⟨by omega, rfl, by first | rfl | (rw [zNr, if_neg (by omega), if_neg (by omega)])⟩⟩⟩) rfl
          · refine z_iload C (z_d dtX8_lay_0 37 rfl) rfl ?_
            refine z_i2s C (z_d dtX8_lay_0 38 rfl) (zI_of _).symm ?_
            refine z_goto (tgt := 74) C (z_d dtX8_lay_0 39 rfl) (by decide) ?_
            try rw [show ((zI v).toInt8.toInt32).toInt = zNr f v by unfold zNr; rw [if_pos (by omega)]]
            try rw [show ((zI v).toInt16.toInt32).toInt = zNr f v by unfold zNr; rw [if_neg (by omega), if_pos (by omega)]]
            refine as_M19 C (z_d dtX8_lay_1 1 rfl) (by have := (hip.2 (by omega)).1; omega) ?_
            refine z_iconst C (z_d dtX8_lay_1 2 rfl) ?_
            exact ret _ _ _ _ (z_d dtX8_lay_1 3 rfl) (⟨_, rfl, Or.inr ⟨by omega, Or.inr ⟨by omega, rfl, by first | rfl | (rw [zNr, if_neg (by omega), if_neg (by omega)])⟩⟩⟩) rfl
        · refine z_iload C (z_d dtX8_lay_0 31 rfl) rfl ?_
          refine z_i2b C (z_d dtX8_lay_0 32 rfl) (zI_of _).symm ?_
          refine z_goto (tgt := 74) C (z_d dtX8_lay_0 33 rfl) (by decide) ?_
          try rw [show ((zI v).toInt8.toInt32).toInt = zNr f v by unfold zNr; rw [if_pos (by omega)]]
          try rw [show ((zI v).toInt16.toInt32).toInt = zNr f v by unfold zNr; rw [if_neg (by omega), if_pos (by omega)]]
          refine as_M19 C (z_d dtX8_lay_1 1 rfl) (by have := (hip.2 (by omega)).1; omega) ?_
          refine z_iconst C (z_d dtX8_lay_1 2 rfl) ?_
          exact ret _ _ _ _ (z_d dtX8_lay_1 3 rfl) (⟨_, rfl, Or.inr ⟨by omega, Or.inr ⟨by omega, rfl, by first | rfl | (rw [zNr, if_neg (by omega), if_neg (by omega)])⟩⟩⟩) rfl
      · refine z_aload_n C (z_d dtX8_lay_0 18 rfl) rfl ?_
        refine z_iload C (z_d dtX8_lay_0 19 rfl) rfl ?_
        refine z_callV C (z_d dtX8_lay_0 20 rfl) (k_X8_meets  ) cal_X8_meets gw_17_3 rfl 0 8 rfl rfl rfl rfl hR ⟨rfl, rfl, rfl, rfl⟩ rfl (fun r_36 w_36 h_36 => ?_)
        obtain ⟨rfl, rfl⟩ := h_36
        exact ret _ _ _ _ (z_d dtX8_lay_0 21 rfl) (⟨_, rfl, Or.inr ⟨by omega, Or.inl ⟨by omega, rfl, rfl⟩⟩⟩) rfl
    · refine z_bipush C (z_d dtX8_lay_0 8 rfl) zb_m2 ?_
      exact ret _ _ _ _ (z_d dtX8_lay_0 9 rfl) (⟨σ, rfl, Or.inl ⟨by omega, rfl, rfl⟩⟩) rfl

set_option maxRecDepth 100000 in
set_option maxHeartbeats 4000000 in
theorem k_X8_get {l : Launch} {D : va_G} {t : Nat → ClassId} {ad : Nat → Nat} {σ : zMem} {z f i : Int} (ok : okM σ) (hz : -2147483648 ≤ z ∧ z < 2147483648) (hf : -2147483648 ≤ f ∧ f < 2147483648) (hi : -2147483648 ≤ i ∧ i < 2147483648) : z_Ci l D t yX8_get cX8_get 5 .int 2 45 0 0 [.ref (ad 0), .int (zI z), .int (zI f), .int (zI i)] (wM ad t σ) (fun r w => ∃ σ', w = wM ad t σ' ∧ ((¬ ((0 ≤ z ∧ z < 4) ∧ (0 ≤ f ∧ f < 3)) ∧ r = -2147483648 ∧ σ' = σ) ∨ (((0 ≤ z ∧ z < 4) ∧ (0 ≤ f ∧ f < 3)) ∧ ((¬ zIp σ z f i = 0 ∧ r = -2147483648 ∧ σ' = zS σ 19 (zC (zIp σ z f i))) ∨ (zIp σ z f i = 0 ∧ r = σ 20 (240 * z + i) ∧ σ' = σ))))) := by
  refine z_Ci_of (by decide +kernel) [some (.ref (ad 0)), some (.int (zI z)), some (.int (zI f)), some (.int (zI i)), none] rfl rfl (Nat.le_of_ble_eq_true rfl) fun K hl hD ht hR hnm C ret => ?_
  subst hl; subst hD; subst ht
  have ok2 := ok
  obtain ⟨⟨hw, h60, hs, h4, h5, h6, h7⟩, hmp, ⟨h9, hsum⟩, oW1, ⟨hle, hgi, hga⟩, oT1, ⟨h16, h17, h18, hit⟩⟩ := ok2
  have hN := zHw_N hw
  have hW := hw; unfold zHw at hW
  have hwh := zHw_wh hw
  have hip := zIp_m h18 z f i
  refine z_iload_n C (z_d dtX8_get_0 0 rfl) rfl ?_
  refine z_callS C (z_d dtX8_get_0 1 rfl) (k_X8_isSheet  (by first | assumption | omega)) cal_X8_isSheet gw_16_16 rfl rfl hR ⟨rfl, rfl, rfl, rfl⟩ rfl (fun r_1 w_1 h_1 => ?_)
  obtain ⟨rfl, h_1⟩ := h_1
  refine z_if_eq (tgt := 16) C (z_d dtX8_get_0 2 rfl) (by decide) (by omega) (fun h_4 => ?_) (fun h_4 => ?_)
  · refine z_ldc C gk_RX8_202 (z_d dtX8_get_0 8 rfl) ?_
    exact ret _ _ _ _ (z_d dtX8_get_0 9 rfl) (⟨σ, rfl, Or.inl ⟨by omega, rfl, rfl⟩⟩) rfl
  · refine z_iload_n C (z_d dtX8_get_0 3 rfl) rfl ?_
    refine z_iconst C (z_d dtX8_get_0 4 rfl) ?_
    refine z_iconst C (z_d dtX8_get_0 5 rfl) ?_
    refine z_callS C (z_d dtX8_get_0 6 rfl) (k_X8_in  (by first | assumption | omega) (by first | assumption | omega) (by first | assumption | omega)) cal_X8_in gw_8_19 rfl rfl hR ⟨rfl, rfl, rfl, rfl⟩ rfl (fun r_10 w_10 h_10 => ?_)
    obtain ⟨rfl, h_10⟩ := h_10
    refine z_if_ne (tgt := 19) C (z_d dtX8_get_0 7 rfl) (by decide) (by omega) (fun h_13 => ?_) (fun h_13 => ?_)
    · refine z_aload_n C (z_d dtX8_get_0 10 rfl) rfl ?_
      refine z_iload_n C (z_d dtX8_get_0 11 rfl) rfl ?_
      refine z_iload_n C (z_d dtX8_get_0 12 rfl) rfl ?_
      refine z_iload_n C (z_d dtX8_get_0 13 rfl) rfl ?_
      refine z_callV C (z_d dtX8_get_0 14 rfl) (k_X8_lacks  (by omega) (by first | assumption | omega) (by first | assumption | omega) h17 (by first | assumption | omega) (by first | assumption | omega)) cal_X8_lacks gw_34_15 rfl 0 8 rfl rfl rfl rfl hR ⟨rfl, rfl, rfl, rfl⟩ rfl (fun r_23 w_23 h_23 => ?_)
      obtain ⟨rfl, rfl⟩ := h_23
      refine z_istore4 C (z_d dtX8_get_0 15 rfl) rfl ?_
      refine z_iload C (z_d dtX8_get_0 16 rfl) rfl ?_
      refine z_if_le (tgt := 42) C (z_d dtX8_get_0 17 rfl) (by decide) (by omega) (fun h_30 => ?_) (fun h_30 => ?_)
      · refine z_aload_n C (z_d dtX8_get_0 23 rfl) rfl ?_
        refine gf_X8_73 C (z_d dtX8_get_0 24 rfl) ?_
        refine z_sipush C (z_d dtX8_get_0 25 rfl) zs_240 ?_
        refine z_iload_n C (z_d dtX8_get_0 26 rfl) rfl ?_
        refine z_imul C (z_d dtX8_get_0 27 rfl) ?_
        refine z_iload_n C (z_d dtX8_get_0 28 rfl) rfl ?_
        refine z_iadd C (z_d dtX8_get_0 29 rfl) ?_
        refine al_M19 C (z_d dtX8_get_0 30 rfl) (by have := (hip.2 (by omega)).1; omega) ?_
        exact ret _ _ _ _ (z_d dtX8_get_0 31 rfl) (⟨_, rfl, Or.inr ⟨by omega, Or.inr ⟨by omega, rfl, rfl⟩⟩⟩) rfl
      · refine z_aload_n C (z_d dtX8_get_0 18 rfl) rfl ?_
        refine z_iload C (z_d dtX8_get_0 19 rfl) rfl ?_
        refine pf_X8_196 C (z_d dtX8_get_0 20 rfl) ?_
        refine z_ldc C gk_RX8_202 (z_d dtX8_get_0 21 rfl) ?_
        exact ret _ _ _ _ (z_d dtX8_get_0 22 rfl) (⟨_, rfl, Or.inr ⟨by omega, Or.inl ⟨by omega, rfl, rfl⟩⟩⟩) rfl
    · refine z_ldc C gk_RX8_202 (z_d dtX8_get_0 8 rfl) ?_
      exact ret _ _ _ _ (z_d dtX8_get_0 9 rfl) (⟨σ, rfl, Or.inl ⟨by omega, rfl, rfl⟩⟩) rfl

set_option maxRecDepth 100000 in
set_option maxHeartbeats 4000000 in
theorem k_X8_copy {l : Launch} {D : va_G} {t : Nat → ClassId} {ad : Nat → Nat} {σ : zMem} {z i y j n : Int} (ok : okM σ) (hz : -2147483648 ≤ z ∧ z < 2147483648) (hi : -2147483648 ≤ i ∧ i < 2147483648) (hy : -2147483648 ≤ y ∧ y < 2147483648) (hj : -2147483648 ≤ j ∧ j < 2147483648) (hn : -2147483648 ≤ n ∧ n < 2147483648) : z_Ci l D t yX8_copy cX8_copy 7 .int 2 42 0 0 [.ref (ad 0), .int (zI z), .int (zI i), .int (zI y), .int (zI j), .int (zI n)] (wM ad t σ) (fun r w => ∃ σ', w = wM ad t σ' ∧ ((¬ ((0 ≤ z ∧ z < 4) ∧ (0 ≤ y ∧ y < 4)) ∧ r = -2 ∧ σ' = σ) ∨ (((0 ≤ z ∧ z < 4) ∧ (0 ≤ y ∧ y < 4)) ∧ (((σ 16 z = 0 ∨ σ 16 y = 0) ∧ r = -11 ∧ σ' = zS σ 19 (zC 1)) ∨ ((σ 16 z = 1 ∧ σ 16 y = 1) ∧ ((¬ σ 17 z = σ 17 y ∧ r = -14 ∧ σ' = zS σ 19 (zC 4)) ∨ (σ 17 z = σ 17 y ∧ ((¬ ((0 ≤ i ∧ 0 ≤ n ∧ i ≤ σ 18 z ∧ n ≤ σ 18 z - i) ∧ (0 ≤ j ∧ 0 ≤ n ∧ j ≤ σ 18 y ∧ n ≤ σ 18 y - j)) ∧ r = -12 ∧ σ' = zS σ 19 (zC 2)) ∨ (((0 ≤ i ∧ 0 ≤ n ∧ i ≤ σ 18 z ∧ n ≤ σ 18 z - i) ∧ (0 ≤ j ∧ 0 ≤ n ∧ j ≤ σ 18 y ∧ n ≤ σ 18 y - j)) ∧ r = 1 ∧ ∃ F, σ' = zS (zS σ 67 F) 20 (fun q => if 240 * y + j ≤ q ∧ q < 240 * y + j + n then σ 20 (240 * z + i + (q - (240 * y + j))) else σ 20 q)))))))))) := by
  refine z_Ci_of (by decide +kernel) [some (.ref (ad 0)), some (.int (zI z)), some (.int (zI i)), some (.int (zI y)), some (.int (zI j)), some (.int (zI n)), none] rfl rfl (Nat.le_of_ble_eq_true rfl) fun K hl hD ht hR hnm C ret => ?_
  subst hl; subst hD; subst ht
  have ok2 := ok
  obtain ⟨⟨hw, h60, hs, h4, h5, h6, h7⟩, hmp, ⟨h9, hsum⟩, oW1, ⟨hle, hgi, hga⟩, oT1, ⟨h16, h17, h18, hit⟩⟩ := ok2
  have hN := zHw_N hw
  have hW := hw; unfold zHw at hW
  have hwh := zHw_wh hw
  have h16z := h16 z
  have h16y := h16 y
  have hfz := h17 z
  have hfy := h17 y
  have hsz1 := h18 z
  have hsz2 := h18 y
  refine z_iload_n C (z_d dtX8_copy_0 0 rfl) rfl ?_
  refine z_callS C (z_d dtX8_copy_0 1 rfl) (k_X8_isSheet  (by first | assumption | omega)) cal_X8_isSheet gw_16_16 rfl rfl hR ⟨rfl, rfl, rfl, rfl⟩ rfl (fun r_1 w_1 h_1 => ?_)
  obtain ⟨rfl, h_1⟩ := h_1
  refine z_if_eq (tgt := 14) C (z_d dtX8_copy_0 2 rfl) (by decide) (by omega) (fun h_4 => ?_) (fun h_4 => ?_)
  · refine z_bipush C (z_d dtX8_copy_0 6 rfl) zb_m2 ?_
    exact ret _ _ _ _ (z_d dtX8_copy_0 7 rfl) (⟨σ, rfl, Or.inl ⟨by omega, rfl, rfl⟩⟩) rfl
  · refine z_iload_n C (z_d dtX8_copy_0 3 rfl) rfl ?_
    refine z_callS C (z_d dtX8_copy_0 4 rfl) (k_X8_isSheet  (by first | assumption | omega)) cal_X8_isSheet gw_16_16 rfl rfl hR ⟨rfl, rfl, rfl, rfl⟩ rfl (fun r_8 w_8 h_8 => ?_)
    obtain ⟨rfl, h_8⟩ := h_8
    refine z_if_ne (tgt := 17) C (z_d dtX8_copy_0 5 rfl) (by decide) (by omega) (fun h_11 => ?_) (fun h_11 => ?_)
    · refine z_aload_n C (z_d dtX8_copy_0 8 rfl) rfl ?_
      refine gf_X8_64 C (z_d dtX8_copy_0 9 rfl) ?_
      refine z_iload_n C (z_d dtX8_copy_0 10 rfl) rfl ?_
      refine al_M16 C (z_d dtX8_copy_0 11 rfl) (by omega) ?_
      try simp (decide := true) only [zS_s, zS_o, zC]
      refine z_if_eq (tgt := 35) C (z_d dtX8_copy_0 12 rfl) (by decide) (by omega) (fun h_23 => ?_) (fun h_23 => ?_)
      · refine z_aload_n C (z_d dtX8_copy_0 18 rfl) rfl ?_
        refine z_iconst C (z_d dtX8_copy_0 19 rfl) ?_
        refine z_callV C (z_d dtX8_copy_0 20 rfl) (k_X8_meets  ) cal_X8_meets gw_17_3 rfl 0 8 rfl rfl rfl rfl hR ⟨rfl, rfl, rfl, rfl⟩ rfl (fun r_37 w_37 h_37 => ?_)
        obtain ⟨rfl, rfl⟩ := h_37
        exact ret _ _ _ _ (z_d dtX8_copy_0 21 rfl) (⟨_, rfl, Or.inr ⟨by omega, Or.inl ⟨by omega, rfl, rfl⟩⟩⟩) rfl
      · refine z_aload_n C (z_d dtX8_copy_0 13 rfl) rfl ?_
        refine gf_X8_64 C (z_d dtX8_copy_0 14 rfl) ?_
        refine z_iload_n C (z_d dtX8_copy_0 15 rfl) rfl ?_
        refine al_M16 C (z_d dtX8_copy_0 16 rfl) (by omega) ?_
        try simp (decide := true) only [zS_s, zS_o, zC]
        refine z_if_ne (tgt := 41) C (z_d dtX8_copy_0 17 rfl) (by decide) (by omega) (fun h_32 => ?_) (fun h_32 => ?_)
        · refine z_aload_n C (z_d dtX8_copy_0 22 rfl) rfl ?_
          refine gf_X8_67 C (z_d dtX8_copy_0 23 rfl) ?_
          refine z_iload_n C (z_d dtX8_copy_0 24 rfl) rfl ?_
          refine al_M17 C (z_d dtX8_copy_0 25 rfl) (by omega) ?_
          try simp (decide := true) only [zS_s, zS_o, zC]
          refine z_aload_n C (z_d dtX8_copy_0 26 rfl) rfl ?_
          refine gf_X8_67 C (z_d dtX8_copy_0 27 rfl) ?_
          refine z_iload_n C (z_d dtX8_copy_0 28 rfl) rfl ?_
          refine al_M17 C (z_d dtX8_copy_0 29 rfl) (by omega) ?_
          try simp (decide := true) only [zS_s, zS_o, zC]
          refine z_icmp_eq (tgt := 62) C (z_d dtX8_copy_0 30 rfl) (by decide) (by omega) (fun h_53 => ?_) (fun h_53 => ?_)
          · refine z_iload_n C (z_d dtX8_copy_0 35 rfl) rfl ?_
            refine z_if_lt (tgt := 111) C (z_d dtX8_copy_0 36 rfl) (by decide) (by omega) (fun h_63 => ?_) (fun h_63 => ?_)
            · refine z_aload_n C (z_d dtX8_copy_1 25 rfl) rfl ?_
              refine z_iconst C (z_d dtX8_copy_1 26 rfl) ?_
              refine z_callV C (z_d dtX8_copy_1 27 rfl) (k_X8_meets  ) cal_X8_meets gw_17_3 rfl 0 8 rfl rfl rfl rfl hR ⟨rfl, rfl, rfl, rfl⟩ rfl (fun r_113 w_113 h_113 => ?_)
              obtain ⟨rfl, rfl⟩ := h_113
              exact ret _ _ _ _ (z_d dtX8_copy_1 28 rfl) (⟨_, rfl, Or.inr ⟨by omega, Or.inr ⟨by omega, Or.inr ⟨by omega, Or.inl ⟨by omega, rfl, rfl⟩⟩⟩⟩⟩) rfl
            · refine z_iload C (z_d dtX8_copy_0 37 rfl) rfl ?_
              refine z_if_lt (tgt := 111) C (z_d dtX8_copy_0 38 rfl) (by decide) (by omega) (fun h_68 => ?_) (fun h_68 => ?_)
              · refine z_aload_n C (z_d dtX8_copy_1 25 rfl) rfl ?_
                refine z_iconst C (z_d dtX8_copy_1 26 rfl) ?_
                refine z_callV C (z_d dtX8_copy_1 27 rfl) (k_X8_meets  ) cal_X8_meets gw_17_3 rfl 0 8 rfl rfl rfl rfl hR ⟨rfl, rfl, rfl, rfl⟩ rfl (fun r_113 w_113 h_113 => ?_)
                obtain ⟨rfl, rfl⟩ := h_113
                exact ret _ _ _ _ (z_d dtX8_copy_1 28 rfl) (⟨_, rfl, Or.inr ⟨by omega, Or.inr ⟨by omega, Or.inr ⟨by omega, Or.inl ⟨by omega, rfl, rfl⟩⟩⟩⟩⟩) rfl
              · refine z_iload C (z_d dtX8_copy_0 39 rfl) rfl ?_
                refine z_if_lt (tgt := 111) C (z_d dtX8_copy_1 0 rfl) (by decide) (by omega) (fun h_73 => ?_) (fun h_73 => ?_)
                · refine z_aload_n C (z_d dtX8_copy_1 25 rfl) rfl ?_
                  refine z_iconst C (z_d dtX8_copy_1 26 rfl) ?_
                  refine z_callV C (z_d dtX8_copy_1 27 rfl) (k_X8_meets  ) cal_X8_meets gw_17_3 rfl 0 8 rfl rfl rfl rfl hR ⟨rfl, rfl, rfl, rfl⟩ rfl (fun r_113 w_113 h_113 => ?_)
                  obtain ⟨rfl, rfl⟩ := h_113
                  exact ret _ _ _ _ (z_d dtX8_copy_1 28 rfl) (⟨_, rfl, Or.inr ⟨by omega, Or.inr ⟨by omega, Or.inr ⟨by omega, Or.inl ⟨by omega, rfl, rfl⟩⟩⟩⟩⟩) rfl
                · refine z_iload_n C (z_d dtX8_copy_1 1 rfl) rfl ?_
                  refine z_i2l C (z_d dtX8_copy_1 2 rfl) (by omega) ?_
                  refine z_iload C (z_d dtX8_copy_1 3 rfl) rfl ?_
                  refine z_i2l C (z_d dtX8_copy_1 4 rfl) (by omega) ?_
                  refine z_ladd C (z_d dtX8_copy_1 5 rfl) ?_
                  refine z_aload_n C (z_d dtX8_copy_1 6 rfl) rfl ?_
                  refine gf_X8_70 C (z_d dtX8_copy_1 7 rfl) ?_
                  refine z_iload_n C (z_d dtX8_copy_1 8 rfl) rfl ?_
                  refine al_M18 C (z_d dtX8_copy_1 9 rfl) (by omega) ?_
                  try simp (decide := true) only [zS_s, zS_o, zC]
                  refine z_i2l C (z_d dtX8_copy_1 10 rfl) (by omega) ?_
                  refine z_lcmpP C (z_d dtX8_copy_1 11 rfl) (by omega) (fun m_89 h_89 => ?_)
                  refine z_if_gt (tgt := 111) C (z_d dtX8_copy_1 12 rfl) (by decide) (by omega) (fun h_90 => ?_) (fun h_90 => ?_)
                  · refine z_aload_n C (z_d dtX8_copy_1 25 rfl) rfl ?_
                    refine z_iconst C (z_d dtX8_copy_1 26 rfl) ?_
                    refine z_callV C (z_d dtX8_copy_1 27 rfl) (k_X8_meets  ) cal_X8_meets gw_17_3 rfl 0 8 rfl rfl rfl rfl hR ⟨rfl, rfl, rfl, rfl⟩ rfl (fun r_113 w_113 h_113 => ?_)
                    obtain ⟨rfl, rfl⟩ := h_113
                    exact ret _ _ _ _ (z_d dtX8_copy_1 28 rfl) (⟨_, rfl, Or.inr ⟨by omega, Or.inr ⟨by omega, Or.inr ⟨by omega, Or.inl ⟨by omega, rfl, rfl⟩⟩⟩⟩⟩) rfl
                  · refine z_iload C (z_d dtX8_copy_1 13 rfl) rfl ?_
                    refine z_i2l C (z_d dtX8_copy_1 14 rfl) (by omega) ?_
                    refine z_iload C (z_d dtX8_copy_1 15 rfl) rfl ?_
                    refine z_i2l C (z_d dtX8_copy_1 16 rfl) (by omega) ?_
                    refine z_ladd C (z_d dtX8_copy_1 17 rfl) ?_
                    refine z_aload_n C (z_d dtX8_copy_1 18 rfl) rfl ?_
                    refine gf_X8_70 C (z_d dtX8_copy_1 19 rfl) ?_
                    refine z_iload_n C (z_d dtX8_copy_1 20 rfl) rfl ?_
                    refine al_M18 C (z_d dtX8_copy_1 21 rfl) (by omega) ?_
                    try simp (decide := true) only [zS_s, zS_o, zC]
                    refine z_i2l C (z_d dtX8_copy_1 22 rfl) (by omega) ?_
                    refine z_lcmpP C (z_d dtX8_copy_1 23 rfl) (by omega) (fun m_107 h_107 => ?_)
                    refine z_if_le (tgt := 117) C (z_d dtX8_copy_1 24 rfl) (by decide) (by omega) (fun h_108 => ?_) (fun h_108 => ?_)
                    · refine z_iconst C (z_d dtX8_copy_1 29 rfl) ?_
                      refine z_istore6 C (z_d dtX8_copy_1 30 rfl) rfl ?_
                      have lp_120 : ∀ (N_120 : Nat) (a : Nat) (c : Int) (F : Int → Int), (c = a ∧ a ≤ n) → (∀ q : Int, 0 ≤ q → q < a → F q = σ 20 (240 * z + i + q)) → (n - a).toNat < N_120 → Gd K 0 0 120 [some (.ref (ad 0)), some (.int (zI z)), some (.int (zI i)), some (.int (zI y)), some (.int (zI j)), some (.int (zI n)), some (.int (zI c))] [] (wM ad (z_t K) (zS σ 67 F)) := by
                        intro N_120
                        induction N_120 with
                        | zero => intro a c F hc hF hm_120; exact absurd hm_120 (Nat.not_lt_zero _)
                        | succ N_120 ih_120 =>
                          intro a c F hc hF hm_120
                          obtain ⟨rfl, hc⟩ := hc
                          refine z_iload C (z_d dtX8_copy_1 31 rfl) rfl ?_
                          refine z_iload C (z_d dtX8_copy_1 32 rfl) rfl ?_
                          refine z_icmp_ge (tgt := 155) C (z_d dtX8_copy_1 33 rfl) (by decide) (by omega) (fun h_124 => ?_) (fun h_124 => ?_)
                          · refine z_iconst C (z_d dtX8_copy_2 10 rfl) ?_
                            refine z_istore6 C (z_d dtX8_copy_2 11 rfl) rfl ?_
                            have lp_158 : ∀ (N_158 : Nat) (b : Nat) (c : Int) (G : Int → Int), (c = b ∧ b ≤ n) → (∀ q, G q = if 240 * y + j ≤ q ∧ q < 240 * y + j + b then σ 20 (240 * z + i + (q - (240 * y + j))) else σ 20 q) → (n - b).toNat < N_158 → Gd K 0 0 158 [some (.ref (ad 0)), some (.int (zI z)), some (.int (zI i)), some (.int (zI y)), some (.int (zI j)), some (.int (zI n)), some (.int (zI c))] [] (wM ad (z_t K) (zS (zS σ 67 F) 20 G)) := by
                              intro N_158
                              induction N_158 with
                              | zero => intro b c G hc2 hG hm_158; exact absurd hm_158 (Nat.not_lt_zero _)
                              | succ N_158 ih_158 =>
                                intro b c G hc2 hG hm_158
                                obtain ⟨rfl, hc2⟩ := hc2
                                have hFb := hF b (by omega)
                                refine z_iload C (z_d dtX8_copy_2 12 rfl) rfl ?_
                                refine z_iload C (z_d dtX8_copy_2 13 rfl) rfl ?_
                                refine z_icmp_ge (tgt := 194) C (z_d dtX8_copy_2 14 rfl) (by decide) (by omega) (fun h_162 => ?_) (fun h_162 => ?_)
                                · refine z_iconst C (z_d dtX8_copy_2 31 rfl) ?_
                                  exact ret _ _ _ _ (z_d dtX8_copy_2 32 rfl) (⟨_, rfl, Or.inr ⟨by omega, Or.inr ⟨by omega, Or.inr ⟨by omega, Or.inr ⟨by omega, rfl, F, by
                                          congr 1
                                          funext q
                                          rw [hG q, show (b : Int) = n by omega]⟩⟩⟩⟩⟩) rfl
                                · refine z_aload_n C (z_d dtX8_copy_2 15 rfl) rfl ?_
                                  refine gf_X8_73 C (z_d dtX8_copy_2 16 rfl) ?_
                                  refine z_sipush C (z_d dtX8_copy_2 17 rfl) zs_240 ?_
                                  refine z_iload_n C (z_d dtX8_copy_2 18 rfl) rfl ?_
                                  refine z_imul C (z_d dtX8_copy_2 19 rfl) ?_
                                  refine z_iload C (z_d dtX8_copy_2 20 rfl) rfl ?_
                                  refine z_iadd C (z_d dtX8_copy_2 21 rfl) ?_
                                  refine z_iload C (z_d dtX8_copy_2 22 rfl) rfl ?_
                                  refine z_iadd C (z_d dtX8_copy_2 23 rfl) ?_
                                  refine z_aload_n C (z_d dtX8_copy_2 24 rfl) rfl ?_
                                  refine gf_X8_76 C (z_d dtX8_copy_2 25 rfl) ?_
                                  refine z_iload C (z_d dtX8_copy_2 26 rfl) rfl ?_
                                  refine al_M20 C (z_d dtX8_copy_2 27 rfl) (by omega) ?_
                                  try simp (decide := true) only [zS_s, zS_o, zC]
                                  refine as_M19 C (z_d dtX8_copy_2 28 rfl) (by omega) ?_
                                  refine z_iinc6 C (z_d dtX8_copy_2 29 rfl) rfl ?_
                                  refine z_goto (tgt := 158) C (z_d dtX8_copy_2 30 rfl) (by decide) ?_
                                  exact ih_158 (b + 1) _ _ (by omega) (fun q => by
                                          unfold zU
                                          by_cases e : q = 240 * y + j + b
                                          · rw [if_pos e, if_pos (by omega), hFb (by omega)]
                                            congr 1; omega
                                          · rw [if_neg e, zS_s, hG q]
                                            by_cases p : 240 * y + j ≤ q ∧ q < 240 * y + j + b
                                            · rw [if_pos p, if_pos (by omega)]
                                            · rw [if_neg p, if_neg (by omega)]) (by omega)
                            exact lp_158 _ 0 _ (σ 20) (by omega) (fun q => by rw [if_neg (by omega)]) (Nat.lt_succ_self _)
                          · refine z_aload_n C (z_d dtX8_copy_1 34 rfl) rfl ?_
                            refine gf_X8_76 C (z_d dtX8_copy_1 35 rfl) ?_
                            refine z_iload C (z_d dtX8_copy_1 36 rfl) rfl ?_
                            refine z_aload_n C (z_d dtX8_copy_1 37 rfl) rfl ?_
                            refine gf_X8_73 C (z_d dtX8_copy_1 38 rfl) ?_
                            refine z_sipush C (z_d dtX8_copy_1 39 rfl) zs_240 ?_
                            refine z_iload_n C (z_d dtX8_copy_2 0 rfl) rfl ?_
                            refine z_imul C (z_d dtX8_copy_2 1 rfl) ?_
                            refine z_iload_n C (z_d dtX8_copy_2 2 rfl) rfl ?_
                            refine z_iadd C (z_d dtX8_copy_2 3 rfl) ?_
                            refine z_iload C (z_d dtX8_copy_2 4 rfl) rfl ?_
                            refine z_iadd C (z_d dtX8_copy_2 5 rfl) ?_
                            refine al_M19 C (z_d dtX8_copy_2 6 rfl) (by omega) ?_
                            try simp (decide := true) only [zS_s, zS_o, zC]
                            refine as_M20 C (z_d dtX8_copy_2 7 rfl) (by omega) ?_
                            refine z_iinc6 C (z_d dtX8_copy_2 8 rfl) rfl ?_
                            refine z_goto (tgt := 120) C (z_d dtX8_copy_2 9 rfl) (by decide) ?_
                            exact ih_120 (a + 1) _ _ (by omega) (fun q h0 h1 => by
                                    by_cases e : q = a
                                    · subst e; rw [zU_s]
                                    · rw [zU_n e]; exact hF q h0 (by omega)) (by omega)
                      exact lp_120 _ 0 _ (σ 67) (by omega) (fun q h0 h1 => absurd h1 (by omega)) (Nat.lt_succ_self _)
                    · refine z_aload_n C (z_d dtX8_copy_1 25 rfl) rfl ?_
                      refine z_iconst C (z_d dtX8_copy_1 26 rfl) ?_
                      refine z_callV C (z_d dtX8_copy_1 27 rfl) (k_X8_meets  ) cal_X8_meets gw_17_3 rfl 0 8 rfl rfl rfl rfl hR ⟨rfl, rfl, rfl, rfl⟩ rfl (fun r_113 w_113 h_113 => ?_)
                      obtain ⟨rfl, rfl⟩ := h_113
                      exact ret _ _ _ _ (z_d dtX8_copy_1 28 rfl) (⟨_, rfl, Or.inr ⟨by omega, Or.inr ⟨by omega, Or.inr ⟨by omega, Or.inl ⟨by omega, rfl, rfl⟩⟩⟩⟩⟩) rfl
          · refine z_aload_n C (z_d dtX8_copy_0 31 rfl) rfl ?_
            refine z_iconst C (z_d dtX8_copy_0 32 rfl) ?_
            refine z_callV C (z_d dtX8_copy_0 33 rfl) (k_X8_meets  ) cal_X8_meets gw_17_3 rfl 0 8 rfl rfl rfl rfl hR ⟨rfl, rfl, rfl, rfl⟩ rfl (fun r_58 w_58 h_58 => ?_)
            obtain ⟨rfl, rfl⟩ := h_58
            exact ret _ _ _ _ (z_d dtX8_copy_0 34 rfl) (⟨_, rfl, Or.inr ⟨by omega, Or.inr ⟨by omega, Or.inl ⟨by omega, rfl, rfl⟩⟩⟩⟩) rfl
        · refine z_aload_n C (z_d dtX8_copy_0 18 rfl) rfl ?_
          refine z_iconst C (z_d dtX8_copy_0 19 rfl) ?_
          refine z_callV C (z_d dtX8_copy_0 20 rfl) (k_X8_meets  ) cal_X8_meets gw_17_3 rfl 0 8 rfl rfl rfl rfl hR ⟨rfl, rfl, rfl, rfl⟩ rfl (fun r_37 w_37 h_37 => ?_)
          obtain ⟨rfl, rfl⟩ := h_37
          exact ret _ _ _ _ (z_d dtX8_copy_0 21 rfl) (⟨_, rfl, Or.inr ⟨by omega, Or.inl ⟨by omega, rfl, rfl⟩⟩⟩) rfl
    · refine z_bipush C (z_d dtX8_copy_0 6 rfl) zb_m2 ?_
      exact ret _ _ _ _ (z_d dtX8_copy_0 7 rfl) (⟨σ, rfl, Or.inl ⟨by omega, rfl, rfl⟩⟩) rfl
