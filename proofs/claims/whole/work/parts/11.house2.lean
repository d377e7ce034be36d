/-! THE HOUSE: writes; the sheets; the map -/
def zKw (σ : zMem) (a b : Int) : Nat := if a / σ 1 0 % σ 2 0 = b / σ 1 0 % σ 2 0 then 4 else 5
def zPre (μ σ : zMem) (i : Int) : Prop := zE μ σ [33] ∧ ∀ c, 0 ≤ c → c < i → ∀ d, 0 ≤ d → d < 7 → μ 33 (c * 7 + d) = zTg σ c d
theorem zPre_st {μ ν σ : zMem} {i i1 : Int} (h : zPre μ σ i) (hr : zRow ν μ (i * 7) i 7) (hi : 0 ≤ i ∧ i1 = i + 1) : zPre ν σ i1 := by
  refine ⟨zE_tr hr.1 h.1, fun c h0 h1 d g0 g1 => ?_⟩
  by_cases e : c = i
  · subst e
    rw [hr.2.1 d g0 g1, zTg_E h.1]
  · rw [hr.2.2 _ (by omega), h.2 c h0 (by omega) d g0 g1]
theorem zBo_E {μ σ : zMem} {l : List Nat} {k : Nat} (h : zE μ σ l) (hk : k ∉ l := by decide) (hb : zBo σ k) : zBo μ k := by
  unfold zBo
  rw [h k hk]
  exact hb
theorem zBo_C {σ : zMem} {k : Nat} {v : Int} (h : σ k = zC v) (hv : v = 0 ∨ v = 1) : zBo σ k := fun i => by
  rw [h]; exact hv
theorem zPlace {σ : zMem} (hw : zHw σ) {x y : Int} (hx : 0 ≤ x ∧ x < σ 1 0) (hy : 0 ≤ y ∧ y < σ 2 0) : 0 ≤ y * σ 1 0 + x ∧ y * σ 1 0 + x < 36 := by
  have hwh := zHw_wh hw
  have hW := hw
  unfold zHw at hW
  have m3 : y * σ 1 0 ≤ (σ 2 0 - 1) * σ 1 0 := Int.mul_le_mul_of_nonneg_right (by omega) (by omega)
  have m4 : 0 ≤ y * σ 1 0 := Int.mul_nonneg hy.1 (by omega)
  rw [Int.sub_mul, Int.one_mul, Int.mul_comm (σ 2 0)] at m3
  omega

set_option maxRecDepth 100000 in
set_option maxHeartbeats 4000000 in
theorem k_X3_chartSteps {l : Launch} {D : va_G} {t : Nat → ClassId} {ad : Nat → Nat} {σ : zMem}  (hw : zHw σ) (hs : 0 ≤ σ 3 0 ∧ σ 3 0 ≤ 9) (h4 : zBo σ 4) (h5 : zBo σ 5) (h6 : zBo σ 6) : z_Cv l D t yX3_chartSteps cX3_chartSteps 2 2 47 0 0 [.ref (ad 1)] (wX ad t σ) (fun w => ∃ σ', w = wX ad t σ' ∧ zE σ' σ [33] ∧ zTb σ') := by
  refine z_Cv_of (by decide +kernel) [some (.ref (ad 1)), none] rfl rfl (Nat.le_of_ble_eq_true rfl) fun K hl hD ht hR hn C ret => ?_
  subst hl; subst hD; subst ht
  have hN := zHw_N hw
  refine z_iconst C (z_d dtX3_chartSteps_0 0 rfl) ?_
  refine z_istore_n1 C (z_d dtX3_chartSteps_0 1 rfl) rfl ?_
  have lp_2 : ∀ (N_2 : Nat) (c : Int) (μ : zMem), (0 ≤ c ∧ c ≤ zN σ) → (zPre μ σ c) → (zN σ - c).toNat < N_2 → Gd K 0 0 2 [some (.ref (ad 1)), some (.int (zI c))] [] (wX ad (z_t K) μ) := by
    intro N_2
    induction N_2 with
    | zero => intro c μ hc hp hm_2; exact absurd hm_2 (Nat.not_lt_zero _)
    | succ N_2 ih_2 =>
      intro c μ hc hp hm_2
      have eN := zN_E hp.1 (by decide) (by decide) (by decide)
      have hw2 := zHw_E hp.1 (by decide) (by decide) (by decide) hw
      have e3 := hp.1 3 (by decide)
      refine z_iload_n C (z_d dtX3_chartSteps_0 2 rfl) rfl ?_
      refine z_aload_n C (z_d dtX3_chartSteps_0 3 rfl) rfl ?_
      refine z_callV C (z_d dtX3_chartSteps_0 4 rfl) (k_X3_cells  ) cal_X3_cells gw_5_5 rfl 1 3 rfl rfl rfl rfl hR ⟨rfl, rfl, rfl, rfl⟩ rfl (fun r_4 w_4 h_4 => ?_)
      obtain ⟨rfl, rfl⟩ := h_4
      refine z_icmp_ge (tgt := 25) C (z_d dtX3_chartSteps_0 5 rfl) (by decide) (by omega) (fun h_7 => ?_) (fun h_7 => ?_)
      · exact ret _ _ _ (z_d dtX3_chartSteps_0 14 rfl) (⟨_, rfl, hp.1, fun c h0 h1 d g0 g1 => by rw [hp.2 c h0 (by have := eN; omega) d g0 g1, zTg_E hp.1]⟩)
      · refine z_aload_n C (z_d dtX3_chartSteps_0 6 rfl) rfl ?_
        refine z_iload_n C (z_d dtX3_chartSteps_0 7 rfl) rfl ?_
        refine z_iload_n C (z_d dtX3_chartSteps_0 8 rfl) rfl ?_
        refine z_bipush C (z_d dtX3_chartSteps_0 9 rfl) zb_7 ?_
        refine z_imul C (z_d dtX3_chartSteps_0 10 rfl) ?_
        refine z_callVv C (z_d dtX3_chartSteps_0 11 rfl) (k_X3_chartStepsFrom  hw2 (by omega) (by rw [e3]; exact hs) (zBo_E hp.1 (by decide) h4) (zBo_E hp.1 (by decide) h5) (zBo_E hp.1 (by decide) h6)) cal_X3_chartStepsFrom gw_5_9 rfl 1 3 rfl rfl rfl rfl hR ⟨rfl, rfl, rfl, rfl⟩ rfl (fun w_16 h_16 => ?_)
        obtain ⟨σ_16, rfl, h_16⟩ := h_16
        refine z_iinc1 C (z_d dtX3_chartSteps_0 12 rfl) rfl ?_
        refine z_goto (tgt := 2) C (z_d dtX3_chartSteps_0 13 rfl) (by decide) ?_
        exact ih_2 _ _ (by omega) (zPre_st hp h_16 (by omega)) (by omega)
  exact lp_2 _ _ _ (by omega) ⟨zE_rf, fun c h0 h1 => absurd h1 (by omega)⟩ (Nat.lt_succ_self _)

set_option maxRecDepth 100000 in
set_option maxHeartbeats 4000000 in
theorem k_X3_raise {l : Launch} {D : va_G} {t : Nat → ClassId} {ad : Nat → Nat} {σ : zMem} {f x y : Int} (hf : (1 ≤ f ∧ f ≤ 3) ∧ (1 ≤ x ∧ x ≤ 6) ∧ (1 ≤ y ∧ y ≤ 6) ∧ f * x * y ≤ 72) (hs : 0 ≤ σ 3 0 ∧ σ 3 0 ≤ 9) : z_Cv l D t yX3_raise cX3_raise 5 3 68 0 0 [.ref (ad 1), .int (zI f), .int (zI x), .int (zI y)] (wX ad t σ) (fun w => ∃ σ', w = wX ad t σ' ∧ zE σ' σ [0, 1, 2, 4, 5, 6, 31, 32, 33] ∧ σ' 0 = zC f ∧ σ' 1 = zC x ∧ σ' 2 = zC y ∧ σ' 31 = zC 0 ∧ σ' 32 = zC 0 ∧ σ' 4 = zC 0 ∧ σ' 5 = zC 0 ∧ σ' 6 = zC 0 ∧ zTb σ') := by
  refine z_Cv_of (by decide +kernel) [some (.ref (ad 1)), some (.int (zI f)), some (.int (zI x)), some (.int (zI y)), none] rfl rfl (Nat.le_of_ble_eq_true rfl) fun K hl hD ht hR hn C ret => ?_
  subst hl; subst hD; subst ht
  refine z_aload_n C (z_d dtX3_raise_0 0 rfl) rfl ?_
  refine z_iload_n C (z_d dtX3_raise_0 1 rfl) rfl ?_
  refine pf_X3_9 C (z_d dtX3_raise_0 2 rfl) ?_
  refine z_aload_n C (z_d dtX3_raise_0 3 rfl) rfl ?_
  refine z_iload_n C (z_d dtX3_raise_0 4 rfl) rfl ?_
  refine pf_X3_15 C (z_d dtX3_raise_0 5 rfl) ?_
  refine z_aload_n C (z_d dtX3_raise_0 6 rfl) rfl ?_
  refine z_iload_n C (z_d dtX3_raise_0 7 rfl) rfl ?_
  refine pf_X3_18 C (z_d dtX3_raise_0 8 rfl) ?_
  refine z_aload_n C (z_d dtX3_raise_0 9 rfl) rfl ?_
  refine z_iconst C (z_d dtX3_raise_0 10 rfl) ?_
  refine pf_X3_21 C (z_d dtX3_raise_0 11 rfl) ?_
  refine z_aload_n C (z_d dtX3_raise_0 12 rfl) rfl ?_
  refine z_iconst C (z_d dtX3_raise_0 13 rfl) ?_
  refine pf_X3_24 C (z_d dtX3_raise_0 14 rfl) ?_
  refine z_iconst C (z_d dtX3_raise_0 15 rfl) ?_
  refine z_istore4 C (z_d dtX3_raise_0 16 rfl) rfl ?_
  have lp_28 : ∀ (N_28 : Nat) (i : Int) (μ : zMem), (0 ≤ i ∧ i ≤ 72) → (zE μ σ [0, 1, 2, 4, 5, 6, 31, 32]) → (μ 0 = zC f ∧ μ 1 = zC x ∧ μ 2 = zC y ∧ μ 31 = zC 0 ∧ μ 32 = zC 0 ∧ ∀ j, 0 ≤ j → j < i → μ 4 j = 0 ∧ μ 5 j = 0) → (72 - i).toNat < N_28 → Gd K 0 0 28 [some (.ref (ad 1)), some (.int (zI f)), some (.int (zI x)), some (.int (zI y)), some (.int (zI i))] [] (wX ad (z_t K) μ) := by
    intro N_28
    induction N_28 with
    | zero => intro i μ hi hE hm hm_28; exact absurd hm_28 (Nat.not_lt_zero _)
    | succ N_28 ih_28 =>
      intro i μ hi hE hm hm_28
      refine z_iload C (z_d dtX3_raise_0 17 rfl) rfl ?_
      refine z_bipush C (z_d dtX3_raise_0 18 rfl) zb_72 ?_
      refine z_icmp_ge (tgt := 57) C (z_d dtX3_raise_0 19 rfl) (by decide) (by omega) (fun h_32 => ?_) (fun h_32 => ?_)
      · refine z_iconst C (z_d dtX3_raise_0 32 rfl) ?_
        refine z_istore4 C (z_d dtX3_raise_0 33 rfl) rfl ?_
        refine zx_X8 (zC 0) (fun j h0 h1 => (hm.2.2.2.2.2 j h0 (by omega)).1) ?_
        refine zx_X9 (zC 0) (fun j h0 h1 => (hm.2.2.2.2.2 j h0 (by omega)).2) ?_
        have lp_60 : ∀ (N_60 : Nat) (i : Int) (μ : zMem), (0 ≤ i ∧ i ≤ 36) → (zE μ σ [0, 1, 2, 4, 5, 6, 31, 32]) → (μ 0 = zC f ∧ μ 1 = zC x ∧ μ 2 = zC y ∧ μ 31 = zC 0 ∧ μ 32 = zC 0 ∧ μ 4 = zC 0 ∧ μ 5 = zC 0 ∧ ∀ j, 0 ≤ j → j < i → μ 6 j = 0) → (36 - i).toNat < N_60 → Gd K 0 0 60 [some (.ref (ad 1)), some (.int (zI f)), some (.int (zI x)), some (.int (zI y)), some (.int (zI i))] [] (wX ad (z_t K) μ) := by
          intro N_60
          induction N_60 with
          | zero => intro i μ hi hE hm hm_60; exact absurd hm_60 (Nat.not_lt_zero _)
          | succ N_60 ih_60 =>
            intro i μ hi hE hm hm_60
            refine z_iload C (z_d dtX3_raise_0 34 rfl) rfl ?_
            refine z_bipush C (z_d dtX3_raise_0 35 rfl) zb_36 ?_
            refine z_icmp_ge (tgt := 81) C (z_d dtX3_raise_0 36 rfl) (by decide) (by omega) (fun h_64 => ?_) (fun h_64 => ?_)
            · refine zx_X10 (zC 0) (fun j h0 h1 => hm.2.2.2.2.2.2.2 j h0 (by omega)) ?_
              have k0 : (zS μ 6 (zC 0)) 0 = zC f := hm.1
              have k1 : (zS μ 6 (zC 0)) 1 = zC x := hm.2.1
              have k2 : (zS μ 6 (zC 0)) 2 = zC y := hm.2.2.1
              have hE2 := zE_set (F := zC 0) hE (show 6 ∈ _ by decide)
              have hw2 : zHw (zS μ 6 (zC 0)) := by
                unfold zHw zN
                rw [k0, k1, k2]
                exact hf
              refine z_aload_n C (z_d dtX3_raise_1 4 rfl) rfl ?_
              refine z_callVv C (z_d dtX3_raise_1 5 rfl) (k_X3_chartSteps  hw2 (by rw [hE2 3 (by decide)]; exact hs) (zBo_C (v := 0) (by exact hm.2.2.2.2.2.1) (Or.inl rfl)) (zBo_C (v := 0) (by exact hm.2.2.2.2.2.2.1) (Or.inl rfl)) (zBo_C (v := 0) rfl (Or.inl rfl))) cal_X3_chartSteps gw_5_1 rfl 1 3 rfl rfl rfl rfl hR ⟨rfl, rfl, rfl, rfl⟩ rfl (fun w_82 h_82 => ?_)
              obtain ⟨σ_82, rfl, hE_82, hT_82⟩ := h_82
              exact ret _ _ _ (z_d dtX3_raise_1 6 rfl) (⟨_, rfl, zE_tr (zE_mo hE_82 (by decide)) (zE_mo hE2 (by decide)), (hE_82 0 (by decide)).trans k0, (hE_82 1 (by decide)).trans k1, (hE_82 2 (by decide)).trans k2, (hE_82 31 (by decide)).trans hm.2.2.2.1, (hE_82 32 (by decide)).trans hm.2.2.2.2.1, (hE_82 4 (by decide)).trans hm.2.2.2.2.2.1, (hE_82 5 (by decide)).trans hm.2.2.2.2.2.2.1, (hE_82 6 (by decide)), hT_82⟩)
            · refine z_aload_n C (z_d dtX3_raise_0 37 rfl) rfl ?_
              refine gf_X3_37 C (z_d dtX3_raise_0 38 rfl) ?_
              refine z_iload C (z_d dtX3_raise_0 39 rfl) rfl ?_
              refine z_iconst C (z_d dtX3_raise_1 0 rfl) ?_
              refine as_X10 C (z_d dtX3_raise_1 1 rfl) (by omega) (by omega) ?_
              refine z_iinc4 C (z_d dtX3_raise_1 2 rfl) rfl ?_
              refine z_goto (tgt := 60) C (z_d dtX3_raise_1 3 rfl) (by decide) ?_
              exact ih_60 _ _ (by omega) (zE_set hE (by decide)) ⟨hm.1, hm.2.1, hm.2.2.1, hm.2.2.2.1, hm.2.2.2.2.1, hm.2.2.2.2.2.1, hm.2.2.2.2.2.2.1, fun j h0 h1 => by
                      show zU (μ 6) i 0 j = 0
                      by_cases e : j = i
                      · subst e; exact zU_s _ _ _
                      · rw [zU_n e]; exact hm.2.2.2.2.2.2.2 j h0 (by omega)⟩ (by omega)
        exact lp_60 _ _ _ (by omega) (zE_set (zE_set hE (by decide)) (by decide)) ⟨hm.1, hm.2.1, hm.2.2.1, hm.2.2.2.1, hm.2.2.2.2.1, rfl, rfl, fun j h0 h1 => absurd h1 (by omega)⟩ (Nat.lt_succ_self _)
      · refine z_aload_n C (z_d dtX3_raise_0 20 rfl) rfl ?_
        refine gf_X3_30 C (z_d dtX3_raise_0 21 rfl) ?_
        refine z_iload C (z_d dtX3_raise_0 22 rfl) rfl ?_
        refine z_iconst C (z_d dtX3_raise_0 23 rfl) ?_
        refine as_X8 C (z_d dtX3_raise_0 24 rfl) (by omega) (by omega) ?_
        refine z_aload_n C (z_d dtX3_raise_0 25 rfl) rfl ?_
        refine gf_X3_34 C (z_d dtX3_raise_0 26 rfl) ?_
        refine z_iload C (z_d dtX3_raise_0 27 rfl) rfl ?_
        refine z_iconst C (z_d dtX3_raise_0 28 rfl) ?_
        refine as_X9 C (z_d dtX3_raise_0 29 rfl) (by omega) (by omega) ?_
        refine z_iinc4 C (z_d dtX3_raise_0 30 rfl) rfl ?_
        refine z_goto (tgt := 28) C (z_d dtX3_raise_0 31 rfl) (by decide) ?_
        exact ih_28 _ _ (by omega) (zE_set (zE_set hE (by decide)) (by decide)) ⟨hm.1, hm.2.1, hm.2.2.1, hm.2.2.2.1, hm.2.2.2.2.1, fun j h0 h1 => by
                show zU (μ 4) i 0 j = 0 ∧ zU (μ 5) i 0 j = 0
                by_cases e : j = i
                · subst e; exact ⟨zU_s _ _ _, zU_s _ _ _⟩
                · rw [zU_n e, zU_n e]; exact hm.2.2.2.2.2 j h0 (by omega)⟩ (by omega)
  exact lp_28 _ _ _ (by omega) (zE_set (zE_set (zE_set (zE_set (zE_set zE_rf (by decide)) (by decide)) (by decide)) (by decide)) (by decide)) ⟨rfl, rfl, rfl, rfl, rfl, fun j h0 h1 => absurd h1 (by omega)⟩ (Nat.lt_succ_self _)

set_option maxRecDepth 100000 in
set_option maxHeartbeats 4000000 in
theorem k_X3_putWall {l : Launch} {D : va_G} {t : Nat → ClassId} {ad : Nat → Nat} {σ : zMem} {a b s : Int} (hw : zHw σ) (ha : 0 ≤ a ∧ a < zN σ) (hb : 0 ≤ b ∧ b < zN σ) (h01 : s = 0 ∨ s = 1) (hs : 0 ≤ σ 3 0 ∧ σ 3 0 ≤ 9) (h4 : zBo σ 4) (h5 : zBo σ 5) (h6 : zBo σ 6) : z_Ci l D t yX3_putWall cX3_putWall 5 .int 3 68 0 0 [.ref (ad 1), .int (zI a), .int (zI b), .int (zI s)] (wX ad t σ) (fun r w => ∃ σ', w = wX ad t σ' ∧ ((σ (zKw σ a b) a = s ∧ r = 0 ∧ σ' = σ) ∨ (¬ σ (zKw σ a b) a = s ∧ r = 1 ∧ zE σ' (zS (zS σ (zKw σ a b) (zU (σ (zKw σ a b)) a s)) 31 (zC (σ 31 0 + (2 * s - 1)))) [33] ∧ zTb σ'))) := by
  refine z_Ci_of (by decide +kernel) [some (.ref (ad 1)), some (.int (zI a)), some (.int (zI b)), some (.int (zI s)), none] rfl rfl (Nat.le_of_ble_eq_true rfl) fun K hl hD ht hR hn C ret => ?_
  subst hl; subst hD; subst ht
  have hN := zHw_N hw
  have hW := hw; unfold zHw at hW
  have ga := zGeo hw ha
  have gb := zGeo hw hb
  have b4 := h4 a
  have b5 := h5 a
  refine z_aload_n C (z_d dtX3_putWall_0 0 rfl) rfl ?_
  refine z_iload_n C (z_d dtX3_putWall_0 1 rfl) rfl ?_
  refine z_callV C (z_d dtX3_putWall_0 2 rfl) (k_X3_yOf  (by first | assumption | omega) (by first | assumption | omega)) cal_X3_yOf gw_5_17 rfl 1 3 rfl rfl rfl rfl hR ⟨rfl, rfl, rfl, rfl⟩ rfl (fun r_2 w_2 h_2 => ?_)
  obtain ⟨rfl, rfl⟩ := h_2
  refine z_aload_n C (z_d dtX3_putWall_0 3 rfl) rfl ?_
  refine z_iload_n C (z_d dtX3_putWall_0 4 rfl) rfl ?_
  refine z_callV C (z_d dtX3_putWall_0 5 rfl) (k_X3_yOf  (by first | assumption | omega) (by first | assumption | omega)) cal_X3_yOf gw_5_17 rfl 1 3 rfl rfl rfl rfl hR ⟨rfl, rfl, rfl, rfl⟩ rfl (fun r_7 w_7 h_7 => ?_)
  obtain ⟨rfl, rfl⟩ := h_7
  refine z_icmp_ne (tgt := 20) C (z_d dtX3_putWall_0 6 rfl) (by decide) (by omega) (fun h_10 => ?_) (fun h_10 => ?_)
  · have hk : zKw σ a b = 5 := by unfold zKw; rw [if_neg h_10]
    refine z_aload_n C (z_d dtX3_putWall_0 10 rfl) rfl ?_
    refine gf_X3_34 C (z_d dtX3_putWall_0 11 rfl) ?_
    refine z_astore4 C (z_d dtX3_putWall_0 12 rfl) rfl ?_
    refine z_aload C (z_d dtX3_putWall_0 13 rfl) rfl ?_
    refine z_iload_n C (z_d dtX3_putWall_0 14 rfl) rfl ?_
    refine al_X9 C (z_d dtX3_putWall_0 15 rfl) (by omega) ?_
    try simp (decide := true) only [zS_s, zS_o, zC]
    refine z_iload_n C (z_d dtX3_putWall_0 16 rfl) rfl ?_
    refine z_icmp_ne (tgt := 36) C (z_d dtX3_putWall_0 17 rfl) (by decide) (by omega) (fun h_31 => ?_) (fun h_31 => ?_)
    · refine z_aload C (z_d dtX3_putWall_0 20 rfl) rfl ?_
      refine z_iload_n C (z_d dtX3_putWall_0 21 rfl) rfl ?_
      refine z_iload_n C (z_d dtX3_putWall_0 22 rfl) rfl ?_
      refine as_X9 C (z_d dtX3_putWall_0 23 rfl) (by omega) (by omega) ?_
      refine z_aload_n C (z_d dtX3_putWall_0 24 rfl) rfl ?_
      refine z_dup C (z_d dtX3_putWall_0 25 rfl) rfl ?_
      refine gf_X3_21 C (z_d dtX3_putWall_0 26 rfl) ?_
      try simp (decide := true) only [zS_s, zS_o, zC]
      refine z_iload_n C (z_d dtX3_putWall_0 27 rfl) rfl ?_
      refine z_if_eq (tgt := 54) C (z_d dtX3_putWall_0 28 rfl) (by decide) (by omega) (fun h_47 => ?_) (fun h_47 => ?_)
      · refine z_iconst C (z_d dtX3_putWall_0 31 rfl) ?_
        refine z_iadd C (z_d dtX3_putWall_0 32 rfl) ?_
        refine pf_X3_21 C (z_d dtX3_putWall_0 33 rfl) ?_
        try rw [show σ 31 0 + 1 = σ 31 0 + (2 * s - 1) by omega]
        try rw [show σ 31 0 + -1 = σ 31 0 + (2 * s - 1) by omega]
        generalize hμ : zS (zS σ _ _) 31 _ = μ
        have hm : zE μ (zS (zS σ (zKw σ a b) (zU (σ (zKw σ a b)) a s)) 31 (zC (σ 31 0 + (2 * s - 1)))) [33] := by
          rw [← hμ, hk]; exact zE_rf
        have hm2 : zE μ σ [4, 5, 31] := by
          rw [← hμ]; exact zE_set (zE_set zE_rf (by decide)) (by decide)
        have m4 : zBo μ 4 := by
          rw [← hμ]
          first | exact zBo_u h4 h01 | exact h4
        have m5 : zBo μ 5 := by
          rw [← hμ]
          first | exact zBo_u h5 h01 | exact h5
        refine z_aload_n C (z_d dtX3_putWall_0 34 rfl) rfl ?_
        refine z_callVv C (z_d dtX3_putWall_0 35 rfl) (k_X3_chartSteps  (zHw_E hm2 (by decide) (by decide) (by decide) hw) (by rw [hm2 3 (by decide)]; exact hs) m4 m5 (zBo_E hm2 (by decide) h6)) cal_X3_chartSteps gw_5_1 rfl 1 3 rfl rfl rfl rfl hR ⟨rfl, rfl, rfl, rfl⟩ rfl (fun w_60 h_60 => ?_)
        obtain ⟨σ_60, rfl, hE_60, hT_60⟩ := h_60
        refine z_iconst C (z_d dtX3_putWall_0 36 rfl) ?_
        exact ret _ _ _ _ (z_d dtX3_putWall_0 37 rfl) (⟨_, rfl, Or.inr ⟨by rw [hk]; omega, rfl, zE_tr hE_60 hm, hT_60⟩⟩) rfl
      · refine z_iconst C (z_d dtX3_putWall_0 29 rfl) ?_
        refine z_goto (tgt := 55) C (z_d dtX3_putWall_0 30 rfl) (by decide) ?_
        refine z_iadd C (z_d dtX3_putWall_0 32 rfl) ?_
        refine pf_X3_21 C (z_d dtX3_putWall_0 33 rfl) ?_
        try rw [show σ 31 0 + 1 = σ 31 0 + (2 * s - 1) by omega]
        try rw [show σ 31 0 + -1 = σ 31 0 + (2 * s - 1) by omega]
        generalize hμ : zS (zS σ _ _) 31 _ = μ
        have hm : zE μ (zS (zS σ (zKw σ a b) (zU (σ (zKw σ a b)) a s)) 31 (zC (σ 31 0 + (2 * s - 1)))) [33] := by
          rw [← hμ, hk]; exact zE_rf
        have hm2 : zE μ σ [4, 5, 31] := by
          rw [← hμ]; exact zE_set (zE_set zE_rf (by decide)) (by decide)
        have m4 : zBo μ 4 := by
          rw [← hμ]
          first | exact zBo_u h4 h01 | exact h4
        have m5 : zBo μ 5 := by
          rw [← hμ]
          first | exact zBo_u h5 h01 | exact h5
        refine z_aload_n C (z_d dtX3_putWall_0 34 rfl) rfl ?_
        refine z_callVv C (z_d dtX3_putWall_0 35 rfl) (k_X3_chartSteps  (zHw_E hm2 (by decide) (by decide) (by decide) hw) (by rw [hm2 3 (by decide)]; exact hs) m4 m5 (zBo_E hm2 (by decide) h6)) cal_X3_chartSteps gw_5_1 rfl 1 3 rfl rfl rfl rfl hR ⟨rfl, rfl, rfl, rfl⟩ rfl (fun w_60 h_60 => ?_)
        obtain ⟨σ_60, rfl, hE_60, hT_60⟩ := h_60
        refine z_iconst C (z_d dtX3_putWall_0 36 rfl) ?_
        exact ret _ _ _ _ (z_d dtX3_putWall_0 37 rfl) (⟨_, rfl, Or.inr ⟨by rw [hk]; omega, rfl, zE_tr hE_60 hm, hT_60⟩⟩) rfl
    · refine z_iconst C (z_d dtX3_putWall_0 18 rfl) ?_
      exact ret _ _ _ _ (z_d dtX3_putWall_0 19 rfl) (⟨σ, rfl, Or.inl ⟨by rw [hk]; omega, rfl, rfl⟩⟩) rfl
  · have hk : zKw σ a b = 4 := by unfold zKw; rw [if_pos h_10]
    refine z_aload_n C (z_d dtX3_putWall_0 7 rfl) rfl ?_
    refine gf_X3_30 C (z_d dtX3_putWall_0 8 rfl) ?_
    refine z_goto (tgt := 24) C (z_d dtX3_putWall_0 9 rfl) (by decide) ?_
    refine z_astore4 C (z_d dtX3_putWall_0 12 rfl) rfl ?_
    refine z_aload C (z_d dtX3_putWall_0 13 rfl) rfl ?_
    refine z_iload_n C (z_d dtX3_putWall_0 14 rfl) rfl ?_
    refine al_X8 C (z_d dtX3_putWall_0 15 rfl) (by omega) ?_
    try simp (decide := true) only [zS_s, zS_o, zC]
    refine z_iload_n C (z_d dtX3_putWall_0 16 rfl) rfl ?_
    refine z_icmp_ne (tgt := 36) C (z_d dtX3_putWall_0 17 rfl) (by decide) (by omega) (fun h_31 => ?_) (fun h_31 => ?_)
    · refine z_aload C (z_d dtX3_putWall_0 20 rfl) rfl ?_
      refine z_iload_n C (z_d dtX3_putWall_0 21 rfl) rfl ?_
      refine z_iload_n C (z_d dtX3_putWall_0 22 rfl) rfl ?_
      refine as_X8 C (z_d dtX3_putWall_0 23 rfl) (by omega) (by omega) ?_
      refine z_aload_n C (z_d dtX3_putWall_0 24 rfl) rfl ?_
      refine z_dup C (z_d dtX3_putWall_0 25 rfl) rfl ?_
      refine gf_X3_21 C (z_d dtX3_putWall_0 26 rfl) ?_
      try simp (decide := true) only [zS_s, zS_o, zC]
      refine z_iload_n C (z_d dtX3_putWall_0 27 rfl) rfl ?_
      refine z_if_eq (tgt := 54) C (z_d dtX3_putWall_0 28 rfl) (by decide) (by omega) (fun h_47 => ?_) (fun h_47 => ?_)
      · refine z_iconst C (z_d dtX3_putWall_0 31 rfl) ?_
        refine z_iadd C (z_d dtX3_putWall_0 32 rfl) ?_
        refine pf_X3_21 C (z_d dtX3_putWall_0 33 rfl) ?_
        try rw [show σ 31 0 + 1 = σ 31 0 + (2 * s - 1) by omega]
        try rw [show σ 31 0 + -1 = σ 31 0 + (2 * s - 1) by omega]
        generalize hμ : zS (zS σ _ _) 31 _ = μ
        have hm : zE μ (zS (zS σ (zKw σ a b) (zU (σ (zKw σ a b)) a s)) 31 (zC (σ 31 0 + (2 * s - 1)))) [33] := by
          rw [← hμ, hk]; exact zE_rf
        have hm2 : zE μ σ [4, 5, 31] := by
          rw [← hμ]; exact zE_set (zE_set zE_rf (by decide)) (by decide)
        have m4 : zBo μ 4 := by
          rw [← hμ]
          first | exact zBo_u h4 h01 | exact h4
        have m5 : zBo μ 5 := by
          rw [← hμ]
          first | exact zBo_u h5 h01 | exact h5
        refine z_aload_n C (z_d dtX3_putWall_0 34 rfl) rfl ?_
        refine z_callVv C (z_d dtX3_putWall_0 35 rfl) (k_X3_chartSteps  (zHw_E hm2 (by decide) (by decide) (by decide) hw) (by rw [hm2 3 (by decide)]; exact hs) m4 m5 (zBo_E hm2 (by decide) h6)) cal_X3_chartSteps gw_5_1 rfl 1 3 rfl rfl rfl rfl hR ⟨rfl, rfl, rfl, rfl⟩ rfl (fun w_60 h_60 => ?_)
        obtain ⟨σ_60, rfl, hE_60, hT_60⟩ := h_60
        refine z_iconst C (z_d dtX3_putWall_0 36 rfl) ?_
        exact ret _ _ _ _ (z_d dtX3_putWall_0 37 rfl) (⟨_, rfl, Or.inr ⟨by rw [hk]; omega, rfl, zE_tr hE_60 hm, hT_60⟩⟩) rfl
      · refine z_iconst C (z_d dtX3_putWall_0 29 rfl) ?_
        refine z_goto (tgt := 55) C (z_d dtX3_putWall_0 30 rfl) (by decide) ?_
        refine z_iadd C (z_d dtX3_putWall_0 32 rfl) ?_
        refine pf_X3_21 C (z_d dtX3_putWall_0 33 rfl) ?_
        try rw [show σ 31 0 + 1 = σ 31 0 + (2 * s - 1) by omega]
        try rw [show σ 31 0 + -1 = σ 31 0 + (2 * s - 1) by omega]
        generalize hμ : zS (zS σ _ _) 31 _ = μ
        have hm : zE μ (zS (zS σ (zKw σ a b) (zU (σ (zKw σ a b)) a s)) 31 (zC (σ 31 0 + (2 * s - 1)))) [33] := by
          rw [← hμ, hk]; exact zE_rf
        have hm2 : zE μ σ [4, 5, 31] := by
          rw [← hμ]; exact zE_set (zE_set zE_rf (by decide)) (by decide)
        have m4 : zBo μ 4 := by
          rw [← hμ]
          first | exact zBo_u h4 h01 | exact h4
        have m5 : zBo μ 5 := by
          rw [← hμ]
          first | exact zBo_u h5 h01 | exact h5
        refine z_aload_n C (z_d dtX3_putWall_0 34 rfl) rfl ?_
        refine z_callVv C (z_d dtX3_putWall_0 35 rfl) (k_X3_chartSteps  (zHw_E hm2 (by decide) (by decide) (by decide) hw) (by rw [hm2 3 (by decide)]; exact hs) m4 m5 (zBo_E hm2 (by decide) h6)) cal_X3_chartSteps gw_5_1 rfl 1 3 rfl rfl rfl rfl hR ⟨rfl, rfl, rfl, rfl⟩ rfl (fun w_60 h_60 => ?_)
        obtain ⟨σ_60, rfl, hE_60, hT_60⟩ := h_60
        refine z_iconst C (z_d dtX3_putWall_0 36 rfl) ?_
        exact ret _ _ _ _ (z_d dtX3_putWall_0 37 rfl) (⟨_, rfl, Or.inr ⟨by rw [hk]; omega, rfl, zE_tr hE_60 hm, hT_60⟩⟩) rfl
    · refine z_iconst C (z_d dtX3_putWall_0 18 rfl) ?_
      exact ret _ _ _ _ (z_d dtX3_putWall_0 19 rfl) (⟨σ, rfl, Or.inl ⟨by rw [hk]; omega, rfl, rfl⟩⟩) rfl

set_option maxRecDepth 100000 in
set_option maxHeartbeats 4000000 in
theorem k_X3_putLift {l : Launch} {D : va_G} {t : Nat → ClassId} {ad : Nat → Nat} {σ : zMem} {x y s : Int} (hw : zHw σ) (hx : 0 ≤ x ∧ x < σ 1 0) (hy : 0 ≤ y ∧ y < σ 2 0) (h01 : s = 0 ∨ s = 1) (hs : 0 ≤ σ 3 0 ∧ σ 3 0 ≤ 9) (h4 : zBo σ 4) (h5 : zBo σ 5) (h6 : zBo σ 6) : z_Ci l D t yX3_putLift cX3_putLift 5 .int 3 68 0 0 [.ref (ad 1), .int (zI x), .int (zI y), .int (zI s)] (wX ad t σ) (fun r w => ∃ σ', w = wX ad t σ' ∧ ((σ 6 (y * σ 1 0 + x) = s ∧ r = 0 ∧ σ' = σ) ∨ (¬ σ 6 (y * σ 1 0 + x) = s ∧ r = 1 ∧ zE σ' (zS (zS σ 6 (zU (σ 6) (y * σ 1 0 + x) s)) 32 (zC (σ 32 0 + (2 * s - 1)))) [33] ∧ zTb σ'))) := by
  refine z_Ci_of (by decide +kernel) [some (.ref (ad 1)), some (.int (zI x)), some (.int (zI y)), some (.int (zI s)), none] rfl rfl (Nat.le_of_ble_eq_true rfl) fun K hl hD ht hR hn C ret => ?_
  subst hl; subst hD; subst ht
  have hN := zHw_N hw
  have hW := hw; unfold zHw at hW
  have b6 := h6 (y * σ 1 0 + x)
  have hp := zPlace hw hx hy
  refine z_iload_n C (z_d dtX3_putLift_0 0 rfl) rfl ?_
  refine z_aload_n C (z_d dtX3_putLift_0 1 rfl) rfl ?_
  refine gf_X3_15 C (z_d dtX3_putLift_0 2 rfl) ?_
  try simp (decide := true) only [zS_s, zS_o, zC]
  refine z_imul C (z_d dtX3_putLift_0 3 rfl) ?_
  refine z_iload_n C (z_d dtX3_putLift_0 4 rfl) rfl ?_
  refine z_iadd C (z_d dtX3_putLift_0 5 rfl) ?_
  refine z_istore4 C (z_d dtX3_putLift_0 6 rfl) rfl ?_
  refine z_aload_n C (z_d dtX3_putLift_0 7 rfl) rfl ?_
  refine gf_X3_37 C (z_d dtX3_putLift_0 8 rfl) ?_
  refine z_iload C (z_d dtX3_putLift_0 9 rfl) rfl ?_
  refine al_X10 C (z_d dtX3_putLift_0 10 rfl) (by omega) ?_
  try simp (decide := true) only [zS_s, zS_o, zC]
  refine z_iload_n C (z_d dtX3_putLift_0 11 rfl) rfl ?_
  refine z_icmp_ne (tgt := 23) C (z_d dtX3_putLift_0 12 rfl) (by decide) (by omega) (fun h_18 => ?_) (fun h_18 => ?_)
  · refine z_aload_n C (z_d dtX3_putLift_0 15 rfl) rfl ?_
    refine gf_X3_37 C (z_d dtX3_putLift_0 16 rfl) ?_
    refine z_iload C (z_d dtX3_putLift_0 17 rfl) rfl ?_
    refine z_iload_n C (z_d dtX3_putLift_0 18 rfl) rfl ?_
    refine as_X10 C (z_d dtX3_putLift_0 19 rfl) (by omega) (by omega) ?_
    refine z_aload_n C (z_d dtX3_putLift_0 20 rfl) rfl ?_
    refine z_dup C (z_d dtX3_putLift_0 21 rfl) rfl ?_
    refine gf_X3_24 C (z_d dtX3_putLift_0 22 rfl) ?_
    try simp (decide := true) only [zS_s, zS_o, zC]
    refine z_iload_n C (z_d dtX3_putLift_0 23 rfl) rfl ?_
    refine z_if_eq (tgt := 44) C (z_d dtX3_putLift_0 24 rfl) (by decide) (by omega) (fun h_37 => ?_) (fun h_37 => ?_)
    · refine z_iconst C (z_d dtX3_putLift_0 27 rfl) ?_
      refine z_iadd C (z_d dtX3_putLift_0 28 rfl) ?_
      refine pf_X3_24 C (z_d dtX3_putLift_0 29 rfl) ?_
      try rw [show σ 32 0 + 1 = σ 32 0 + (2 * s - 1) by omega]
      try rw [show σ 32 0 + -1 = σ 32 0 + (2 * s - 1) by omega]
      generalize hμ : zS (zS σ _ _) 32 _ = μ
      have hm : zE μ (zS (zS σ 6 (zU (σ 6) (y * σ 1 0 + x) s)) 32 (zC (σ 32 0 + (2 * s - 1)))) [33] := by
        rw [← hμ]; exact zE_rf
      have hm2 : zE μ σ [6, 32] := by
        rw [← hμ]; exact zE_set (zE_set zE_rf (by decide)) (by decide)
      have m6 : zBo μ 6 := by
        rw [← hμ]
        exact zBo_u h6 h01
      refine z_aload_n C (z_d dtX3_putLift_0 30 rfl) rfl ?_
      refine z_callVv C (z_d dtX3_putLift_0 31 rfl) (k_X3_chartSteps  (zHw_E hm2 (by decide) (by decide) (by decide) hw) (by rw [hm2 3 (by decide)]; exact hs) (zBo_E hm2 (by decide) h4) (zBo_E hm2 (by decide) h5) m6) cal_X3_chartSteps gw_5_1 rfl 1 3 rfl rfl rfl rfl hR ⟨rfl, rfl, rfl, rfl⟩ rfl (fun w_50 h_50 => ?_)
      obtain ⟨σ_50, rfl, hE_50, hT_50⟩ := h_50
      refine z_iconst C (z_d dtX3_putLift_0 32 rfl) ?_
      exact ret _ _ _ _ (z_d dtX3_putLift_0 33 rfl) (⟨_, rfl, Or.inr ⟨by omega, rfl, zE_tr hE_50 hm, hT_50⟩⟩) rfl
    · refine z_iconst C (z_d dtX3_putLift_0 25 rfl) ?_
      refine z_goto (tgt := 45) C (z_d dtX3_putLift_0 26 rfl) (by decide) ?_
      refine z_iadd C (z_d dtX3_putLift_0 28 rfl) ?_
      refine pf_X3_24 C (z_d dtX3_putLift_0 29 rfl) ?_
      try rw [show σ 32 0 + 1 = σ 32 0 + (2 * s - 1) by omega]
      try rw [show σ 32 0 + -1 = σ 32 0 + (2 * s - 1) by omega]
      generalize hμ : zS (zS σ _ _) 32 _ = μ
      have hm : zE μ (zS (zS σ 6 (zU (σ 6) (y * σ 1 0 + x) s)) 32 (zC (σ 32 0 + (2 * s - 1)))) [33] := by
        rw [← hμ]; exact zE_rf
      have hm2 : zE μ σ [6, 32] := by
        rw [← hμ]; exact zE_set (zE_set zE_rf (by decide)) (by decide)
      have m6 : zBo μ 6 := by
        rw [← hμ]
        exact zBo_u h6 h01
      refine z_aload_n C (z_d dtX3_putLift_0 30 rfl) rfl ?_
      refine z_callVv C (z_d dtX3_putLift_0 31 rfl) (k_X3_chartSteps  (zHw_E hm2 (by decide) (by decide) (by decide) hw) (by rw [hm2 3 (by decide)]; exact hs) (zBo_E hm2 (by decide) h4) (zBo_E hm2 (by decide) h5) m6) cal_X3_chartSteps gw_5_1 rfl 1 3 rfl rfl rfl rfl hR ⟨rfl, rfl, rfl, rfl⟩ rfl (fun w_50 h_50 => ?_)
      obtain ⟨σ_50, rfl, hE_50, hT_50⟩ := h_50
      refine z_iconst C (z_d dtX3_putLift_0 32 rfl) ?_
      exact ret _ _ _ _ (z_d dtX3_putLift_0 33 rfl) (⟨_, rfl, Or.inr ⟨by omega, rfl, zE_tr hE_50 hm, hT_50⟩⟩) rfl
  · refine z_iconst C (z_d dtX3_putLift_0 13 rfl) ?_
    exact ret _ _ _ _ (z_d dtX3_putLift_0 14 rfl) (⟨σ, rfl, Or.inl ⟨by omega, rfl, rfl⟩⟩) rfl

set_option maxRecDepth 100000 in
set_option maxHeartbeats 4000000 in
theorem k_X3_putStay {l : Launch} {D : va_G} {t : Nat → ClassId} {ad : Nat → Nat} {σ : zMem} {s : Int} (hw : zHw σ) (h09 : 0 ≤ s ∧ s ≤ 9) (h4 : zBo σ 4) (h5 : zBo σ 5) (h6 : zBo σ 6) : z_Ci l D t yX3_putStay cX3_putStay 3 .int 3 68 0 0 [.ref (ad 1), .int (zI s)] (wX ad t σ) (fun r w => ∃ σ', w = wX ad t σ' ∧ r = σ 3 0 ∧ zE σ' (zS σ 3 (zC s)) [33] ∧ zTb σ') := by
  refine z_Ci_of (by decide +kernel) [some (.ref (ad 1)), some (.int (zI s)), none] rfl rfl (Nat.le_of_ble_eq_true rfl) fun K hl hD ht hR hn C ret => ?_
  subst hl; subst hD; subst ht
  refine z_aload_n C (z_d dtX3_putStay_0 0 rfl) rfl ?_
  refine gf_X3_27 C (z_d dtX3_putStay_0 1 rfl) ?_
  refine z_istore_n2 C (z_d dtX3_putStay_0 2 rfl) rfl ?_
  refine z_aload_n C (z_d dtX3_putStay_0 3 rfl) rfl ?_
  refine z_iload_n C (z_d dtX3_putStay_0 4 rfl) rfl ?_
  refine pf_X3_27 C (z_d dtX3_putStay_0 5 rfl) ?_
  have hm2 : zE (zS σ 3 (zC s)) σ [3] := zE_set zE_rf (by decide)
  refine z_aload_n C (z_d dtX3_putStay_0 6 rfl) rfl ?_
  refine z_callVv C (z_d dtX3_putStay_0 7 rfl) (k_X3_chartSteps  (zHw_E hm2 (by decide) (by decide) (by decide) hw) h09 (zBo_E hm2 (by decide) h4) (zBo_E hm2 (by decide) h5) (zBo_E hm2 (by decide) h6)) cal_X3_chartSteps gw_5_1 rfl 1 3 rfl rfl rfl rfl hR ⟨rfl, rfl, rfl, rfl⟩ rfl (fun w_11 h_11 => ?_)
  obtain ⟨σ_11, rfl, hE_11, hT_11⟩ := h_11
  refine z_iload_n C (z_d dtX3_putStay_0 8 rfl) rfl ?_
  exact ret _ _ _ _ (z_d dtX3_putStay_0 9 rfl) (⟨_, rfl, rfl, hE_11, hT_11⟩) rfl
