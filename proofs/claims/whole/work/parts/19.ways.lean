/-! THE BEST WAY -/
theorem zSa_E {μ σ : zMem} {l : List Nat} (h : zE μ σ l) (h0 : 0 ∉ l := by decide) (h1 : 1 ∉ l := by decide) (h2 : 2 ∉ l := by decide) (h3 : 3 ∉ l := by decide) (h33 : 33 ∉ l := by decide) (V : Int → Int) (c d : Int) : zSa μ V c d = zSa σ V c d := by
  unfold zSa
  rw [h 33 h33, zN_E h h0 h1 h2, zLik_E h h3]
theorem zBd_E {μ σ : zMem} {l : List Nat} (h : zE μ σ l) (h0 : 0 ∉ l := by decide) (h1 : 1 ∉ l := by decide) (h2 : 2 ∉ l := by decide) (h3 : 3 ∉ l := by decide) (h33 : 33 ∉ l := by decide) (V : Int → Int) (c : Int) : ∀ n : Nat, zBd μ V c n = zBd σ V c n
  | 0 => rfl
  | n + 1 => by
    rw [zBd, zBd, zBd_E h h0 h1 h2 h3 h33 V c n, zSa_E h h0 h1 h2 h3 h33]
theorem zRw_E {μ σ : zMem} {l : List Nat} (h : zE μ σ l) (h7 : 7 ∉ l := by decide) (h8 : 8 ∉ l := by decide) (h20 : 20 ∉ l := by decide) (s row c o wo : Int) : ∀ n : Nat, zRw μ s row c o wo n = zRw σ s row c o wo n
  | 0 => rfl
  | n + 1 => by
    rw [zRw, zRw, zRw_E h h7 h8 h20 s row c o wo n, zHv_E h h20, h 7 h7, zWt_E h h8]
theorem zV_E {μ σ : zMem} {l : List Nat} (h : zE μ σ l) (h0 : 0 ∉ l := by decide) (h1 : 1 ∉ l := by decide) (h2 : 2 ∉ l := by decide) (h3 : 3 ∉ l := by decide) (h33 : 33 ∉ l := by decide) (h7 : 7 ∉ l := by decide) (h8 : 8 ∉ l := by decide) (h20 : 20 ∉ l := by decide) (z wo R : Int) : ∀ k : Nat, zV μ z wo R k = zV σ z wo R k
  | 0 => by
    funext c
    simp only [zV]
    rw [zRw_E h h7 h8 h20]
  | k + 1 => by
    funext c
    simp only [zV]
    rw [zV_E h h0 h1 h2 h3 h33 h7 h8 h20 z wo R k, zBd_E h h0 h1 h2 h3 h33, zRw_E h h7 h8 h20]
theorem zWy_E {μ σ : zMem} {l : List Nat} (h : zE μ σ l) (h0 : 0 ∉ l := by decide) (h1 : 1 ∉ l := by decide) (h2 : 2 ∉ l := by decide) (h3 : 3 ∉ l := by decide) (h33 : 33 ∉ l := by decide) (h7 : 7 ∉ l := by decide) (h8 : 8 ∉ l := by decide) (h20 : 20 ∉ l := by decide) (z wo R : Int) : ∀ k : Nat, zWy μ z wo R k = zWy σ z wo R k
  | 0 => by
    rw [zWy, zWy, zV_E h h0 h1 h2 h3 h33 h7 h8 h20, zN_E h h0 h1 h2]
  | k + 1 => by
    rw [zWy, zWy, zWy_E h h0 h1 h2 h3 h33 h7 h8 h20 z wo R k, zV_E h h0 h1 h2 h3 h33 h7 h8 h20, zBd_E h h0 h1 h2 h3 h33, h 33 h33]
theorem zBd_t {σ : zMem} {V : Int → Int} (c : Int) : ∀ n : Nat, -1 ≤ (zBd σ V c n).2 ∧ ((zBd σ V c n).1 = -1 ∨ (0 ≤ σ 33 (c * 7 + (zBd σ V c n).1) ∧ σ 33 (c * 7 + (zBd σ V c n).1) < zN σ))
  | 0 => ⟨show (-1 : Int) ≤ -1 from Int.le_refl _, Or.inl rfl⟩
  | n + 1 => by
    have a := zBd_t (σ := σ) (V := V) c n
    rw [zBd]
    split
    · rename_i h
      dsimp only
      have b := a.1
      refine ⟨by omega, ?_⟩
      by_cases q : 0 ≤ σ 33 (c * 7 + n) ∧ σ 33 (c * 7 + n) < zN σ
      · exact Or.inr q
      · exfalso
        unfold zSa at h
        split at h
        · omega
        · first
            | omega
            | (rw [if_neg q] at h; omega)
    · exact a
theorem zWy_b {σ : zMem} (hw : zHw σ) (ht : zTb σ) (hs : 0 ≤ σ 3 0 ∧ σ 3 0 ≤ 9) (hmp : zMp σ) {z wo R : Int} : ∀ k : Nat, 0 ≤ zWy σ z wo R k ∧ zWy σ z wo R k < zN σ
  | 0 => by
    have hN := zHw_N hw
    have a := zMx_b (zV σ z wo R (R - 1).toNat) (zN σ).toNat
    rw [zWy]
    have := a.2 (by omega)
    omega
  | k + 1 => by
    have a := zWy_b hw ht hs hmp (z := z) (wo := wo) (R := R) k
    have b := (zBd_t (σ := σ) (V := zV σ z wo R (R - 1 - ((k : Int) + 1)).toNat) (zWy σ z wo R k) 7).2
    rw [zWy]
    split
    · exact a
    · rename_i h
      exact b.resolve_left h
theorem zV_s0 {σ : zMem} {z wo R c : Int} {i : Nat} (hi : i = 0) : zRw σ z (R - 1 - (i : Int)) c 0 wo 8 + 0 = zV σ z wo R i c := by
  subst hi
  simp only [zV]
  rw [show R - 1 - ((0 : Nat) : Int) = R - 1 by omega]
  omega
theorem zV_s1 {σ : zMem} {z wo R c : Int} {i : Nat} (hi : 1 ≤ i) : ((zBd σ (zV σ z wo R (i - 1)) c 7).2 = -1 → -1 = zV σ z wo R i c) ∧ (¬ (zBd σ (zV σ z wo R (i - 1)) c 7).2 = -1 → zRw σ z (R - 1 - (i : Int)) c 0 wo 8 + (zBd σ (zV σ z wo R (i - 1)) c 7).2 = zV σ z wo R i c) := by
  obtain ⟨k, rfl⟩ : ∃ k, i = k + 1 := ⟨i - 1, by omega⟩
  simp only [zV, Nat.add_sub_cancel]
  rw [show R - 1 - ((k + 1 : Nat) : Int) = R - 1 - ((k : Int) + 1) by omega]
  constructor
  · intro h; rw [if_pos h]
  · intro h; rw [if_neg h]

set_option maxRecDepth 100000 in
set_option maxHeartbeats 4000000 in
theorem k_X6_trace {l : Launch} {D : va_G} {t : Nat → ClassId} {ad : Nat → Nat} {σ : zMem} {z wo R f : Int} (hw : zHw σ) (ht : zTb σ) (hs : 0 ≤ σ 3 0 ∧ σ 3 0 ≤ 9) (hmp : zMp σ) (hR2 : 1 ≤ R ∧ R ≤ 30) (hf : f = zWy σ z wo R 0) (hV : ∀ row c : Int, 0 ≤ row → row < R → 0 ≤ c → c < zN σ → σ 41 (row * 72 + c) = zV σ z wo R (R - 1 - row).toNat c) : z_Cv l D t yX6_trace cX6_trace 6 4 94 0 0 [.ref (ad 4), .ref (ad 1), .int (zI f), .int (zI R)] (wX ad t σ) (fun w => ∃ σ', w = wX ad t σ' ∧ zE σ' σ [39] ∧ ∀ k : Nat, k < R → σ' 39 k = zWy σ z wo R k) := by
  refine z_Cv_of (by decide +kernel) [some (.ref (ad 4)), some (.ref (ad 1)), some (.int (zI f)), some (.int (zI R)), none, none] rfl rfl (Nat.le_of_ble_eq_true rfl) fun K hl hD ht hR hnm C ret => ?_
  subst hl; subst hD; subst ht
  refine z_aload_n C (z_d dtX6_trace_0 0 rfl) rfl ?_
  refine gf_X6_9 C (z_d dtX6_trace_0 1 rfl) ?_
  refine z_iconst C (z_d dtX6_trace_0 2 rfl) ?_
  refine z_iload_n C (z_d dtX6_trace_0 3 rfl) rfl ?_
  refine as_X18 C (z_d dtX6_trace_0 4 rfl) (by omega) ?_
  refine z_iconst C (z_d dtX6_trace_0 5 rfl) ?_
  refine z_istore4 C (z_d dtX6_trace_0 6 rfl) rfl ?_
  have lp_10 : ∀ (N_10 : Nat) (j : Nat) (k : Int) (μ : zMem), (k = j + 1 ∧ j + 1 ≤ R) → (zE μ σ [39]) → (∀ q : Nat, q < j + 1 → μ 39 q = zWy σ z wo R q) → (R - j).toNat < N_10 → Gd K 0 0 10 [some (.ref (ad 4)), some (.ref (ad 1)), some (.int (zI f)), some (.int (zI R)), some (.int (zI k)), none] [] (wX ad (z_t K) μ) := by
    intro N_10
    induction N_10 with
    | zero => intro j k μ hj hE hm hm_10; exact absurd hm_10 (Nat.not_lt_zero _)
    | succ N_10 ih_10 =>
      intro j k μ hj hE hm hm_10
      obtain ⟨rfl, hj⟩ := hj
      have hN := zHw_N hw
      have eN := zN_E hE (by decide) (by decide) (by decide)
      have hyb := zWy_b hw ht hs hmp (z := z) (wo := wo) (R := R) j
      have ey : μ 39 ((j : Int) + 1 - 1) = zWy σ z wo R j := by
        rw [show (j : Int) + 1 - 1 = j by omega]
        exact hm j (by omega)
      have e41 := hE 41 (by decide)
      have e33 := hE 33 (by decide)
      have e3 := hE 3 (by decide)
      have hon : ∀ c, 0 ≤ c → c < zN μ → -1 ≤ μ 41 (((j : Int) + 1 - 1 + 1) * 72 + c) ∧ μ 41 (((j : Int) + 1 - 1 + 1) * 72 + c) ≤ 1000000 ∨ ¬ ((j : Int) + 1 < R) := by
        intro c h0 h1
        by_cases q : (j : Int) + 1 < R
        · left
          rw [e41, show (j : Int) + 1 - 1 + 1 = j + 1 by omega, hV _ _ (by omega) q h0 (by omega)]
          have := zV_b hmp hs z wo R (R - 1 - (j + 1)).toNat c
          omega
        · exact Or.inr q
      have hbd : ((j : Int) + 1 < R) → zBd μ (fun c => μ 41 (((j : Int) + 1 - 1 + 1) * 72 + c)) (zWy σ z wo R j) 7 = zBd σ (zV σ z wo R (R - 1 - ((j : Int) + 1)).toNat) (zWy σ z wo R j) 7 := fun q => by
        rw [zBd_E hE (by decide) (by decide) (by decide) (by decide) (by decide)]
        refine zBd_cg (fun c h0 h1 => ?_) _ 7
        try dsimp only
        rw [e41, show (j : Int) + 1 - 1 + 1 = j + 1 by omega]
        exact hV _ _ (by omega) q h0 h1
      have hbb := zBd_b (V := zV σ z wo R (R - 1 - ((j : Int) + 1)).toNat) (b := 1000000) hs (by omega) (fun c _ _ => by
        have := zV_b hmp hs z wo R (R - 1 - ((j : Int) + 1)).toNat c
        omega) (zWy σ z wo R j) 7
      refine z_iload C (z_d dtX6_trace_0 7 rfl) rfl ?_
      refine z_iload_n C (z_d dtX6_trace_0 8 rfl) rfl ?_
      refine z_icmp_ge (tgt := 82) C (z_d dtX6_trace_0 9 rfl) (by decide) (by omega) (fun h_13 => ?_) (fun h_13 => ?_)
      · exact ret _ _ _ (z_d dtX6_trace_1 8 rfl) (⟨_, rfl, hE, fun q h => hm q (by omega)⟩)
      · refine z_aload_n C (z_d dtX6_trace_0 10 rfl) rfl ?_
        refine z_aload_n C (z_d dtX6_trace_0 11 rfl) rfl ?_
        refine z_iload C (z_d dtX6_trace_0 12 rfl) rfl ?_
        refine z_iconst C (z_d dtX6_trace_0 13 rfl) ?_
        refine z_isub C (z_d dtX6_trace_0 14 rfl) ?_
        refine z_aload_n C (z_d dtX6_trace_0 15 rfl) rfl ?_
        refine gf_X6_9 C (z_d dtX6_trace_0 16 rfl) ?_
        refine z_iload C (z_d dtX6_trace_0 17 rfl) rfl ?_
        refine z_iconst C (z_d dtX6_trace_0 18 rfl) ?_
        refine z_isub C (z_d dtX6_trace_0 19 rfl) ?_
        refine al_X18 C (z_d dtX6_trace_0 20 rfl) (by omega) ?_
        try simp (decide := true) only [zS_s, zS_o, zC, ey]
        refine z_callV C (z_d dtX6_trace_0 21 rfl) (k_X6_bestDirection  (zHw_E hE (by decide) (by decide) (by decide) hw) (zTb_E hE (by decide) (by decide) (by decide) (by decide) (by decide) (by decide) (by decide) (by decide) ht) (by rw [e3]; exact hs) (fun c h0 h1 => (hon c h0 h1).resolve_right (by omega)) (by first | assumption | omega) (by first | assumption | omega)) cal_X6_bestDirection gw_26_4 rfl 4 6 rfl rfl rfl rfl hR ⟨rfl, rfl, rfl, rfl⟩ rfl (fun r_31 w_31 h_31 => ?_)
        obtain ⟨rfl, rfl⟩ := h_31
        rw [hbd (by omega)]
        refine z_istore5 C (z_d dtX6_trace_0 22 rfl) rfl ?_
        refine z_aload_n C (z_d dtX6_trace_0 23 rfl) rfl ?_
        refine gf_X6_9 C (z_d dtX6_trace_0 24 rfl) ?_
        refine z_iload C (z_d dtX6_trace_0 25 rfl) rfl ?_
        refine z_iload C (z_d dtX6_trace_0 26 rfl) rfl ?_
        refine z_iconst C (z_d dtX6_trace_0 27 rfl) ?_
        refine z_icmp_ne (tgt := 60) C (z_d dtX6_trace_0 28 rfl) (by decide) (by omega) (fun h_45 => ?_) (fun h_45 => ?_)
        · refine z_aload_n C (z_d dtX6_trace_0 36 rfl) rfl ?_
          refine z_aload_n C (z_d dtX6_trace_0 37 rfl) rfl ?_
          refine gf_X6_9 C (z_d dtX6_trace_0 38 rfl) ?_
          refine z_iload C (z_d dtX6_trace_0 39 rfl) rfl ?_
          refine z_iconst C (z_d dtX6_trace_1 0 rfl) ?_
          refine z_isub C (z_d dtX6_trace_1 1 rfl) ?_
          refine al_X18 C (z_d dtX6_trace_1 2 rfl) (by omega) ?_
          try simp (decide := true) only [zS_s, zS_o, zC, ey]
          refine z_iload C (z_d dtX6_trace_1 3 rfl) rfl ?_
          refine z_callV C (z_d dtX6_trace_1 4 rfl) (k_X3_targetOf  (by first | assumption | omega) (by first | assumption | omega)) cal_X3_targetOf gw_26_12 rfl 1 3 rfl rfl rfl rfl hR ⟨rfl, rfl, rfl, rfl⟩ rfl (fun r_72 w_72 h_72 => ?_)
          obtain ⟨rfl, rfl⟩ := h_72
          rw [e33]
          refine as_X18 C (z_d dtX6_trace_1 5 rfl) (by omega) ?_
          refine z_iinc4 C (z_d dtX6_trace_1 6 rfl) rfl ?_
          refine z_goto (tgt := 10) C (z_d dtX6_trace_1 7 rfl) (by decide) ?_
          refine z_drop5 ?_
          exact ih_10 (j + 1) _ _ (by omega) (zE_set hE (by decide)) (fun q h => by
                rw [zS_s]
                by_cases e : q = j + 1
                · subst e
                  rw [show ((j + 1 : Nat) : Int) = (j : Int) + 1 by omega, zU_s, zWy]
                  first | rw [if_pos (by omega)] | rw [if_neg (by omega)]
                · rw [zU_n (by omega)]
                  exact hm q (by omega)) (by omega)
        · refine z_aload_n C (z_d dtX6_trace_0 29 rfl) rfl ?_
          refine gf_X6_9 C (z_d dtX6_trace_0 30 rfl) ?_
          refine z_iload C (z_d dtX6_trace_0 31 rfl) rfl ?_
          refine z_iconst C (z_d dtX6_trace_0 32 rfl) ?_
          refine z_isub C (z_d dtX6_trace_0 33 rfl) ?_
          refine al_X18 C (z_d dtX6_trace_0 34 rfl) (by omega) ?_
          try simp (decide := true) only [zS_s, zS_o, zC, ey]
          refine z_goto (tgt := 75) C (z_d dtX6_trace_0 35 rfl) (by decide) ?_
          refine as_X18 C (z_d dtX6_trace_1 5 rfl) (by omega) ?_
          refine z_iinc4 C (z_d dtX6_trace_1 6 rfl) rfl ?_
          refine z_goto (tgt := 10) C (z_d dtX6_trace_1 7 rfl) (by decide) ?_
          refine z_drop5 ?_
          exact ih_10 (j + 1) _ _ (by omega) (zE_set hE (by decide)) (fun q h => by
                rw [zS_s]
                by_cases e : q = j + 1
                · subst e
                  rw [show ((j + 1 : Nat) : Int) = (j : Int) + 1 by omega, zU_s, zWy]
                  first | rw [if_pos (by omega)] | rw [if_neg (by omega)]
                · rw [zU_n (by omega)]
                  exact hm q (by omega)) (by omega)
  exact lp_10 _ 0 _ _ (by omega) (zE_set zE_rf (by decide)) (fun q h => by
        obtain rfl : q = 0 := by omega
        show zU (σ 39) 0 f 0 = _
        rw [zU_s, hf]) (Nat.lt_succ_self _)

set_option maxRecDepth 100000 in
set_option maxHeartbeats 4000000 in
theorem k_X6_findWay {l : Launch} {D : va_G} {t : Nat → ClassId} {ad : Nat → Nat} {σ : zMem} {z wo : Int} (hw : zHw σ) (ht : zTb σ) (hs : 0 ≤ σ 3 0 ∧ σ 3 0 ≤ 9) (hz : 0 ≤ z ∧ z < 4) (hsz : 0 ≤ σ 40 z ∧ σ 40 z ≤ 240) (hit : zIt σ) (hmp : zMp σ) (hdd : σ 30 0 = zDb (σ 7)) (h7 : zBo σ 7) (hwo : -1 ≤ wo ∧ wo < 8) : z_Ci l D t yX6_findWay cX6_findWay 11 .int 5 119 0 0 [.ref (ad 4), .ref (ad 1), .ref (ad 2), .ref (ad (22 + z.toNat)), .int (zI wo)] (wX ad t σ) (fun r w => ∃ σ', w = wX ad t σ' ∧ zE σ' σ [39, 41] ∧ ((σ 40 z / 8 = 0 ∧ r = -1) ∨ (1 ≤ σ 40 z / 8 ∧ r = zV σ z wo (σ 40 z / 8) (σ 40 z / 8 - 1).toNat (zWy σ z wo (σ 40 z / 8) 0) ∧ (r = -1 ∨ ∀ k : Nat, k < σ 40 z / 8 → σ' 39 k = zWy σ z wo (σ 40 z / 8) k)))) := by
  refine z_Ci_of (by decide +kernel) [some (.ref (ad 4)), some (.ref (ad 1)), some (.ref (ad 2)), some (.ref (ad (22 + z.toNat))), some (.int (zI wo)), none, none, none, none, none, none] rfl rfl (Nat.le_of_ble_eq_true rfl) fun K hl hD ht hR hnm C ret => ?_
  subst hl; subst hD; subst ht
  have hN := zHw_N hw
  have hRb : 0 ≤ σ 40 z / 8 ∧ σ 40 z / 8 ≤ 30 := by omega
  refine z_aload_n C (z_d dtX6_findWay_0 0 rfl) rfl ?_
  refine z_callV C (z_d dtX6_findWay_0 1 rfl) (k_X5_rows  (by first | assumption | omega) (by first | assumption | omega)) cal_X5_rows gw_26_2 rfl (22 + _) 5 (wX_sh (by omega)) rfl rfl rfl hR ⟨rfl, rfl, rfl, rfl⟩ rfl (fun r_1 w_1 h_1 => ?_)
  obtain ⟨rfl, rfl⟩ := h_1
  refine z_bipush C (z_d dtX6_findWay_0 2 rfl) zb_30 ?_
  refine z_mminP C (z_d dtX6_findWay_0 3 rfl) gw_26_1 gw_9_19 gw_9_20 gw_9_21 rfl (by rw [hR]; exact Nat.le_of_ble_eq_true rfl) (by rw [hR]; exact Nat.le_of_ble_eq_true rfl) (by rw [hR]; exact Nat.le_refl _) (by rw [hR]; exact Nat.le_refl _) (by omega) (fun m_6 h_6 => ?_)
  obtain rfl : m_6 = σ 40 z / 8 := by omega
  refine z_istore5 C (z_d dtX6_findWay_0 4 rfl) rfl ?_
  refine z_iload C (z_d dtX6_findWay_0 5 rfl) rfl ?_
  refine z_if_ne (tgt := 18) C (z_d dtX6_findWay_0 6 rfl) (by decide) (by omega) (fun h_13 => ?_) (fun h_13 => ?_)
  · refine z_iload C (z_d dtX6_findWay_0 9 rfl) rfl ?_
    refine z_iconst C (z_d dtX6_findWay_0 10 rfl) ?_
    refine z_isub C (z_d dtX6_findWay_0 11 rfl) ?_
    refine z_istore6 C (z_d dtX6_findWay_0 12 rfl) rfl ?_
    have lp_24 : ∀ (N_24 : Nat) (i : Nat) (row : Int) (μ : zMem), (row = σ 40 z / 8 - 1 - i ∧ i ≤ σ 40 z / 8) → (zE μ σ [41]) → (∀ j : Nat, j < i → ∀ c : Int, 0 ≤ c → c < zN σ → μ 41 ((σ 40 z / 8 - 1 - j) * 72 + c) = zV σ z wo (σ 40 z / 8) j c) → (σ 40 z / 8 - i).toNat < N_24 → Gd K 0 0 24 [some (.ref (ad 4)), some (.ref (ad 1)), some (.ref (ad 2)), some (.ref (ad (22 + z.toNat))), some (.int (zI wo)), some (.int (zI (σ 40 z / 8))), some (.int (zI row)), none, none, none, none] [] (wX ad (z_t K) μ) := by
      intro N_24
      induction N_24 with
      | zero => intro i row μ hi hE hA hm_24; exact absurd hm_24 (Nat.not_lt_zero _)
      | succ N_24 ih_24 =>
        intro i row μ hi hE hA hm_24
        obtain ⟨rfl, hi⟩ := hi
        refine z_iload C (z_d dtX6_findWay_0 13 rfl) rfl ?_
        refine z_if_lt (tgt := 140) C (z_d dtX6_findWay_0 14 rfl) (by decide) (by omega) (fun h_26 => ?_) (fun h_26 => ?_)
        · refine z_aload_n C (z_d dtX6_findWay_1 33 rfl) rfl ?_
          refine z_aload_n C (z_d dtX6_findWay_1 34 rfl) rfl ?_
          refine z_callV C (z_d dtX6_findWay_1 35 rfl) (k_X3_cells  ) cal_X3_cells gw_26_3 rfl 1 3 rfl rfl rfl rfl hR ⟨rfl, rfl, rfl, rfl⟩ rfl (fun r_142 w_142 h_142 => ?_)
          obtain ⟨rfl, rfl⟩ := h_142
          have eN2 := zN_E hE (by decide) (by decide) (by decide)
          refine z_top (show zN μ = (((zN σ).toNat : Nat) : Int) by omega) ?_
          have hcol : ∀ c : Int, 0 ≤ c → c < ((zN σ).toNat : Nat) → μ 41 c = zV σ z wo (σ 40 z / 8) (σ 40 z / 8 - 1).toNat c := fun c h0 h1 => by
            have := hA (σ 40 z / 8 - 1).toNat (by omega) c h0 (by omega)
            rw [show (σ 40 z / 8 - 1 - (((σ 40 z / 8 - 1).toNat : Nat) : Int)) * 72 + c = c by omega] at this
            exact this
          refine z_callV C (z_d dtX6_findWay_1 36 rfl) (k_X6_bestFirst  (by first | assumption | omega) (fun c h0 h1 => by
                    rw [hcol c h0 h1]
                    have := zV_b hmp hs z wo (σ 40 z / 8) (σ 40 z / 8 - 1).toNat c
                    omega)) cal_X6_bestFirst gw_26_16 rfl 4 6 rfl rfl rfl rfl hR ⟨rfl, rfl, rfl, rfl⟩ rfl (fun r_145 w_145 h_145 => ?_)
          obtain ⟨rfl, hr145⟩ := h_145
          rw [zMx_cg (F := μ 41) (G := zV σ z wo (σ 40 z / 8) (σ 40 z / 8 - 1).toNat) _ hcol] at hr145
          have hfb := zMx_b (zV σ z wo (σ 40 z / 8) (σ 40 z / 8 - 1).toNat) (zN σ).toNat
          have hfv := zV_b hmp hs z wo (σ 40 z / 8) (σ 40 z / 8 - 1).toNat r_145
          have hfc := hcol r_145 (by omega) (by omega)
          have hf0 : r_145 = zWy σ z wo (σ 40 z / 8) 0 := hr145
          refine z_istore6 C (z_d dtX6_findWay_1 37 rfl) rfl ?_
          refine z_aload_n C (z_d dtX6_findWay_1 38 rfl) rfl ?_
          refine gf_X6_15 C (z_d dtX6_findWay_1 39 rfl) ?_
          refine z_iload C (z_d dtX6_findWay_2 0 rfl) rfl ?_
          refine al_X19 C (z_d dtX6_findWay_2 1 rfl) (by omega) ?_
          try simp (decide := true) only [zS_s, zS_o, zC]
          refine z_iconst C (z_d dtX6_findWay_2 2 rfl) ?_
          refine z_icmp_eq (tgt := 170) C (z_d dtX6_findWay_2 3 rfl) (by decide) (by omega) (fun h_158 => ?_) (fun h_158 => ?_)
          · refine z_aload_n C (z_d dtX6_findWay_2 9 rfl) rfl ?_
            refine gf_X6_15 C (z_d dtX6_findWay_2 10 rfl) ?_
            refine z_iload C (z_d dtX6_findWay_2 11 rfl) rfl ?_
            refine al_X19 C (z_d dtX6_findWay_2 12 rfl) (by omega) ?_
            try simp (decide := true) only [zS_s, zS_o, zC]
            exact ret _ _ _ _ (z_d dtX6_findWay_2 13 rfl) (by
                first
                  | exact ⟨_, rfl, zE_tr (zE_mo hE_167 (by decide)) (zE_mo hE (by decide)), Or.inr ⟨by omega, by rw [h41, hfc, hf0], Or.inr (fun k hk => by
                      rw [h_167 k hk, zWy_E hE (by decide) (by decide) (by decide) (by decide) (by decide) (by decide) (by decide) (by decide)])⟩⟩
                  | exact ⟨_, rfl, zE_mo hE (by decide), Or.inr ⟨by omega, by rw [hfc, hf0], Or.inl (by omega)⟩⟩) rfl
          · refine z_aload_n C (z_d dtX6_findWay_2 4 rfl) rfl ?_
            refine z_aload_n C (z_d dtX6_findWay_2 5 rfl) rfl ?_
            refine z_iload C (z_d dtX6_findWay_2 6 rfl) rfl ?_
            refine z_iload C (z_d dtX6_findWay_2 7 rfl) rfl ?_
            refine z_callVv C (z_d dtX6_findWay_2 8 rfl) (k_X6_trace (z := z) (wo := wo) (R := σ 40 z / 8) (zHw_E hE (by decide) (by decide) (by decide) hw) (zTb_E hE (by decide) (by decide) (by decide) (by decide) (by decide) (by decide) (by decide) (by decide) ht) (by rw [hE 3 (by decide)]; exact hs) (by unfold zMp; rw [hE 8 (by decide)]; exact hmp) (by first | assumption | omega) (by rw [zWy_E hE (by decide) (by decide) (by decide) (by decide) (by decide) (by decide) (by decide) (by decide)]; exact hf0) (fun row c a1 a2 a3 a4 => by
                      rw [zV_E hE (by decide) (by decide) (by decide) (by decide) (by decide) (by decide) (by decide) (by decide)]
                      have := hA (σ 40 z / 8 - 1 - row).toNat (by omega) c a3 (by omega)
                      rw [show σ 40 z / 8 - 1 - (((σ 40 z / 8 - 1 - row).toNat : Nat) : Int) = row by omega] at this
                      exact this)) cal_X6_trace gw_26_20 rfl 4 6 rfl rfl rfl rfl hR ⟨rfl, rfl, rfl, rfl⟩ rfl (fun w_167 h_167 => ?_)
            obtain ⟨σ_167, rfl, hE_167, h_167⟩ := h_167
            have h41 : σ_167 41 = μ 41 := hE_167 41 (by decide)
            refine z_aload_n C (z_d dtX6_findWay_2 9 rfl) rfl ?_
            refine gf_X6_15 C (z_d dtX6_findWay_2 10 rfl) ?_
            refine z_iload C (z_d dtX6_findWay_2 11 rfl) rfl ?_
            refine al_X19 C (z_d dtX6_findWay_2 12 rfl) (by omega) ?_
            try simp (decide := true) only [zS_s, zS_o, zC]
            exact ret _ _ _ _ (z_d dtX6_findWay_2 13 rfl) (by
                first
                  | exact ⟨_, rfl, zE_tr (zE_mo hE_167 (by decide)) (zE_mo hE (by decide)), Or.inr ⟨by omega, by rw [h41, hfc, hf0], Or.inr (fun k hk => by
                      rw [h_167 k hk, zWy_E hE (by decide) (by decide) (by decide) (by decide) (by decide) (by decide) (by decide) (by decide)])⟩⟩
                  | exact ⟨_, rfl, zE_mo hE (by decide), Or.inr ⟨by omega, by rw [hfc, hf0], Or.inl (by omega)⟩⟩) rfl
        · have jn_43 : ∀ (il : Int), ((il = 1 ∧ i = 0) ∨ (il = 0 ∧ 1 ≤ i)) → Gd K 0 0 43 [some (.ref (ad 4)), some (.ref (ad 1)), some (.ref (ad 2)), some (.ref (ad (22 + z.toNat))), some (.int (zI wo)), some (.int (zI (σ 40 z / 8))), some (.int (zI (σ 40 z / 8 - 1 - (i : Int)))), none, none, none, none] [.int (zI il)] (wX ad (z_t K) μ) := by
            intro il hil
            refine z_istore7 C (z_d dtX6_findWay_0 23 rfl) rfl ?_
            refine z_iconst C (z_d dtX6_findWay_0 24 rfl) ?_
            refine z_istore8 C (z_d dtX6_findWay_0 25 rfl) rfl ?_
            have lp_48 : ∀ (N_48 : Nat) (c il : Int) (ν : zMem), (0 ≤ c ∧ c ≤ zN σ) → ((il = 1 ∧ i = 0) ∨ (il = 0 ∧ 1 ≤ i)) → (zE ν σ [41]) → (∀ j : Nat, j < i → ∀ c : Int, 0 ≤ c → c < zN σ → ν 41 ((σ 40 z / 8 - 1 - j) * 72 + c) = zV σ z wo (σ 40 z / 8) j c) → (∀ c2 : Int, 0 ≤ c2 → c2 < c → ν 41 ((σ 40 z / 8 - 1 - i) * 72 + c2) = zV σ z wo (σ 40 z / 8) i c2) → (zN σ - c).toNat < N_48 → Gd K 0 0 48 [some (.ref (ad 4)), some (.ref (ad 1)), some (.ref (ad 2)), some (.ref (ad (22 + z.toNat))), some (.int (zI wo)), some (.int (zI (σ 40 z / 8))), some (.int (zI (σ 40 z / 8 - 1 - (i : Int)))), some (.int (zI il)), some (.int (zI c)), none, none] [] (wX ad (z_t K) ν) := by
              intro N_48
              induction N_48 with
              | zero => intro c il ν hc hil2 hE2 hA2 hB hm_48; exact absurd hm_48 (Nat.not_lt_zero _)
              | succ N_48 ih_48 =>
                intro c il ν hc hil2 hE2 hA2 hB hm_48
                have eN := zN_E hE2 (by decide) (by decide) (by decide)
                have e41 := hE2 41
                have hw2 := zHw_E hE2 (by decide) (by decide) (by decide) hw
                have ht2 := zTb_E hE2 (by decide) (by decide) (by decide) (by decide) (by decide) (by decide) (by decide) (by decide) ht
                have e3 := hE2 3 (by decide)
                have e30 := hE2 30 (by decide)
                have e7 := hE2 7 (by decide)
                have e8 := hE2 8 (by decide)
                have e20 := hE2 20 (by decide)
                have hrw := zRw_b hmp z (σ 40 z / 8 - 1 - i) c 0 wo 8
                have eR := zRw_E hE2 (by decide) (by decide) (by decide) z (σ 40 z / 8 - 1 - i) c 0 wo 8
                have hon : 1 ≤ i → ∀ c, 0 ≤ c → c < zN ν → -1 ≤ ν 41 ((σ 40 z / 8 - 1 - (i : Int) + 1) * 72 + c) ∧ ν 41 ((σ 40 z / 8 - 1 - (i : Int) + 1) * 72 + c) ≤ 1000000 := fun q c h0 h1 => by
                  rw [show σ 40 z / 8 - 1 - (i : Int) + 1 = σ 40 z / 8 - 1 - ((i - 1 : Nat) : Int) by omega, hA2 (i - 1) (by omega) c h0 (by omega)]
                  have := zV_b hmp hs z wo (σ 40 z / 8) (i - 1) c
                  omega
                have hcg : 1 ≤ i → ∀ c, zBd ν (fun c => ν 41 ((σ 40 z / 8 - 1 - (i : Int) + 1) * 72 + c)) c 7 = zBd σ (zV σ z wo (σ 40 z / 8) (i - 1)) c 7 := fun q c => by
                  rw [zBd_E hE2 (by decide) (by decide) (by decide) (by decide) (by decide)]
                  refine zBd_cg (fun c h0 h1 => ?_) _ 7
                  try dsimp only
                  rw [show σ 40 z / 8 - 1 - (i : Int) + 1 = σ 40 z / 8 - 1 - ((i - 1 : Nat) : Int) by omega, hA2 (i - 1) (by omega) c h0 h1]
                have hbb := zBd_b (V := zV σ z wo (σ 40 z / 8) (i - 1)) (b := 1000000) hs (by omega) (fun c _ _ => by
                  have := zV_b hmp hs z wo (σ 40 z / 8) (i - 1) c
                  omega) c 7
                refine z_iload C (z_d dtX6_findWay_0 26 rfl) rfl ?_
                refine z_aload_n C (z_d dtX6_findWay_0 27 rfl) rfl ?_
                refine z_callV C (z_d dtX6_findWay_0 28 rfl) (k_X3_cells  ) cal_X3_cells gw_26_3 rfl 1 3 rfl rfl rfl rfl hR ⟨rfl, rfl, rfl, rfl⟩ rfl (fun r_51 w_51 h_51 => ?_)
                obtain ⟨rfl, rfl⟩ := h_51
                rw [eN]
                refine z_icmp_ge (tgt := 134) C (z_d dtX6_findWay_0 29 rfl) (by decide) (by omega) (fun h_54 => ?_) (fun h_54 => ?_)
                · refine z_iinc6 C (z_d dtX6_findWay_1 31 rfl) rfl ?_
                  refine z_goto (tgt := 24) C (z_d dtX6_findWay_1 32 rfl) (by decide) ?_
                  refine z_drop7 ?_
                  refine z_drop8 ?_
                  exact ih_24 (i + 1) _ _ (by omega) hE2 (fun j h c h0 h1 => by
                          rcases Nat.lt_succ_iff_lt_or_eq.mp h with p | p
                          · exact hA2 j p c h0 h1
                          · subst p; exact hB c h0 (by omega)) (by omega)
                · refine z_iload C (z_d dtX6_findWay_0 30 rfl) rfl ?_
                  refine z_if_eq (tgt := 66) C (z_d dtX6_findWay_0 31 rfl) (by decide) (by omega) (fun h_59 => ?_) (fun h_59 => ?_)
                  · refine z_aload_n C (z_d dtX6_findWay_0 34 rfl) rfl ?_
                    refine z_aload_n C (z_d dtX6_findWay_0 35 rfl) rfl ?_
                    refine z_iload C (z_d dtX6_findWay_0 36 rfl) rfl ?_
                    refine z_iload C (z_d dtX6_findWay_0 37 rfl) rfl ?_
                    refine z_aload_n C (z_d dtX6_findWay_0 38 rfl) rfl ?_
                    refine z_aload_n C (z_d dtX6_findWay_0 39 rfl) rfl ?_
                    refine z_iload C (z_d dtX6_findWay_1 0 rfl) rfl ?_
                    refine z_iload C (z_d dtX6_findWay_1 1 rfl) rfl ?_
                    refine z_callV C (z_d dtX6_findWay_1 2 rfl) (k_X6_bestDirection  hw2 ht2 (by rw [e3]; exact hs) (hon (by omega)) (by first | assumption | omega) (by omega)) cal_X6_bestDirection gw_26_4 rfl 4 6 rfl rfl rfl rfl hR ⟨rfl, rfl, rfl, rfl⟩ rfl (fun r_78 w_78 h_78 => ?_)
                    obtain ⟨rfl, rfl⟩ := h_78
                    rw [hcg (by omega)]
                    refine z_callV C (z_d dtX6_findWay_1 3 rfl) (k_X6_scoreAfter  hw2 ht2 (by rw [e3]; exact hs) (hon (by omega)) (by first | assumption | omega) (by omega) (by omega)) cal_X6_scoreAfter gw_26_8 rfl 4 6 rfl rfl rfl rfl hR ⟨rfl, rfl, rfl, rfl⟩ rfl (fun r_81 w_81 h_81 => ?_)
                    obtain ⟨rfl, rfl⟩ := h_81
                    rw [← hcg (by omega), zBd_sa, hcg (by omega)]
                    refine z_istore9 C (z_d dtX6_findWay_1 4 rfl) rfl ?_
                    refine z_aload_n C (z_d dtX6_findWay_1 5 rfl) rfl ?_
                    refine z_aload_n C (z_d dtX6_findWay_1 6 rfl) rfl ?_
                    refine z_iload C (z_d dtX6_findWay_1 7 rfl) rfl ?_
                    refine z_iload C (z_d dtX6_findWay_1 8 rfl) rfl ?_
                    refine z_iconst C (z_d dtX6_findWay_1 9 rfl) ?_
                    refine z_iload C (z_d dtX6_findWay_1 10 rfl) rfl ?_
                    refine z_callV C (z_d dtX6_findWay_1 11 rfl) (k_X4_rowWeight  (by first | assumption | omega) (by unfold zIt; rw [e20]; exact hit) (by first | assumption | omega) (by omega) (by unfold zMp; rw [e8]; exact hmp) (by rw [e30, e7]; exact hdd) (zBo_E hE2 (by decide) h7) (by first | assumption | omega) (by first | assumption | omega)) cal_X4_rowWeight gw_26_15 rfl 2 4 rfl rfl rfl rfl hR ⟨rfl, rfl, rfl, rfl⟩ rfl (fun r_95 w_95 h_95 => ?_)
                    obtain ⟨rfl, rfl⟩ := h_95
                    rw [eR]
                    refine z_istore10 C (z_d dtX6_findWay_1 12 rfl) rfl ?_
                    refine z_aload_n C (z_d dtX6_findWay_1 13 rfl) rfl ?_
                    refine gf_X6_15 C (z_d dtX6_findWay_1 14 rfl) ?_
                    refine z_iload C (z_d dtX6_findWay_1 15 rfl) rfl ?_
                    refine z_bipush C (z_d dtX6_findWay_1 16 rfl) zb_72 ?_
                    refine z_imul C (z_d dtX6_findWay_1 17 rfl) ?_
                    refine z_iload C (z_d dtX6_findWay_1 18 rfl) rfl ?_
                    refine z_iadd C (z_d dtX6_findWay_1 19 rfl) ?_
                    refine z_iload C (z_d dtX6_findWay_1 20 rfl) rfl ?_
                    refine z_iconst C (z_d dtX6_findWay_1 21 rfl) ?_
                    refine z_icmp_ne (tgt := 122) C (z_d dtX6_findWay_1 22 rfl) (by decide) (by omega) (fun h_115 => ?_) (fun h_115 => ?_)
                    · refine z_iload C (z_d dtX6_findWay_1 25 rfl) rfl ?_
                      refine z_iload C (z_d dtX6_findWay_1 26 rfl) rfl ?_
                      refine z_iadd C (z_d dtX6_findWay_1 27 rfl) ?_
                      refine as_X19 C (z_d dtX6_findWay_1 28 rfl) (by omega) ?_
                      refine z_iinc8 C (z_d dtX6_findWay_1 29 rfl) rfl ?_
                      refine z_goto (tgt := 48) C (z_d dtX6_findWay_1 30 rfl) (by decide) ?_
                      refine z_drop9 ?_
                      refine z_drop10 ?_
                      exact ih_48 _ _ _ (by omega) hil2 (zE_set hE2 (by decide)) (fun j h c2 h0 h1 => by
                              rw [zS_s, zU_n (by omega)]
                              exact hA2 j h c2 h0 h1) (fun c2 h0 h1 => by
                              rw [zS_s]
                              by_cases e : c2 = c
                              · subst e
                                rw [zU_s]
                                first | exact zV_s0 (by omega) | exact (zV_s1 (by omega)).1 h_115 | exact (zV_s1 (by omega)).2 h_115 | (exfalso; omega)
                              · rw [zU_n (by omega)]
                                exact hB c2 h0 (by omega)) (by omega)
                    · refine z_iconst C (z_d dtX6_findWay_1 23 rfl) ?_
                      refine z_goto (tgt := 127) C (z_d dtX6_findWay_1 24 rfl) (by decide) ?_
                      refine as_X19 C (z_d dtX6_findWay_1 28 rfl) (by omega) ?_
                      refine z_iinc8 C (z_d dtX6_findWay_1 29 rfl) rfl ?_
                      refine z_goto (tgt := 48) C (z_d dtX6_findWay_1 30 rfl) (by decide) ?_
                      refine z_drop9 ?_
                      refine z_drop10 ?_
                      exact ih_48 _ _ _ (by omega) hil2 (zE_set hE2 (by decide)) (fun j h c2 h0 h1 => by
                              rw [zS_s, zU_n (by omega)]
                              exact hA2 j h c2 h0 h1) (fun c2 h0 h1 => by
                              rw [zS_s]
                              by_cases e : c2 = c
                              · subst e
                                rw [zU_s]
                                first | exact zV_s0 (by omega) | exact (zV_s1 (by omega)).1 h_115 | exact (zV_s1 (by omega)).2 h_115 | (exfalso; omega)
                              · rw [zU_n (by omega)]
                                exact hB c2 h0 (by omega)) (by omega)
                  · refine z_iconst C (z_d dtX6_findWay_0 32 rfl) ?_
                    refine z_goto (tgt := 84) C (z_d dtX6_findWay_0 33 rfl) (by decide) ?_
                    refine z_istore9 C (z_d dtX6_findWay_1 4 rfl) rfl ?_
                    refine z_aload_n C (z_d dtX6_findWay_1 5 rfl) rfl ?_
                    refine z_aload_n C (z_d dtX6_findWay_1 6 rfl) rfl ?_
                    refine z_iload C (z_d dtX6_findWay_1 7 rfl) rfl ?_
                    refine z_iload C (z_d dtX6_findWay_1 8 rfl) rfl ?_
                    refine z_iconst C (z_d dtX6_findWay_1 9 rfl) ?_
                    refine z_iload C (z_d dtX6_findWay_1 10 rfl) rfl ?_
                    refine z_callV C (z_d dtX6_findWay_1 11 rfl) (k_X4_rowWeight  (by first | assumption | omega) (by unfold zIt; rw [e20]; exact hit) (by first | assumption | omega) (by omega) (by unfold zMp; rw [e8]; exact hmp) (by rw [e30, e7]; exact hdd) (zBo_E hE2 (by decide) h7) (by first | assumption | omega) (by first | assumption | omega)) cal_X4_rowWeight gw_26_15 rfl 2 4 rfl rfl rfl rfl hR ⟨rfl, rfl, rfl, rfl⟩ rfl (fun r_95 w_95 h_95 => ?_)
                    obtain ⟨rfl, rfl⟩ := h_95
                    rw [eR]
                    refine z_istore10 C (z_d dtX6_findWay_1 12 rfl) rfl ?_
                    refine z_aload_n C (z_d dtX6_findWay_1 13 rfl) rfl ?_
                    refine gf_X6_15 C (z_d dtX6_findWay_1 14 rfl) ?_
                    refine z_iload C (z_d dtX6_findWay_1 15 rfl) rfl ?_
                    refine z_bipush C (z_d dtX6_findWay_1 16 rfl) zb_72 ?_
                    refine z_imul C (z_d dtX6_findWay_1 17 rfl) ?_
                    refine z_iload C (z_d dtX6_findWay_1 18 rfl) rfl ?_
                    refine z_iadd C (z_d dtX6_findWay_1 19 rfl) ?_
                    refine z_iload C (z_d dtX6_findWay_1 20 rfl) rfl ?_
                    refine z_iconst C (z_d dtX6_findWay_1 21 rfl) ?_
                    refine z_icmp_ne (tgt := 122) C (z_d dtX6_findWay_1 22 rfl) (by decide) (by omega) (fun h_115 => ?_) (fun h_115 => ?_)
                    · refine z_iload C (z_d dtX6_findWay_1 25 rfl) rfl ?_
                      refine z_iload C (z_d dtX6_findWay_1 26 rfl) rfl ?_
                      refine z_iadd C (z_d dtX6_findWay_1 27 rfl) ?_
                      refine as_X19 C (z_d dtX6_findWay_1 28 rfl) (by omega) ?_
                      refine z_iinc8 C (z_d dtX6_findWay_1 29 rfl) rfl ?_
                      refine z_goto (tgt := 48) C (z_d dtX6_findWay_1 30 rfl) (by decide) ?_
                      refine z_drop9 ?_
                      refine z_drop10 ?_
                      exact ih_48 _ _ _ (by omega) hil2 (zE_set hE2 (by decide)) (fun j h c2 h0 h1 => by
                              rw [zS_s, zU_n (by omega)]
                              exact hA2 j h c2 h0 h1) (fun c2 h0 h1 => by
                              rw [zS_s]
                              by_cases e : c2 = c
                              · subst e
                                rw [zU_s]
                                first | exact zV_s0 (by omega) | exact (zV_s1 (by omega)).1 h_115 | exact (zV_s1 (by omega)).2 h_115 | (exfalso; omega)
                              · rw [zU_n (by omega)]
                                exact hB c2 h0 (by omega)) (by omega)
                    · refine z_iconst C (z_d dtX6_findWay_1 23 rfl) ?_
                      refine z_goto (tgt := 127) C (z_d dtX6_findWay_1 24 rfl) (by decide) ?_
                      refine as_X19 C (z_d dtX6_findWay_1 28 rfl) (by omega) ?_
                      refine z_iinc8 C (z_d dtX6_findWay_1 29 rfl) rfl ?_
                      refine z_goto (tgt := 48) C (z_d dtX6_findWay_1 30 rfl) (by decide) ?_
                      refine z_drop9 ?_
                      refine z_drop10 ?_
                      exact ih_48 _ _ _ (by omega) hil2 (zE_set hE2 (by decide)) (fun j h c2 h0 h1 => by
                              rw [zS_s, zU_n (by omega)]
                              exact hA2 j h c2 h0 h1) (fun c2 h0 h1 => by
                              rw [zS_s]
                              by_cases e : c2 = c
                              · subst e
                                rw [zU_s]
                                first | exact zV_s0 (by omega) | exact (zV_s1 (by omega)).1 h_115 | exact (zV_s1 (by omega)).2 h_115 | (exfalso; omega)
                              · rw [zU_n (by omega)]
                                exact hB c2 h0 (by omega)) (by omega)
            exact lp_48 _ _ _ _ (by omega) hil hE hA (fun c2 h0 h1 => absurd h1 (by omega)) (Nat.lt_succ_self _)
          refine z_iload C (z_d dtX6_findWay_0 15 rfl) rfl ?_
          refine z_iload C (z_d dtX6_findWay_0 16 rfl) rfl ?_
          refine z_iconst C (z_d dtX6_findWay_0 17 rfl) ?_
          refine z_isub C (z_d dtX6_findWay_0 18 rfl) ?_
          refine z_icmp_ne (tgt := 42) C (z_d dtX6_findWay_0 19 rfl) (by decide) (by omega) (fun h_35 => ?_) (fun h_35 => ?_)
          · refine z_iconst C (z_d dtX6_findWay_0 22 rfl) ?_
            exact jn_43 _ (by omega)
          · refine z_iconst C (z_d dtX6_findWay_0 20 rfl) ?_
            refine z_goto (tgt := 43) C (z_d dtX6_findWay_0 21 rfl) (by decide) ?_
            exact jn_43 _ (by omega)
    exact lp_24 _ 0 _ _ (by omega) zE_rf (fun j h => absurd h (Nat.not_lt_zero _)) (Nat.lt_succ_self _)
  · refine z_iconst C (z_d dtX6_findWay_0 7 rfl) ?_
    exact ret _ _ _ _ (z_d dtX6_findWay_0 8 rfl) (⟨_, rfl, zE_rf, Or.inl ⟨by omega, rfl⟩⟩) rfl
