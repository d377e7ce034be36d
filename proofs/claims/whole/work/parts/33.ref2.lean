/-! THE REFERENCE: shares -/
set_option maxRecDepth 100000 in
set_option maxHeartbeats 4000000 in
theorem k_X8_whole {l : Launch} {D : va_G} {t : Nat → ClassId} {ad : Nat → Nat} {σ : zMem} {n : Nat} (hn : σ 60 0 = (n : Int) ∧ 1 ≤ n ∧ n ≤ 72) (h62 : ∀ c : Int, 0 ≤ c → c < n → 0 ≤ σ 62 c ∧ σ 62 c ≤ 5000000000000) : z_Ci l D t yX8_whole cX8_whole 6 .boolean 0 0 0 0 [.ref (ad 0)] (wM ad t σ) (fun r w => ∃ σ', w = wM ad t σ' ∧ ((zSum (σ 62) n = 0 ∧ r = 0 ∧ σ' = σ) ∨ (0 < zSum (σ 62) n ∧ r = 1 ∧ zE σ' σ [9, 63] ∧ ∀ c : Int, 0 ≤ c → c < n → σ' 9 c = zWh (σ 62) n c))) := by
  refine z_Ci_of (by decide +kernel) [some (.ref (ad 0)), none, none, none, none, none] rfl rfl (Nat.le_of_ble_eq_true rfl) fun K hl hD ht hR hnm C ret => ?_
  subst hl; subst hD; subst ht
  have hS0 := zSum_p (F := σ 62) n (fun c a b => (h62 c a b).1)
  refine z_lconst C (x := 0) rfl (z_d dtX8_whole_0 0 rfl) ?_
  refine z_lstore_n1 C (z_d dtX8_whole_0 1 rfl) rfl ?_
  refine z_iconst C (z_d dtX8_whole_0 2 rfl) ?_
  refine z_istore_n3 C (z_d dtX8_whole_0 3 rfl) rfl ?_
  have lp_4 : ∀ (N_4 : Nat) (i : Nat) (c s : Int), (c = i ∧ i ≤ n) → (s = zSum (σ 62) i) → n - i < N_4 → Gd K 0 0 4 [some (.ref (ad 0)), some (.long (zL s)), none, some (.int (zI c)), none, none] [] (wM ad (z_t K) σ) := by
    intro N_4
    induction N_4 with
    | zero => intro i c s hi hs hm_4; exact absurd hm_4 (Nat.not_lt_zero _)
    | succ N_4 ih_4 =>
      intro i c s hi hs hm_4
      obtain ⟨rfl, hi⟩ := hi
      have hsb := zSum_b (F := σ 62) (a := 0) (b := 5000000000000) i (fun c h0 h1 => h62 c h0 (by omega))
      have hci := fun q : i < n => h62 i (by omega) (by omega)
      refine z_iload_n C (z_d dtX8_whole_0 4 rfl) rfl ?_
      refine z_aload_n C (z_d dtX8_whole_0 5 rfl) rfl ?_
      refine gf_X8_83 C (z_d dtX8_whole_0 6 rfl) ?_
      try simp (decide := true) only [zS_s, zS_o, zC, zU_s, e62, e60]
      refine z_icmp_ge (tgt := 27) C (z_d dtX8_whole_0 7 rfl) (by decide) (by omega) (fun h_9 => ?_) (fun h_9 => ?_)
      · refine z_lload_n C (z_d dtX8_whole_0 17 rfl) rfl ?_
        refine z_lconst C (x := 0) rfl (z_d dtX8_whole_0 18 rfl) ?_
        refine z_lcmpP C (z_d dtX8_whole_0 19 rfl) (by omega) (fun m_29 h_29 => ?_)
        refine z_if_ne (tgt := 35) C (z_d dtX8_whole_0 20 rfl) (by decide) (by omega) (fun h_30 => ?_) (fun h_30 => ?_)
        · have hs2 : s = zSum (σ 62) n := by rw [hs, show i = n by omega]
          subst hs2
          have hS : 0 < zSum (σ 62) n := by omega
          have hlk := zLk_b hS
          refine z_ldc C gk_RX8_160 (z_d dtX8_whole_0 23 rfl) ?_
          refine z_istore_n3 C (z_d dtX8_whole_0 24 rfl) rfl ?_
          refine z_iconst C (z_d dtX8_whole_0 25 rfl) ?_
          refine z_istore4 C (z_d dtX8_whole_0 26 rfl) rfl ?_
          have lp_41 : ∀ (N_41 : Nat) (i2 : Nat) (c k : Int) (μ : zMem), (c = i2 ∧ i2 ≤ n) → (zE μ σ [9, 63]) → (k = 1000000 - zSum (zQo (σ 62) n) i2) → (∀ j : Int, 0 ≤ j → j < i2 → μ 9 j = zQo (σ 62) n j ∧ μ 63 j = zRe (σ 62) n j) → n - i2 < N_41 → Gd K 0 0 41 [some (.ref (ad 0)), some (.long (zL (zSum (σ 62) n))), none, some (.int (zI k)), some (.int (zI c)), none] [] (wM ad (z_t K) μ) := by
            intro N_41
            induction N_41 with
            | zero => intro i2 c k μ hi2 hE hk hm hm_41; exact absurd hm_41 (Nat.not_lt_zero _)
            | succ N_41 ih_41 =>
              intro i2 c k μ hi2 hE hk hm hm_41
              obtain ⟨rfl, hi2⟩ := hi2
              have e60 := hE 60 (by decide)
              have e62 := hE 62 (by decide)
              have hcj := fun q : i2 < n => h62 i2 (by omega) (by omega)
              have hqb := zSum_b (F := zQo (σ 62) n) (a := 0) (b := 1000000) i2 (fun c h0 h1 => zQo_b hS (fun c a b => (h62 c a b).1) c h0 (by omega))
              refine z_iload C (z_d dtX8_whole_0 27 rfl) rfl ?_
              refine z_aload_n C (z_d dtX8_whole_0 28 rfl) rfl ?_
              refine gf_X8_83 C (z_d dtX8_whole_0 29 rfl) ?_
              try simp (decide := true) only [zS_s, zS_o, zC, zU_s, e62, e60]
              refine z_icmp_ge (tgt := 107) C (z_d dtX8_whole_0 30 rfl) (by decide) (by omega) (fun h_47 => ?_) (fun h_47 => ?_)
              · refine z_drop4 ?_
                have lp_107 : ∀ (N_107 : Nat) (i3 : Nat) (k : Int) (ν : zMem), (k = zLk (σ 62) n - i3 ∧ i3 ≤ zLk (σ 62) n) → (zE ν σ [9, 63]) → ((∀ c : Int, 0 ≤ c → c < n → ν 9 c = (zHc n (-1) (zQo (σ 62) n, zRe (σ 62) n) i3).1 c) ∧ ∀ c : Int, 0 ≤ c → c < n → ν 63 c = (zHc n (-1) (zQo (σ 62) n, zRe (σ 62) n) i3).2 c) → (zLk (σ 62) n - i3).toNat < N_107 → Gd K 0 0 107 [some (.ref (ad 0)), some (.long (zL (zSum (σ 62) n))), none, some (.int (zI k)), none, none] [] (wM ad (z_t K) ν) := by
                  intro N_107
                  induction N_107 with
                  | zero => intro i3 k ν hi3 hE2 hq hm_107; exact absurd hm_107 (Nat.not_lt_zero _)
                  | succ N_107 ih_107 =>
                    intro i3 k ν hi3 hE2 hq hm_107
                    obtain ⟨rfl, hi3⟩ := hi3
                    have e60 := hE2 60 (by decide)
                    have hrm := zHc_rm (n := n) (v := -1) (b := 1000000000000000) (p := (zQo (σ 62) n, zRe (σ 62) n)) (by omega) (fun c a b => by
                      have x := Int.emod_nonneg (σ 62 c * 1000000) (show zSum (σ 62) n ≠ 0 by omega)
                      have y := Int.emod_lt_of_pos (σ 62 c * 1000000) hS
                      show -1 ≤ σ 62 c * 1000000 % zSum (σ 62) n ∧ σ 62 c * 1000000 % zSum (σ 62) n ≤ 1000000000000000
                      omega) i3
                    have hr : ∀ c : Int, 0 ≤ c → c < n → -1 ≤ ν 63 c ∧ ν 63 c ≤ 1000000000000000 := fun c a b => by rw [hq.2 c a b]; exact hrm c a b
                    refine z_iload_n C (z_d dtX8_whole_1 25 rfl) rfl ?_
                    refine z_if_le (tgt := 186) C (z_d dtX8_whole_1 26 rfl) (by decide) (by omega) (fun h_108 => ?_) (fun h_108 => ?_)
                    · refine z_iconst C (z_d dtX8_whole_2 26 rfl) ?_
                      exact ret _ _ _ _ (z_d dtX8_whole_2 27 rfl) (⟨_, rfl, Or.inr ⟨hS, rfl, hE2, fun c a b => by
                                rw [hq.1 c a b, ← zWm_eq hn.2.1 hS]
                                unfold zWm
                                rw [show (zLk (σ 62) n).toNat = i3 by omega]⟩⟩) (z_nb (by omega))
                    · refine z_iconst C (z_d dtX8_whole_1 27 rfl) ?_
                      refine z_istore4 C (z_d dtX8_whole_1 28 rfl) rfl ?_
                      refine z_iconst C (z_d dtX8_whole_1 29 rfl) ?_
                      refine z_istore5 C (z_d dtX8_whole_1 30 rfl) rfl ?_
                      have lp_117 : ∀ (N_117 : Nat) (c x : Int), (1 ≤ c ∧ c ≤ n) → (x = zMx (ν 63) c.toNat) → (n - c).toNat < N_117 → Gd K 0 0 117 [some (.ref (ad 0)), some (.long (zL (zSum (σ 62) n))), none, some (.int (zI (zLk (σ 62) n - (i3 : Int)))), some (.int (zI x)), some (.int (zI c))] [] (wM ad (z_t K) ν) := by
                        intro N_117
                        induction N_117 with
                        | zero => intro c x hc hx hm_117; exact absurd hm_117 (Nat.not_lt_zero _)
                        | succ N_117 ih_117 =>
                          intro c x hc hx hm_117
                          have hxb := zMx_b (ν 63) c.toNat
                          have hx0 := hr x (by omega) (by omega)
                          have hc0 := fun q : c < n => hr c (by omega) q
                          refine z_iload C (z_d dtX8_whole_1 31 rfl) rfl ?_
                          refine z_aload_n C (z_d dtX8_whole_1 32 rfl) rfl ?_
                          refine gf_X8_83 C (z_d dtX8_whole_1 33 rfl) ?_
                          try simp (decide := true) only [zS_s, zS_o, zC, zU_s, e62, e60]
                          refine z_icmp_ge (tgt := 159) C (z_d dtX8_whole_1 34 rfl) (by decide) (by omega) (fun h_123 => ?_) (fun h_123 => ?_)
                          · refine z_aload_n C (z_d dtX8_whole_2 11 rfl) rfl ?_
                            refine gf_X8_30 C (z_d dtX8_whole_2 12 rfl) ?_
                            refine z_iload C (z_d dtX8_whole_2 13 rfl) rfl ?_
                            refine z_dup2 C (z_d dtX8_whole_2 14 rfl) rfl rfl ?_
                            refine al_M6 C (z_d dtX8_whole_2 15 rfl) (by omega) ?_
                            try simp (decide := true) only [zS_s, zS_o, zC, zU_s, e62, e60]
                            refine z_iconst C (z_d dtX8_whole_2 16 rfl) ?_
                            refine z_iadd C (z_d dtX8_whole_2 17 rfl) ?_
                            refine as_M6 C (z_d dtX8_whole_2 18 rfl) (by omega) ?_
                            refine z_aload_n C (z_d dtX8_whole_2 19 rfl) rfl ?_
                            refine gf_X8_43 C (z_d dtX8_whole_2 20 rfl) ?_
                            refine z_iload C (z_d dtX8_whole_2 21 rfl) rfl ?_
                            refine z_ldc2 C gk_RX8_163 (z_d dtX8_whole_2 22 rfl) ?_
                            refine as_M10 C (z_d dtX8_whole_2 23 rfl) (by omega) ?_
                            refine z_iinc3 C (z_d dtX8_whole_2 24 rfl) rfl ?_
                            refine z_goto (tgt := 107) C (z_d dtX8_whole_2 25 rfl) (by decide) ?_
                            refine z_drop4 ?_
                            refine z_drop5 ?_
                            exact ih_107 (i3 + 1) _ _ (by omega) (zE_set (zE_set hE2 (by decide)) (by decide)) (by
                                    have ex : x = zMx (zHc n (-1) (zQo (σ 62) n, zRe (σ 62) n) i3).2 n := by
                                      rw [hx, show c = n by omega, Int.toNat_natCast]
                                      exact zMx_cg n hq.2
                                    have xb := zMx_f (F := (zHc n (-1) (zQo (σ 62) n, zRe (σ 62) n) i3).2) hn.2.1
                                    constructor
                                    · intro j a b
                                      show zU (ν 9) _ _ j = zU _ _ _ j
                                      rw [← ex]
                                      unfold zU
                                      rw [hq.1 j a b, hq.1 x (by omega) (by omega)]
                                    · intro j a b
                                      show zU (ν 63) _ _ j = zU _ _ _ j
                                      rw [← ex]
                                      unfold zU
                                      rw [hq.2 j a b]) (by omega)
                          · refine z_aload_n C (z_d dtX8_whole_1 35 rfl) rfl ?_
                            refine gf_X8_43 C (z_d dtX8_whole_1 36 rfl) ?_
                            refine z_iload C (z_d dtX8_whole_1 37 rfl) rfl ?_
                            refine al_M10 C (z_d dtX8_whole_1 38 rfl) (by omega) ?_
                            try simp (decide := true) only [zS_s, zS_o, zC, zU_s, e62, e60]
                            refine z_aload_n C (z_d dtX8_whole_1 39 rfl) rfl ?_
                            refine gf_X8_43 C (z_d dtX8_whole_2 0 rfl) ?_
                            refine z_iload C (z_d dtX8_whole_2 1 rfl) rfl ?_
                            refine al_M10 C (z_d dtX8_whole_2 2 rfl) (by omega) ?_
                            try simp (decide := true) only [zS_s, zS_o, zC, zU_s, e62, e60]
                            refine z_lcmpP C (z_d dtX8_whole_2 3 rfl) (by omega) (fun m_140 h_140 => ?_)
                            refine z_if_le (tgt := 149) C (z_d dtX8_whole_2 4 rfl) (by decide) (by omega) (fun h_141 => ?_) (fun h_141 => ?_)
                            · refine z_iload C (z_d dtX8_whole_2 7 rfl) rfl ?_
                              refine z_istore4 C (z_d dtX8_whole_2 8 rfl) rfl ?_
                              refine z_iinc5 C (z_d dtX8_whole_2 9 rfl) rfl ?_
                              refine z_goto (tgt := 117) C (z_d dtX8_whole_2 10 rfl) (by decide) ?_
                              exact ih_117 _ _ (by omega) (by
                                      rw [show (c + 1).toNat = c.toNat + 1 by omega, zMx, Int.toNat_of_nonneg (by omega), ← hx]
                                      first | rw [if_pos (by omega)] | rw [if_neg (by omega)]) (by omega)
                            · refine z_iload C (z_d dtX8_whole_2 5 rfl) rfl ?_
                              refine z_goto (tgt := 151) C (z_d dtX8_whole_2 6 rfl) (by decide) ?_
                              refine z_istore4 C (z_d dtX8_whole_2 8 rfl) rfl ?_
                              refine z_iinc5 C (z_d dtX8_whole_2 9 rfl) rfl ?_
                              refine z_goto (tgt := 117) C (z_d dtX8_whole_2 10 rfl) (by decide) ?_
                              exact ih_117 _ _ (by omega) (by
                                      rw [show (c + 1).toNat = c.toNat + 1 by omega, zMx, Int.toNat_of_nonneg (by omega), ← hx]
                                      first | rw [if_pos (by omega)] | rw [if_neg (by omega)]) (by omega)
                      exact lp_117 _ _ _ (by omega) (zMx_1 _).symm (Nat.lt_succ_self _)
                exact lp_107 _ 0 _ _ (by rw [hk, show i2 = n by omega]; unfold zLk at hlk ⊢; omega) hE ⟨fun c a b => (hm c a (by omega)).1, fun c a b => (hm c a (by omega)).2⟩ (Nat.lt_succ_self _)
              · refine z_aload_n C (z_d dtX8_whole_0 31 rfl) rfl ?_
                refine gf_X8_30 C (z_d dtX8_whole_0 32 rfl) ?_
                refine z_iload C (z_d dtX8_whole_0 33 rfl) rfl ?_
                refine z_aload_n C (z_d dtX8_whole_0 34 rfl) rfl ?_
                refine gf_X8_39 C (z_d dtX8_whole_0 35 rfl) ?_
                refine z_iload C (z_d dtX8_whole_0 36 rfl) rfl ?_
                refine al_M9 C (z_d dtX8_whole_0 37 rfl) (by omega) ?_
                try simp (decide := true) only [zS_s, zS_o, zC, zU_s, e62, e60]
                refine z_ldc2 C gk_RX8_161 (z_d dtX8_whole_0 38 rfl) ?_
                refine z_lmul C (z_d dtX8_whole_0 39 rfl) ?_
                refine z_lload_n C (z_d dtX8_whole_1 0 rfl) rfl ?_
                refine z_ldiv C (z_d dtX8_whole_1 1 rfl) (by omega) ?_
                refine z_l2i C (z_d dtX8_whole_1 2 rfl) ?_
                refine as_M6 C (z_d dtX8_whole_1 3 rfl) (by omega) ?_
                refine z_aload_n C (z_d dtX8_whole_1 4 rfl) rfl ?_
                refine gf_X8_43 C (z_d dtX8_whole_1 5 rfl) ?_
                refine z_iload C (z_d dtX8_whole_1 6 rfl) rfl ?_
                refine z_aload_n C (z_d dtX8_whole_1 7 rfl) rfl ?_
                refine gf_X8_39 C (z_d dtX8_whole_1 8 rfl) ?_
                refine z_iload C (z_d dtX8_whole_1 9 rfl) rfl ?_
                refine al_M9 C (z_d dtX8_whole_1 10 rfl) (by omega) ?_
                try simp (decide := true) only [zS_s, zS_o, zC, zU_s, e62, e60]
                refine z_ldc2 C gk_RX8_161 (z_d dtX8_whole_1 11 rfl) ?_
                refine z_lmul C (z_d dtX8_whole_1 12 rfl) ?_
                refine z_lload_n C (z_d dtX8_whole_1 13 rfl) rfl ?_
                refine z_lrem C (z_d dtX8_whole_1 14 rfl) (by omega) ?_
                refine as_M10 C (z_d dtX8_whole_1 15 rfl) (by omega) ?_
                refine z_iload_n C (z_d dtX8_whole_1 16 rfl) rfl ?_
                refine z_aload_n C (z_d dtX8_whole_1 17 rfl) rfl ?_
                refine gf_X8_30 C (z_d dtX8_whole_1 18 rfl) ?_
                refine z_iload C (z_d dtX8_whole_1 19 rfl) rfl ?_
                refine al_M6 C (z_d dtX8_whole_1 20 rfl) (by omega) ?_
                try simp (decide := true) only [zS_s, zS_o, zC, zU_s, e62, e60]
                refine z_isub C (z_d dtX8_whole_1 21 rfl) ?_
                refine z_istore_n3 C (z_d dtX8_whole_1 22 rfl) rfl ?_
                refine z_iinc4 C (z_d dtX8_whole_1 23 rfl) rfl ?_
                refine z_goto (tgt := 41) C (z_d dtX8_whole_1 24 rfl) (by decide) ?_
                exact ih_41 (i2 + 1) _ _ _ (by omega) (zE_set (zE_set hE (by decide)) (by decide)) (by
                        rw [zSum]
                        show _ = 1000000 - (_ + σ 62 i2 * 1000000 / zSum (σ 62) n)
                        omega) (fun j h0 h1 => by
                        show zU (μ 9) _ _ j = _ ∧ zU (μ 63) _ _ j = _
                        by_cases e : j = i2
                        · subst e; rw [zU_s, zU_s]; exact ⟨rfl, rfl⟩
                        · rw [zU_n e, zU_n e]; exact hm j h0 (by omega)) (by omega)
          exact lp_41 _ 0 _ _ _ (by omega) zE_rf (by simp [zSum]) (fun j h0 h1 => absurd h1 (by omega)) (Nat.lt_succ_self _)
        · refine z_iconst C (z_d dtX8_whole_0 21 rfl) ?_
          exact ret _ _ _ _ (z_d dtX8_whole_0 22 rfl) (⟨_, rfl, Or.inl ⟨by rw [show n = i by omega]; omega, rfl, rfl⟩⟩) (z_nb (by omega))
      · refine z_lload_n C (z_d dtX8_whole_0 8 rfl) rfl ?_
        refine z_aload_n C (z_d dtX8_whole_0 9 rfl) rfl ?_
        refine gf_X8_39 C (z_d dtX8_whole_0 10 rfl) ?_
        refine z_iload_n C (z_d dtX8_whole_0 11 rfl) rfl ?_
        refine al_M9 C (z_d dtX8_whole_0 12 rfl) (by omega) ?_
        try simp (decide := true) only [zS_s, zS_o, zC, zU_s, e62, e60]
        refine z_ladd C (z_d dtX8_whole_0 13 rfl) ?_
        refine z_lstore_n1 C (z_d dtX8_whole_0 14 rfl) rfl ?_
        refine z_iinc3 C (z_d dtX8_whole_0 15 rfl) rfl ?_
        refine z_goto (tgt := 4) C (z_d dtX8_whole_0 16 rfl) (by decide) ?_
        exact ih_4 (i + 1) _ _ (by omega) (by rw [zSum, hs]) (by omega)
  exact lp_4 _ 0 _ _ (by omega) rfl (Nat.lt_succ_self _)

set_option maxRecDepth 100000 in
set_option maxHeartbeats 4000000 in
theorem k_X8_alike {l : Launch} {D : va_G} {t : Nat → ClassId} {ad : Nat → Nat} {σ : zMem} {n : Nat} (hn : σ 60 0 = (n : Int) ∧ 1 ≤ n ∧ n ≤ 72) : z_Ci l D t yX8_alike cX8_alike 2 .int 1 25 0 0 [.ref (ad 0)] (wM ad t σ) (fun r w => ∃ σ', w = wM ad t σ' ∧ zE σ' σ [9, 62, 63] ∧ (∀ c : Int, 0 ≤ c → c < n → σ' 9 c = zWh (zC 1) n c) ∧ r = zWh (zC 1) n ((n : Int) - 1)) := by
  refine z_Ci_of (by decide +kernel) [some (.ref (ad 0)), none] rfl rfl (Nat.le_of_ble_eq_true rfl) fun K hl hD ht hR hnm C ret => ?_
  subst hl; subst hD; subst ht
  refine z_iconst C (z_d dtX8_alike_0 0 rfl) ?_
  refine z_istore_n1 C (z_d dtX8_alike_0 1 rfl) rfl ?_
  have lp_2 : ∀ (N_2 : Nat) (i : Nat) (c : Int) (μ : zMem), (c = i ∧ i ≤ n) → (zE μ σ [62]) → (∀ j : Int, 0 ≤ j → j < i → μ 62 j = 1) → n - i < N_2 → Gd K 0 0 2 [some (.ref (ad 0)), some (.int (zI c))] [] (wM ad (z_t K) μ) := by
    intro N_2
    induction N_2 with
    | zero => intro i c μ hi hE hm hm_2; exact absurd hm_2 (Nat.not_lt_zero _)
    | succ N_2 ih_2 =>
      intro i c μ hi hE hm hm_2
      obtain ⟨rfl, hi⟩ := hi
      have e60 := hE 60 (by decide)
      refine z_iload_n C (z_d dtX8_alike_0 2 rfl) rfl ?_
      refine z_aload_n C (z_d dtX8_alike_0 3 rfl) rfl ?_
      refine gf_X8_83 C (z_d dtX8_alike_0 4 rfl) ?_
      try simp (decide := true) only [zS_s, zS_o, zC, e60]
      refine z_icmp_ge (tgt := 23) C (z_d dtX8_alike_0 5 rfl) (by decide) (by omega) (fun h_7 => ?_) (fun h_7 => ?_)
      · refine z_aload_n C (z_d dtX8_alike_0 13 rfl) rfl ?_
        refine z_callV C (z_d dtX8_alike_0 14 rfl) (k_X8_whole (n := n) (by rw [e60]; exact hn) (fun c a b => by rw [hm c a (by omega)]; omega)) cal_X8_whole gw_9_2 rfl 0 8 rfl rfl rfl rfl hR ⟨rfl, rfl, rfl, rfl⟩ rfl (fun r_24 w_24 h_24 => ?_)
        obtain ⟨σ_24, rfl, h24⟩ := h_24
        have e1 := zSum_cg (F := μ 62) (G := zC 1) n (fun c a b => hm c a (by omega))
        have hsum := zSum_b (F := zC 1) (a := 1) (b := 1) n (fun c _ _ => ⟨Int.le_refl _, Int.le_refl _⟩)
        rw [e1] at h24
        have h25 := h24.resolve_left (fun q => by omega)
        have e60b : σ_24 60 = σ 60 := (h25.2.2.1 60 (by decide)).trans e60
        have h9v : ∀ c : Int, 0 ≤ c → c < n → σ_24 9 c = zWh (zC 1) n c := fun c a b => by
          rw [h25.2.2.2 c a b]
          exact zWh_cg hn.2.1 (fun c a b => hm c a (by omega)) c a b
        refine z_istore_n1 C (z_d dtX8_alike_0 15 rfl) rfl ?_
        refine z_aload_n C (z_d dtX8_alike_0 16 rfl) rfl ?_
        refine gf_X8_30 C (z_d dtX8_alike_0 17 rfl) ?_
        refine z_aload_n C (z_d dtX8_alike_0 18 rfl) rfl ?_
        refine gf_X8_83 C (z_d dtX8_alike_0 19 rfl) ?_
        try simp (decide := true) only [zS_s, zS_o, zC, e60]
        refine z_iconst C (z_d dtX8_alike_0 20 rfl) ?_
        refine z_isub C (z_d dtX8_alike_0 21 rfl) ?_
        refine al_M6 C (z_d dtX8_alike_0 22 rfl) (by rw [e60b]; omega) ?_
        try simp (decide := true) only [zS_s, zS_o, zC, e60]
        refine z_top (show σ_24 9 (σ_24 60 0 - 1) = zWh (zC 1) n ((n : Int) - 1) by rw [e60b, hn.1]; exact h9v _ (by omega) (by omega)) ?_
        exact ret _ _ _ _ (z_d dtX8_alike_0 23 rfl) (⟨_, rfl, zE_tr (zE_mo h25.2.2.1 (by decide)) (zE_mo hE (by decide)), h9v, rfl⟩) rfl
      · refine z_aload_n C (z_d dtX8_alike_0 6 rfl) rfl ?_
        refine gf_X8_39 C (z_d dtX8_alike_0 7 rfl) ?_
        refine z_iload_n C (z_d dtX8_alike_0 8 rfl) rfl ?_
        refine z_lconst C (x := 1) rfl (z_d dtX8_alike_0 9 rfl) ?_
        refine as_M9 C (z_d dtX8_alike_0 10 rfl) (by omega) ?_
        refine z_iinc1 C (z_d dtX8_alike_0 11 rfl) rfl ?_
        refine z_goto (tgt := 2) C (z_d dtX8_alike_0 12 rfl) (by decide) ?_
        exact ih_2 (i + 1) _ _ (by omega) (zE_set hE (by decide)) (fun j h0 h1 => by
                rw [zS_s]
                by_cases e : j = i
                · subst e; rw [zU_s]
                · rw [zU_n e]; exact hm j h0 (by omega)) (by omega)
  exact lp_2 _ 0 _ _ (by omega) zE_rf (fun j h0 h1 => absurd h1 (by omega)) (Nat.lt_succ_self _)

set_option maxRecDepth 100000 in
set_option maxHeartbeats 4000000 in
theorem k_X8_known {l : Launch} {D : va_G} {t : Nat → ClassId} {ad : Nat → Nat} {σ : zMem} {c : Int} (ok : okM σ) (hc : -2147483648 ≤ c ∧ c < 2147483648) : z_Ci l D t yX8_known cX8_known 3 .int 2 43 0 0 [.ref (ad 0), .int (zI c)] (wM ad t σ) (fun r w => ∃ σ', w = wM ad t σ' ∧ ((¬ (0 ≤ c ∧ c < zN σ) ∧ r = -2 ∧ σ' = σ) ∨ ((0 ≤ c ∧ c < zN σ) ∧ r = 1 ∧ zE σ' σ [9] ∧ ∀ j, 0 ≤ j → j < zN σ → σ' 9 j = zU (zC 0) c 1000000 j))) := by
  refine z_Ci_of (by decide +kernel) [some (.ref (ad 0)), some (.int (zI c)), none] rfl rfl (Nat.le_of_ble_eq_true rfl) fun K hl hD ht hR hnm C ret => ?_
  subst hl; subst hD; subst ht
  have ok2 := ok
  obtain ⟨⟨hw, h60, hs, h4, h5, h6, h7⟩, hmp, ⟨h9, hsum⟩, oW1, ⟨hle, hgi, hga⟩, oT1, ⟨h16, h17, h18, hit⟩⟩ := ok2
  have hN := zHw_N hw
  have hW := hw; unfold zHw at hW
  have hwh := zHw_wh hw
  refine z_aload_n C (z_d dtX8_known_0 0 rfl) rfl ?_
  refine z_iload_n C (z_d dtX8_known_0 1 rfl) rfl ?_
  refine z_callV C (z_d dtX8_known_0 2 rfl) (k_X8_isCell  (by first | assumption | omega) (by first | assumption | omega) (by first | assumption | omega)) cal_X8_isCell gw_10_20 rfl 0 8 rfl rfl rfl rfl hR ⟨rfl, rfl, rfl, rfl⟩ rfl (fun r_2 w_2 h_2 => ?_)
  obtain ⟨rfl, h_2⟩ := h_2
  refine z_if_ne (tgt := 11) C (z_d dtX8_known_0 3 rfl) (by decide) (by omega) (fun h_5 => ?_) (fun h_5 => ?_)
  · refine z_iconst C (z_d dtX8_known_0 6 rfl) ?_
    refine z_istore_n2 C (z_d dtX8_known_0 7 rfl) rfl ?_
    have lp_13 : ∀ (N_13 : Nat) (i : Int) (μ : zMem), (0 ≤ i ∧ i ≤ zN σ) → (zE μ σ [9]) → (∀ j, 0 ≤ j → j < i → μ 9 j = zU (zC 0) c 1000000 j) → (zN σ - i).toNat < N_13 → Gd K 0 0 13 [some (.ref (ad 0)), some (.int (zI c)), some (.int (zI i))] [] (wM ad (z_t K) μ) := by
      intro N_13
      induction N_13 with
      | zero => intro i μ hi hE hm hm_13; exact absurd hm_13 (Nat.not_lt_zero _)
      | succ N_13 ih_13 =>
        intro i μ hi hE hm hm_13
        have e60 := hE 60 (by decide)
        refine z_iload_n C (z_d dtX8_known_0 8 rfl) rfl ?_
        refine z_aload_n C (z_d dtX8_known_0 9 rfl) rfl ?_
        refine gf_X8_83 C (z_d dtX8_known_0 10 rfl) ?_
        try simp (decide := true) only [zS_s, zS_o, zC, e60]
        refine z_icmp_ge (tgt := 44) C (z_d dtX8_known_0 11 rfl) (by decide) (by omega) (fun h_18 => ?_) (fun h_18 => ?_)
        · refine z_iconst C (z_d dtX8_known_0 24 rfl) ?_
          exact ret _ _ _ _ (z_d dtX8_known_0 25 rfl) (⟨_, rfl, Or.inr ⟨by omega, rfl, hE, fun j a b => hm j a (by omega)⟩⟩) rfl
        · refine z_aload_n C (z_d dtX8_known_0 12 rfl) rfl ?_
          refine gf_X8_30 C (z_d dtX8_known_0 13 rfl) ?_
          refine z_iload_n C (z_d dtX8_known_0 14 rfl) rfl ?_
          refine z_iload_n C (z_d dtX8_known_0 15 rfl) rfl ?_
          refine z_iload_n C (z_d dtX8_known_0 16 rfl) rfl ?_
          refine z_icmp_ne (tgt := 36) C (z_d dtX8_known_0 17 rfl) (by decide) (by omega) (fun h_28 => ?_) (fun h_28 => ?_)
          · refine z_iconst C (z_d dtX8_known_0 20 rfl) ?_
            refine as_M6 C (z_d dtX8_known_0 21 rfl) (by omega) ?_
            refine z_iinc2 C (z_d dtX8_known_0 22 rfl) rfl ?_
            refine z_goto (tgt := 13) C (z_d dtX8_known_0 23 rfl) (by decide) ?_
            exact ih_13 _ _ (by omega) (zE_set hE (by decide)) (fun j h0 h1 => by
                    rw [zS_s]
                    by_cases e : j = i
                    · subst e; rw [zU_s]; unfold zU zC; first | rw [if_pos (by omega)] | rw [if_neg (by omega)]
                    · rw [zU_n e]; exact hm j h0 (by omega)) (by omega)
          · refine z_ldc C gk_RX8_160 (z_d dtX8_known_0 18 rfl) ?_
            refine z_goto (tgt := 37) C (z_d dtX8_known_0 19 rfl) (by decide) ?_
            refine as_M6 C (z_d dtX8_known_0 21 rfl) (by omega) ?_
            refine z_iinc2 C (z_d dtX8_known_0 22 rfl) rfl ?_
            refine z_goto (tgt := 13) C (z_d dtX8_known_0 23 rfl) (by decide) ?_
            exact ih_13 _ _ (by omega) (zE_set hE (by decide)) (fun j h0 h1 => by
                    rw [zS_s]
                    by_cases e : j = i
                    · subst e; rw [zU_s]; unfold zU zC; first | rw [if_pos (by omega)] | rw [if_neg (by omega)]
                    · rw [zU_n e]; exact hm j h0 (by omega)) (by omega)
    exact lp_13 _ _ _ (by omega) zE_rf (fun j h0 h1 => absurd h1 (by omega)) (Nat.lt_succ_self _)
  · refine z_bipush C (z_d dtX8_known_0 4 rfl) zb_m2 ?_
    exact ret _ _ _ _ (z_d dtX8_known_0 5 rfl) (⟨σ, rfl, Or.inl ⟨by omega, rfl, rfl⟩⟩) rfl

set_option maxRecDepth 100000 in
set_option maxHeartbeats 4000000 in
theorem k_X8_withShare {l : Launch} {D : va_G} {t : Nat → ClassId} {ad : Nat → Nat} {σ : zMem} {n : Nat} (hn : σ 60 0 = (n : Int) ∧ 1 ≤ n ∧ n ≤ 72) (h9 : ∀ c : Int, 0 ≤ c → c < n → 0 ≤ σ 9 c ∧ σ 9 c ≤ 1000000) : z_Ci l D t yX8_withShare cX8_withShare 3 .int 0 0 0 0 [.ref (ad 0)] (wM ad t σ) (fun r w => w = wM ad t σ ∧ r = zCs (σ 9) n) := by
  refine z_Ci_of (by decide +kernel) [some (.ref (ad 0)), none, none] rfl rfl (Nat.le_of_ble_eq_true rfl) fun K hl hD ht hR hnm C ret => ?_
  subst hl; subst hD; subst ht
  refine z_iconst C (z_d dtX8_withShare_0 0 rfl) ?_
  refine z_istore_n1 C (z_d dtX8_withShare_0 1 rfl) rfl ?_
  refine z_iconst C (z_d dtX8_withShare_0 2 rfl) ?_
  refine z_istore_n2 C (z_d dtX8_withShare_0 3 rfl) rfl ?_
  have lp_4 : ∀ (N_4 : Nat) (i : Nat) (c s : Int), (c = i ∧ i ≤ n) → (s = zCs (σ 9) i) → n - i < N_4 → Gd K 0 0 4 [some (.ref (ad 0)), some (.int (zI s)), some (.int (zI c))] [] (wM ad (z_t K) σ) := by
    intro N_4
    induction N_4 with
    | zero => intro i c s hi hs2 hm_4; exact absurd hm_4 (Nat.not_lt_zero _)
    | succ N_4 ih_4 =>
      intro i c s hi hs2 hm_4
      obtain ⟨rfl, hi⟩ := hi
      have h9i := fun q : i < n => h9 i (by omega) (by omega)
      refine z_iload_n C (z_d dtX8_withShare_0 4 rfl) rfl ?_
      refine z_aload_n C (z_d dtX8_withShare_0 5 rfl) rfl ?_
      refine gf_X8_83 C (z_d dtX8_withShare_0 6 rfl) ?_
      refine z_icmp_ge (tgt := 35) C (z_d dtX8_withShare_0 7 rfl) (by decide) (by omega) (fun h_9 => ?_) (fun h_9 => ?_)
      · refine z_iload_n C (z_d dtX8_withShare_0 21 rfl) rfl ?_
        exact ret _ _ _ _ (z_d dtX8_withShare_0 22 rfl) (⟨rfl, by rw [hs2, show i = n by omega]⟩) rfl
      · refine z_iload_n C (z_d dtX8_withShare_0 8 rfl) rfl ?_
        refine z_aload_n C (z_d dtX8_withShare_0 9 rfl) rfl ?_
        refine gf_X8_30 C (z_d dtX8_withShare_0 10 rfl) ?_
        refine z_iload_n C (z_d dtX8_withShare_0 11 rfl) rfl ?_
        refine al_M6 C (z_d dtX8_withShare_0 12 rfl) (by omega) ?_
        refine z_if_le (tgt := 26) C (z_d dtX8_withShare_0 13 rfl) (by decide) (by omega) (fun h_19 => ?_) (fun h_19 => ?_)
        · refine z_iconst C (z_d dtX8_withShare_0 16 rfl) ?_
          refine z_iadd C (z_d dtX8_withShare_0 17 rfl) ?_
          refine z_istore_n1 C (z_d dtX8_withShare_0 18 rfl) rfl ?_
          refine z_iinc2 C (z_d dtX8_withShare_0 19 rfl) rfl ?_
          refine z_goto (tgt := 4) C (z_d dtX8_withShare_0 20 rfl) (by decide) ?_
          exact ih_4 (i + 1) _ _ (by omega) (by rw [zCs]; (first | rw [if_pos (by omega)] | rw [if_neg (by omega)]) <;> omega) (by omega)
        · refine z_iconst C (z_d dtX8_withShare_0 14 rfl) ?_
          refine z_goto (tgt := 27) C (z_d dtX8_withShare_0 15 rfl) (by decide) ?_
          refine z_iadd C (z_d dtX8_withShare_0 17 rfl) ?_
          refine z_istore_n1 C (z_d dtX8_withShare_0 18 rfl) rfl ?_
          refine z_iinc2 C (z_d dtX8_withShare_0 19 rfl) rfl ?_
          refine z_goto (tgt := 4) C (z_d dtX8_withShare_0 20 rfl) (by decide) ?_
          exact ih_4 (i + 1) _ _ (by omega) (by rw [zCs]; (first | rw [if_pos (by omega)] | rw [if_neg (by omega)]) <;> omega) (by omega)
  exact lp_4 _ 0 _ _ (by omega) rfl (Nat.lt_succ_self _)

set_option maxRecDepth 100000 in
set_option maxHeartbeats 4000000 in
theorem k_X8_share {l : Launch} {D : va_G} {t : Nat → ClassId} {ad : Nat → Nat} {σ : zMem} {c : Int} (ok : okM σ) (hc : -2147483648 ≤ c ∧ c < 2147483648) : z_Ci l D t yX8_share cX8_share 2 .int 2 43 0 0 [.ref (ad 0), .int (zI c)] (wM ad t σ) (fun r w => w = wM ad t σ ∧ ((¬ (0 ≤ c ∧ c < zN σ) ∧ r = -2) ∨ ((0 ≤ c ∧ c < zN σ) ∧ r = σ 9 c))) := by
  refine z_Ci_of (by decide +kernel) [some (.ref (ad 0)), some (.int (zI c))] rfl rfl (Nat.le_of_ble_eq_true rfl) fun K hl hD ht hR hnm C ret => ?_
  subst hl; subst hD; subst ht
  have ok2 := ok
  obtain ⟨⟨hw, h60, hs, h4, h5, h6, h7⟩, hmp, ⟨h9, hsum⟩, oW1, ⟨hle, hgi, hga⟩, oT1, ⟨h16, h17, h18, hit⟩⟩ := ok2
  have hN := zHw_N hw
  have hW := hw; unfold zHw at hW
  have hwh := zHw_wh hw
  refine z_aload_n C (z_d dtX8_share_0 0 rfl) rfl ?_
  refine z_iload_n C (z_d dtX8_share_0 1 rfl) rfl ?_
  refine z_callV C (z_d dtX8_share_0 2 rfl) (k_X8_isCell  (by first | assumption | omega) (by first | assumption | omega) (by first | assumption | omega)) cal_X8_isCell gw_10_20 rfl 0 8 rfl rfl rfl rfl hR ⟨rfl, rfl, rfl, rfl⟩ rfl (fun r_2 w_2 h_2 => ?_)
  obtain ⟨rfl, h_2⟩ := h_2
  refine z_if_eq (tgt := 17) C (z_d dtX8_share_0 3 rfl) (by decide) (by omega) (fun h_5 => ?_) (fun h_5 => ?_)
  · refine z_bipush C (z_d dtX8_share_0 9 rfl) zb_m2 ?_
    exact ret _ _ _ _ (z_d dtX8_share_0 10 rfl) (⟨rfl, by
        first | exact Or.inl ⟨by omega, rfl⟩ | exact Or.inr ⟨by omega, rfl⟩⟩) rfl
  · refine z_aload_n C (z_d dtX8_share_0 4 rfl) rfl ?_
    refine gf_X8_30 C (z_d dtX8_share_0 5 rfl) ?_
    refine z_iload_n C (z_d dtX8_share_0 6 rfl) rfl ?_
    refine al_M6 C (z_d dtX8_share_0 7 rfl) (by omega) ?_
    refine z_goto (tgt := 19) C (z_d dtX8_share_0 8 rfl) (by decide) ?_
    exact ret _ _ _ _ (z_d dtX8_share_0 10 rfl) (⟨rfl, by
        first | exact Or.inl ⟨by omega, rfl⟩ | exact Or.inr ⟨by omega, rfl⟩⟩) rfl

set_option maxRecDepth 100000 in
set_option maxHeartbeats 4000000 in
theorem k_X8_likeliest {l : Launch} {D : va_G} {t : Nat → ClassId} {ad : Nat → Nat} {σ : zMem}  (ok : okM σ) : z_Ci l D t yX8_likeliest cX8_likeliest 3 .int 0 0 0 0 [.ref (ad 0)] (wM ad t σ) (fun r w => w = wM ad t σ ∧ r = zMx (σ 9) (zN σ).toNat) := by
  refine z_Ci_of (by decide +kernel) [some (.ref (ad 0)), none, none] rfl rfl (Nat.le_of_ble_eq_true rfl) fun K hl hD ht hR hnm C ret => ?_
  subst hl; subst hD; subst ht
  have ok2 := ok
  obtain ⟨⟨hw, h60, hs, h4, h5, h6, h7⟩, hmp, ⟨h9, hsum⟩, oW1, ⟨hle, hgi, hga⟩, oT1, ⟨h16, h17, h18, hit⟩⟩ := ok2
  have hN := zHw_N hw
  have hW := hw; unfold zHw at hW
  have hwh := zHw_wh hw
  have hn : σ 60 0 = ((zN σ).toNat : Int) ∧ 1 ≤ (zN σ).toNat ∧ (zN σ).toNat ≤ 72 := by omega
  have h9n : ∀ c : Int, 0 ≤ c → c < ((zN σ).toNat : Int) → 0 ≤ σ 9 c ∧ σ 9 c ≤ 1000000 := fun c a b => h9 c a (by omega)
  refine z_iconst C (z_d dtX8_likeliest_0 0 rfl) ?_
  refine z_istore_n1 C (z_d dtX8_likeliest_0 1 rfl) rfl ?_
  refine z_iconst C (z_d dtX8_likeliest_0 2 rfl) ?_
  refine z_istore_n2 C (z_d dtX8_likeliest_0 3 rfl) rfl ?_
  have lp_4 : ∀ (N_4 : Nat) (c x : Int), (1 ≤ c ∧ c ≤ zN σ) → (x = zMx (σ 9) c.toNat) → (zN σ - c).toNat < N_4 → Gd K 0 0 4 [some (.ref (ad 0)), some (.int (zI x)), some (.int (zI c))] [] (wM ad (z_t K) σ) := by
    intro N_4
    induction N_4 with
    | zero => intro c x hc hx hm_4; exact absurd hm_4 (Nat.not_lt_zero _)
    | succ N_4 ih_4 =>
      intro c x hc hx hm_4
      have hxb := zMx_b (σ 9) c.toNat
      have hx0 := h9 x (by omega) (by omega)
      have hc0 := fun q : c < zN σ => h9 c (by omega) q
      refine z_iload_n C (z_d dtX8_likeliest_0 4 rfl) rfl ?_
      refine z_aload_n C (z_d dtX8_likeliest_0 5 rfl) rfl ?_
      refine gf_X8_83 C (z_d dtX8_likeliest_0 6 rfl) ?_
      refine z_icmp_ge (tgt := 39) C (z_d dtX8_likeliest_0 7 rfl) (by decide) (by omega) (fun h_9 => ?_) (fun h_9 => ?_)
      · refine z_iload_n C (z_d dtX8_likeliest_0 23 rfl) rfl ?_
        exact ret _ _ _ _ (z_d dtX8_likeliest_0 24 rfl) (⟨rfl, by rw [hx, show c = zN σ by omega]⟩) rfl
      · refine z_aload_n C (z_d dtX8_likeliest_0 8 rfl) rfl ?_
        refine gf_X8_30 C (z_d dtX8_likeliest_0 9 rfl) ?_
        refine z_iload_n C (z_d dtX8_likeliest_0 10 rfl) rfl ?_
        refine al_M6 C (z_d dtX8_likeliest_0 11 rfl) (by omega) ?_
        refine z_aload_n C (z_d dtX8_likeliest_0 12 rfl) rfl ?_
        refine gf_X8_30 C (z_d dtX8_likeliest_0 13 rfl) ?_
        refine z_iload_n C (z_d dtX8_likeliest_0 14 rfl) rfl ?_
        refine al_M6 C (z_d dtX8_likeliest_0 15 rfl) (by omega) ?_
        refine z_icmp_le (tgt := 31) C (z_d dtX8_likeliest_0 16 rfl) (by decide) (by omega) (fun h_24 => ?_) (fun h_24 => ?_)
        · refine z_iload_n C (z_d dtX8_likeliest_0 19 rfl) rfl ?_
          refine z_istore_n1 C (z_d dtX8_likeliest_0 20 rfl) rfl ?_
          refine z_iinc2 C (z_d dtX8_likeliest_0 21 rfl) rfl ?_
          refine z_goto (tgt := 4) C (z_d dtX8_likeliest_0 22 rfl) (by decide) ?_
          exact ih_4 _ _ (by omega) (by
                  rw [show (c + 1).toNat = c.toNat + 1 by omega, zMx, Int.toNat_of_nonneg (by omega), ← hx]
                  first | rw [if_pos (by omega)] | rw [if_neg (by omega)]) (by omega)
        · refine z_iload_n C (z_d dtX8_likeliest_0 17 rfl) rfl ?_
          refine z_goto (tgt := 32) C (z_d dtX8_likeliest_0 18 rfl) (by decide) ?_
          refine z_istore_n1 C (z_d dtX8_likeliest_0 20 rfl) rfl ?_
          refine z_iinc2 C (z_d dtX8_likeliest_0 21 rfl) rfl ?_
          refine z_goto (tgt := 4) C (z_d dtX8_likeliest_0 22 rfl) (by decide) ?_
          exact ih_4 _ _ (by omega) (by
                  rw [show (c + 1).toNat = c.toNat + 1 by omega, zMx, Int.toNat_of_nonneg (by omega), ← hx]
                  first | rw [if_pos (by omega)] | rw [if_neg (by omega)]) (by omega)
  exact lp_4 _ _ _ (by omega) (zMx_1 _).symm (Nat.lt_succ_self _)
