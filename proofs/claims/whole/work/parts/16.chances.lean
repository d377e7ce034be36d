/-! SHARES -/
set_option maxRecDepth 100000 in
set_option maxHeartbeats 4000000 in
theorem k_X1_shareOf {l : Launch} {D : va_G} {t : Nat → ClassId} {ad : Nat → Nat} {σ : zMem} {c : Int} (hc : 0 ≤ c ∧ c < 72) : z_Ci l D t yX1_shareOf cX1_shareOf 2 .int 0 0 0 0 [.ref (ad 3), .int (zI c)] (wX ad t σ) (fun r w => w = wX ad t σ ∧ r = σ 9 c) := by
  refine z_Ci_of (by decide +kernel) [some (.ref (ad 3)), some (.int (zI c))] rfl rfl (Nat.le_of_ble_eq_true rfl) fun K hl hD ht hR hnm C ret => ?_
  subst hl; subst hD; subst ht
  refine z_aload_n C (z_d dtX1_shareOf_0 0 rfl) rfl ?_
  refine gf_X1_15 C (z_d dtX1_shareOf_0 1 rfl) ?_
  refine z_iload_n C (z_d dtX1_shareOf_0 2 rfl) rfl ?_
  refine al_X15 C (z_d dtX1_shareOf_0 3 rfl) (by omega) ?_
  exact ret _ _ _ _ (z_d dtX1_shareOf_0 4 rfl) (⟨rfl, rfl⟩) rfl

set_option maxRecDepth 100000 in
set_option maxHeartbeats 4000000 in
theorem k_X1_makeKnown {l : Launch} {D : va_G} {t : Nat → ClassId} {ad : Nat → Nat} {σ : zMem} {c : Int} (hc : 0 ≤ c ∧ c < 72) : z_Cv l D t yX1_makeKnown cX1_makeKnown 2 1 23 0 0 [.ref (ad 3), .int (zI c)] (wX ad t σ) (fun w => w = wX ad t (zS σ 9 (zU (zC 0) c 1000000))) := by
  refine z_Cv_of (by decide +kernel) [some (.ref (ad 3)), some (.int (zI c))] rfl rfl (Nat.le_of_ble_eq_true rfl) fun K hl hD ht hR hnm C ret => ?_
  subst hl; subst hD; subst ht
  refine z_aload_n C (z_d dtX1_makeKnown_0 0 rfl) rfl ?_
  refine gf_X1_15 C (z_d dtX1_makeKnown_0 1 rfl) ?_
  refine z_iconst C (z_d dtX1_makeKnown_0 2 rfl) ?_
  refine z_callSv C (z_d dtX1_makeKnown_0 3 rfl) kf_X15 cal_J7_fill_53178 gw_20_13 rfl rfl hR ⟨rfl, rfl, rfl, rfl⟩ rfl (fun w_5 h_5 => ?_)
  subst h_5
  refine z_aload_n C (z_d dtX1_makeKnown_0 4 rfl) rfl ?_
  refine gf_X1_15 C (z_d dtX1_makeKnown_0 5 rfl) ?_
  refine z_iload_n C (z_d dtX1_makeKnown_0 6 rfl) rfl ?_
  refine z_ldc C gk_RX1_39 (z_d dtX1_makeKnown_0 7 rfl) ?_
  refine as_X15 C (z_d dtX1_makeKnown_0 8 rfl) (by omega) ?_
  exact ret _ _ _ (z_d dtX1_makeKnown_0 9 rfl) ((by congr 1; funext j; unfold zS; cases Nat.beq j 9 <;> rfl))

set_option maxRecDepth 100000 in
set_option maxHeartbeats 4000000 in
theorem k_X1_handOut {l : Launch} {D : va_G} {t : Nat → ClassId} {ad : Nat → Nat} {σ : zMem} {n m : Nat} (hn : σ 36 0 = (n : Int) ∧ 1 ≤ n ∧ n ≤ 72) (hm : m ≤ 72) (h38 : ∀ c : Int, 0 ≤ c → c < n → 0 ≤ σ 38 c ∧ σ 38 c ≤ 1000000000000000) : z_Cv l D t yX1_handOut cX1_handOut 5 0 0 0 0 [.ref (ad 3), .int (zI m)] (wX ad t σ) (fun w => ∃ σ', w = wX ad t σ' ∧ zE σ' σ [9, 38] ∧ σ' 9 = (zHc n 0 (σ 9, σ 38) m).1) := by
  refine z_Cv_of (by decide +kernel) [some (.ref (ad 3)), some (.int (zI m)), none, none, none] rfl rfl (Nat.le_of_ble_eq_true rfl) fun K hl hD ht hR hnm C ret => ?_
  subst hl; subst hD; subst ht
  refine z_iconst C (z_d dtX1_handOut_0 0 rfl) ?_
  refine z_istore_n2 C (z_d dtX1_handOut_0 1 rfl) rfl ?_
  have lp_2 : ∀ (N_2 : Nat) (i : Nat) (k : Int) (μ : zMem), (k = i ∧ i ≤ m) → (zE μ σ [9, 38]) → ((μ 9, μ 38) = zHc n 0 (σ 9, σ 38) i) → m - i < N_2 → Gd K 0 0 2 [some (.ref (ad 3)), some (.int (zI m)), some (.int (zI k)), none, none] [] (wX ad (z_t K) μ) := by
    intro N_2
    induction N_2 with
    | zero => intro i k μ hi hE hq hm_2; exact absurd hm_2 (Nat.not_lt_zero _)
    | succ N_2 ih_2 =>
      intro i k μ hi hE hq hm_2
      obtain ⟨rfl, hi⟩ := hi
      have e36 := hE 36 (by decide)
      have hr : ∀ c : Int, 0 ≤ c → c < n → 0 ≤ μ 38 c ∧ μ 38 c ≤ 1000000000000000 := by
        have := zHc_r (p := (σ 9, σ 38)) (v := 0) (n := n) (by omega) (b := 1000000000000000) (by omega) h38 i
        rw [← hq] at this
        exact this
      refine z_iload_n C (z_d dtX1_handOut_0 2 rfl) rfl ?_
      refine z_iload_n C (z_d dtX1_handOut_0 3 rfl) rfl ?_
      refine z_icmp_ge (tgt := 70) C (z_d dtX1_handOut_0 4 rfl) (by decide) (by omega) (fun h_4 => ?_) (fun h_4 => ?_)
      · exact ret _ _ _ (z_d dtX1_handOut_1 2 rfl) (⟨_, rfl, hE, (by
            have : i = m := by omega
            subst this
            exact congrArg Prod.fst hq)⟩)
      · refine z_iconst C (z_d dtX1_handOut_0 5 rfl) ?_
        refine z_istore_n3 C (z_d dtX1_handOut_0 6 rfl) rfl ?_
        refine z_iconst C (z_d dtX1_handOut_0 7 rfl) ?_
        refine z_istore4 C (z_d dtX1_handOut_0 8 rfl) rfl ?_
        have lp_12 : ∀ (N_12 : Nat) (c x : Int), (1 ≤ c ∧ c ≤ n) → (x = zMx (μ 38) c.toNat) → (n - c).toNat < N_12 → Gd K 0 0 12 [some (.ref (ad 3)), some (.int (zI m)), some (.int (zI (i : Int))), some (.int (zI x)), some (.int (zI c))] [] (wX ad (z_t K) μ) := by
          intro N_12
          induction N_12 with
          | zero => intro c x hc hx hm_12; exact absurd hm_12 (Nat.not_lt_zero _)
          | succ N_12 ih_12 =>
            intro c x hc hx hm_12
            have hxb := zMx_b (μ 38) c.toNat
            have hx0 := hr x (by omega) (by omega)
            have hc0 := fun q : c < n => hr c (by omega) q
            refine z_iload C (z_d dtX1_handOut_0 9 rfl) rfl ?_
            refine z_aload_n C (z_d dtX1_handOut_0 10 rfl) rfl ?_
            refine gf_X1_9 C (z_d dtX1_handOut_0 11 rfl) ?_
            try simp (decide := true) only [zS_s, zS_o, zC, e36]
            refine z_icmp_ge (tgt := 47) C (z_d dtX1_handOut_0 12 rfl) (by decide) (by omega) (fun h_18 => ?_) (fun h_18 => ?_)
            · refine z_aload_n C (z_d dtX1_handOut_0 27 rfl) rfl ?_
              refine gf_X1_15 C (z_d dtX1_handOut_0 28 rfl) ?_
              refine z_iload_n C (z_d dtX1_handOut_0 29 rfl) rfl ?_
              refine z_dup2 C (z_d dtX1_handOut_0 30 rfl) rfl rfl ?_
              refine al_X15 C (z_d dtX1_handOut_0 31 rfl) (by omega) ?_
              try simp (decide := true) only [zS_s, zS_o, zC, e36]
              refine z_iconst C (z_d dtX1_handOut_0 32 rfl) ?_
              refine z_iadd C (z_d dtX1_handOut_0 33 rfl) ?_
              refine as_X15 C (z_d dtX1_handOut_0 34 rfl) (by omega) ?_
              refine z_aload_n C (z_d dtX1_handOut_0 35 rfl) rfl ?_
              refine gf_X1_23 C (z_d dtX1_handOut_0 36 rfl) ?_
              refine z_iload_n C (z_d dtX1_handOut_0 37 rfl) rfl ?_
              refine z_lconst C (x := 0) rfl (z_d dtX1_handOut_0 38 rfl) ?_
              refine as_X17 C (z_d dtX1_handOut_0 39 rfl) (by omega) ?_
              refine z_iinc2 C (z_d dtX1_handOut_1 0 rfl) rfl ?_
              refine z_goto (tgt := 2) C (z_d dtX1_handOut_1 1 rfl) (by decide) ?_
              refine z_drop3 ?_
              refine z_drop4 ?_
              exact ih_2 (i + 1) _ _ (by omega) (zE_set (zE_set hE (by decide)) (by decide)) (by
                    show (zU (μ 9) _ _, zU (μ 38) _ _) = (zU _ _ _, zU _ _ _)
                    rw [← hq, hx, show c = n by omega, Int.toNat_natCast]) (by omega)
            · refine z_aload_n C (z_d dtX1_handOut_0 13 rfl) rfl ?_
              refine gf_X1_23 C (z_d dtX1_handOut_0 14 rfl) ?_
              refine z_iload C (z_d dtX1_handOut_0 15 rfl) rfl ?_
              refine al_X17 C (z_d dtX1_handOut_0 16 rfl) (by omega) ?_
              try simp (decide := true) only [zS_s, zS_o, zC, e36]
              refine z_aload_n C (z_d dtX1_handOut_0 17 rfl) rfl ?_
              refine gf_X1_23 C (z_d dtX1_handOut_0 18 rfl) ?_
              refine z_iload_n C (z_d dtX1_handOut_0 19 rfl) rfl ?_
              refine al_X17 C (z_d dtX1_handOut_0 20 rfl) (by omega) ?_
              try simp (decide := true) only [zS_s, zS_o, zC, e36]
              refine z_lcmpP C (z_d dtX1_handOut_0 21 rfl) (by omega) (fun m_34 h_34 => ?_)
              refine z_if_le (tgt := 41) C (z_d dtX1_handOut_0 22 rfl) (by decide) (by omega) (fun h_35 => ?_) (fun h_35 => ?_)
              · refine z_iinc4 C (z_d dtX1_handOut_0 25 rfl) rfl ?_
                refine z_goto (tgt := 12) C (z_d dtX1_handOut_0 26 rfl) (by decide) ?_
                exact ih_12 _ _ (by omega) (by
                        rw [show (c + 1).toNat = c.toNat + 1 by omega, zMx, Int.toNat_of_nonneg (by omega), ← hx]
                        first | rw [if_pos (by omega)] | rw [if_neg (by omega)]) (by omega)
              · refine z_iload C (z_d dtX1_handOut_0 23 rfl) rfl ?_
                refine z_istore_n3 C (z_d dtX1_handOut_0 24 rfl) rfl ?_
                refine z_iinc4 C (z_d dtX1_handOut_0 25 rfl) rfl ?_
                refine z_goto (tgt := 12) C (z_d dtX1_handOut_0 26 rfl) (by decide) ?_
                exact ih_12 _ _ (by omega) (by
                        rw [show (c + 1).toNat = c.toNat + 1 by omega, zMx, Int.toNat_of_nonneg (by omega), ← hx]
                        first | rw [if_pos (by omega)] | rw [if_neg (by omega)]) (by omega)
        exact lp_12 _ _ _ (by omega) (zMx_1 _).symm (Nat.lt_succ_self _)
  exact lp_2 _ 0 _ _ (by omega) zE_rf rfl (Nat.lt_succ_self _)

set_option maxRecDepth 100000 in
set_option maxHeartbeats 4000000 in
theorem k_X1_makeWhole {l : Launch} {D : va_G} {t : Nat → ClassId} {ad : Nat → Nat} {σ : zMem} {n : Nat} (hn : σ 36 0 = (n : Int) ∧ 1 ≤ n ∧ n ≤ 72) (h37 : ∀ c : Int, 0 ≤ c → c < n → 0 ≤ σ 37 c ∧ σ 37 c ≤ 5000000000000) : z_Ci l D t yX1_makeWhole cX1_makeWhole 7 .boolean 1 24 0 0 [.ref (ad 3)] (wX ad t σ) (fun r w => ∃ σ', w = wX ad t σ' ∧ ((zSum (σ 37) n ≤ 0 ∧ r = 0 ∧ σ' = σ) ∨ (0 < zSum (σ 37) n ∧ r = 1 ∧ zE σ' σ [9, 38] ∧ ∀ c : Int, 0 ≤ c → c < n → σ' 9 c = zWh (σ 37) n c))) := by
  refine z_Ci_of (by decide +kernel) [some (.ref (ad 3)), none, none, none, none, none, none] rfl rfl (Nat.le_of_ble_eq_true rfl) fun K hl hD ht hR hnm C ret => ?_
  subst hl; subst hD; subst ht
  refine z_lconst C (x := 0) rfl (z_d dtX1_makeWhole_0 0 rfl) ?_
  refine z_lstore_n1 C (z_d dtX1_makeWhole_0 1 rfl) rfl ?_
  refine z_iconst C (z_d dtX1_makeWhole_0 2 rfl) ?_
  refine z_istore_n3 C (z_d dtX1_makeWhole_0 3 rfl) rfl ?_
  have lp_4 : ∀ (N_4 : Nat) (i : Nat) (c s : Int), (c = i ∧ i ≤ n) → (s = zSum (σ 37) i) → n - i < N_4 → Gd K 0 0 4 [some (.ref (ad 3)), some (.long (zL s)), none, some (.int (zI c)), none, none, none] [] (wX ad (z_t K) σ) := by
    intro N_4
    induction N_4 with
    | zero => intro i c s hi hs hm_4; exact absurd hm_4 (Nat.not_lt_zero _)
    | succ N_4 ih_4 =>
      intro i c s hi hs hm_4
      obtain ⟨rfl, hi⟩ := hi
      have hsb := zSum_b (F := σ 37) (a := 0) (b := 5000000000000) i (fun c h0 h1 => h37 c h0 (by omega))
      have hci := fun q : i < n => h37 i (by omega) (by omega)
      refine z_iload_n C (z_d dtX1_makeWhole_0 4 rfl) rfl ?_
      refine z_aload_n C (z_d dtX1_makeWhole_0 5 rfl) rfl ?_
      refine gf_X1_9 C (z_d dtX1_makeWhole_0 6 rfl) ?_
      try simp (decide := true) only [zS_s, zS_o, zC, zU_s, e37, e36]
      refine z_icmp_ge (tgt := 27) C (z_d dtX1_makeWhole_0 7 rfl) (by decide) (by omega) (fun h_9 => ?_) (fun h_9 => ?_)
      · refine z_lload_n C (z_d dtX1_makeWhole_0 17 rfl) rfl ?_
        refine z_lconst C (x := 0) rfl (z_d dtX1_makeWhole_0 18 rfl) ?_
        refine z_lcmpP C (z_d dtX1_makeWhole_0 19 rfl) (by omega) (fun m_29 h_29 => ?_)
        refine z_if_gt (tgt := 35) C (z_d dtX1_makeWhole_0 20 rfl) (by decide) (by omega) (fun h_30 => ?_) (fun h_30 => ?_)
        · have hs2 : s = zSum (σ 37) n := by rw [hs, show i = n by omega]
          subst hs2
          have hS : 0 < zSum (σ 37) n := by omega
          have hlk := zLk_b hS
          refine z_ldc C gk_RX1_39 (z_d dtX1_makeWhole_0 23 rfl) ?_
          refine z_istore_n3 C (z_d dtX1_makeWhole_0 24 rfl) rfl ?_
          refine z_iconst C (z_d dtX1_makeWhole_0 25 rfl) ?_
          refine z_istore4 C (z_d dtX1_makeWhole_0 26 rfl) rfl ?_
          have lp_41 : ∀ (N_41 : Nat) (i2 : Nat) (c k : Int) (μ : zMem), (c = i2 ∧ i2 ≤ n) → (zE μ σ [9, 38]) → (k = 1000000 - zSum (zQo (σ 37) n) i2) → (∀ j : Int, 0 ≤ j → j < i2 → μ 9 j = zQo (σ 37) n j ∧ μ 38 j = zRe (σ 37) n j) → n - i2 < N_41 → Gd K 0 0 41 [some (.ref (ad 3)), some (.long (zL (zSum (σ 37) n))), none, some (.int (zI k)), some (.int (zI c)), none, none] [] (wX ad (z_t K) μ) := by
            intro N_41
            induction N_41 with
            | zero => intro i2 c k μ hi2 hE hk hm hm_41; exact absurd hm_41 (Nat.not_lt_zero _)
            | succ N_41 ih_41 =>
              intro i2 c k μ hi2 hE hk hm hm_41
              obtain ⟨rfl, hi2⟩ := hi2
              have e36 := hE 36 (by decide)
              have e37 := hE 37 (by decide)
              have hcj := fun q : i2 < n => h37 i2 (by omega) (by omega)
              have hqb := zSum_b (F := zQo (σ 37) n) (a := 0) (b := 1000000) i2 (fun c h0 h1 => zQo_b hS (fun c a b => (h37 c a b).1) c h0 (by omega))
              refine z_iload C (z_d dtX1_makeWhole_0 27 rfl) rfl ?_
              refine z_aload_n C (z_d dtX1_makeWhole_0 28 rfl) rfl ?_
              refine gf_X1_9 C (z_d dtX1_makeWhole_0 29 rfl) ?_
              try simp (decide := true) only [zS_s, zS_o, zC, zU_s, e37, e36]
              refine z_icmp_ge (tgt := 102) C (z_d dtX1_makeWhole_0 30 rfl) (by decide) (by omega) (fun h_47 => ?_) (fun h_47 => ?_)
              · refine z_aload_n C (z_d dtX1_makeWhole_1 22 rfl) rfl ?_
                refine z_iload_n C (z_d dtX1_makeWhole_1 23 rfl) rfl ?_
                refine z_top (show k = (((zLk (σ 37) n).toNat : Nat) : Int) by rw [hk, show i2 = n by omega, Int.toNat_of_nonneg hlk.1]; rfl) ?_
                refine z_callVv C (z_d dtX1_makeWhole_1 24 rfl) (k_X1_handOut  (by rw [e36]; exact hn) (by omega) (fun c h0 h1 => by
                          rw [(hm c h0 (by omega)).2]
                          have a := Int.emod_nonneg (σ 37 c * 1000000) (show zSum (σ 37) n ≠ 0 by omega)
                          have b := Int.emod_lt_of_pos (σ 37 c * 1000000) hS
                          unfold zRe
                          omega)) cal_X1_handOut gw_6_23 rfl 3 1 rfl rfl rfl rfl hR ⟨rfl, rfl, rfl, rfl⟩ rfl (fun w_104 h_104 => ?_)
                obtain ⟨σ_104, rfl, hE_104, h_104⟩ := h_104
                refine z_iconst C (z_d dtX1_makeWhole_1 25 rfl) ?_
                exact ret _ _ _ _ (z_d dtX1_makeWhole_1 26 rfl) (⟨_, rfl, Or.inr ⟨hS, rfl, zE_tr hE_104 hE, fun c h0 h1 => by
                          rw [h_104]
                          exact (zHc_cg (p := (μ 9, μ 38)) (q := (zQo (σ 37) n, zRe (σ 37) n)) hn.2.1 (fun c a b => (hm c a (by omega)).1) (fun c a b => (hm c a (by omega)).2) _).1 c h0 h1⟩⟩) (z_nb (by omega))
              · refine z_aload_n C (z_d dtX1_makeWhole_0 31 rfl) rfl ?_
                refine gf_X1_19 C (z_d dtX1_makeWhole_0 32 rfl) ?_
                refine z_iload C (z_d dtX1_makeWhole_0 33 rfl) rfl ?_
                refine al_X16 C (z_d dtX1_makeWhole_0 34 rfl) (by omega) ?_
                try simp (decide := true) only [zS_s, zS_o, zC, zU_s, e37, e36]
                refine z_ldc2 C gk_RX1_40 (z_d dtX1_makeWhole_0 35 rfl) ?_
                refine z_lmul C (z_d dtX1_makeWhole_0 36 rfl) ?_
                refine z_lstore5 C (z_d dtX1_makeWhole_0 37 rfl) rfl ?_
                refine z_aload_n C (z_d dtX1_makeWhole_0 38 rfl) rfl ?_
                refine gf_X1_15 C (z_d dtX1_makeWhole_0 39 rfl) ?_
                refine z_iload C (z_d dtX1_makeWhole_1 0 rfl) rfl ?_
                refine z_lload C (z_d dtX1_makeWhole_1 1 rfl) rfl ?_
                refine z_lload_n C (z_d dtX1_makeWhole_1 2 rfl) rfl ?_
                refine z_ldiv C (z_d dtX1_makeWhole_1 3 rfl) (by omega) ?_
                refine z_l2i C (z_d dtX1_makeWhole_1 4 rfl) ?_
                refine as_X15 C (z_d dtX1_makeWhole_1 5 rfl) (by omega) ?_
                refine z_aload_n C (z_d dtX1_makeWhole_1 6 rfl) rfl ?_
                refine gf_X1_23 C (z_d dtX1_makeWhole_1 7 rfl) ?_
                refine z_iload C (z_d dtX1_makeWhole_1 8 rfl) rfl ?_
                refine z_lload C (z_d dtX1_makeWhole_1 9 rfl) rfl ?_
                refine z_lload_n C (z_d dtX1_makeWhole_1 10 rfl) rfl ?_
                refine z_lrem C (z_d dtX1_makeWhole_1 11 rfl) (by omega) ?_
                refine as_X17 C (z_d dtX1_makeWhole_1 12 rfl) (by omega) ?_
                refine z_iload_n C (z_d dtX1_makeWhole_1 13 rfl) rfl ?_
                refine z_aload_n C (z_d dtX1_makeWhole_1 14 rfl) rfl ?_
                refine gf_X1_15 C (z_d dtX1_makeWhole_1 15 rfl) ?_
                refine z_iload C (z_d dtX1_makeWhole_1 16 rfl) rfl ?_
                refine al_X15 C (z_d dtX1_makeWhole_1 17 rfl) (by omega) ?_
                try simp (decide := true) only [zS_s, zS_o, zC, zU_s, e37, e36]
                refine z_isub C (z_d dtX1_makeWhole_1 18 rfl) ?_
                refine z_istore_n3 C (z_d dtX1_makeWhole_1 19 rfl) rfl ?_
                refine z_iinc4 C (z_d dtX1_makeWhole_1 20 rfl) rfl ?_
                refine z_goto (tgt := 41) C (z_d dtX1_makeWhole_1 21 rfl) (by decide) ?_
                refine z_drop5 ?_
                exact ih_41 (i2 + 1) _ _ _ (by omega) (zE_set (zE_set hE (by decide)) (by decide)) (by
                        rw [zSum]
                        show _ = 1000000 - (_ + σ 37 i2 * 1000000 / zSum (σ 37) n)
                        omega) (fun j h0 h1 => by
                        show zU (μ 9) _ _ j = _ ∧ zU (μ 38) _ _ j = _
                        by_cases e : j = i2
                        · subst e; rw [zU_s, zU_s]; exact ⟨rfl, rfl⟩
                        · rw [zU_n e, zU_n e]; exact hm j h0 (by omega)) (by omega)
          exact lp_41 _ 0 _ _ _ (by omega) zE_rf (by simp [zSum]) (fun j h0 h1 => absurd h1 (by omega)) (Nat.lt_succ_self _)
        · refine z_iconst C (z_d dtX1_makeWhole_0 21 rfl) ?_
          exact ret _ _ _ _ (z_d dtX1_makeWhole_0 22 rfl) (⟨_, rfl, Or.inl ⟨by rw [show n = i by omega]; omega, rfl, rfl⟩⟩) (z_nb (by omega))
      · refine z_lload_n C (z_d dtX1_makeWhole_0 8 rfl) rfl ?_
        refine z_aload_n C (z_d dtX1_makeWhole_0 9 rfl) rfl ?_
        refine gf_X1_19 C (z_d dtX1_makeWhole_0 10 rfl) ?_
        refine z_iload_n C (z_d dtX1_makeWhole_0 11 rfl) rfl ?_
        refine al_X16 C (z_d dtX1_makeWhole_0 12 rfl) (by omega) ?_
        try simp (decide := true) only [zS_s, zS_o, zC, zU_s, e37, e36]
        refine z_ladd C (z_d dtX1_makeWhole_0 13 rfl) ?_
        refine z_lstore_n1 C (z_d dtX1_makeWhole_0 14 rfl) rfl ?_
        refine z_iinc3 C (z_d dtX1_makeWhole_0 15 rfl) rfl ?_
        refine z_goto (tgt := 4) C (z_d dtX1_makeWhole_0 16 rfl) (by decide) ?_
        exact ih_4 (i + 1) _ _ (by omega) (by rw [zSum, hs]) (by omega)
  exact lp_4 _ 0 _ _ (by omega) rfl (Nat.lt_succ_self _)

set_option maxRecDepth 100000 in
set_option maxHeartbeats 4000000 in
theorem k_X1_makeAlike {l : Launch} {D : va_G} {t : Nat → ClassId} {ad : Nat → Nat} {σ : zMem} {n : Nat} (hn2 : 1 ≤ n ∧ n ≤ 72) : z_Cv l D t yX1_makeAlike cX1_makeAlike 2 2 50 0 0 [.ref (ad 3), .int (zI n)] (wX ad t σ) (fun w => ∃ σ', w = wX ad t σ' ∧ zE σ' σ [9, 36, 37, 38] ∧ σ' 36 = zC n ∧ ∀ c : Int, 0 ≤ c → c < n → σ' 9 c = zWh (zC 1) n c) := by
  refine z_Cv_of (by decide +kernel) [some (.ref (ad 3)), some (.int (zI n))] rfl rfl (Nat.le_of_ble_eq_true rfl) fun K hl hD ht hR hnm C ret => ?_
  subst hl; subst hD; subst ht
  refine z_aload_n C (z_d dtX1_makeAlike_0 0 rfl) rfl ?_
  refine z_iload_n C (z_d dtX1_makeAlike_0 1 rfl) rfl ?_
  refine pf_X1_9 C (z_d dtX1_makeAlike_0 2 rfl) ?_
  refine z_aload_n C (z_d dtX1_makeAlike_0 3 rfl) rfl ?_
  refine gf_X1_19 C (z_d dtX1_makeAlike_0 4 rfl) ?_
  refine z_lconst C (x := 1) rfl (z_d dtX1_makeAlike_0 5 rfl) ?_
  refine z_callSv C (z_d dtX1_makeAlike_0 6 rfl) kf_X16 cal_J7_fill_d0a16 gw_6_14 rfl rfl hR ⟨rfl, rfl, rfl, rfl⟩ rfl (fun w_10 h_10 => ?_)
  subst h_10
  generalize hμ : zS (zS σ 36 (zC n)) 37 (zC 1) = μ
  have m37 : μ 37 = zC 1 := by rw [← hμ]; rfl
  have m36 : μ 36 = zC n := by rw [← hμ]; rfl
  have hE : zE μ σ [36, 37] := by rw [← hμ]; exact zE_set (zE_set zE_rf (by decide)) (by decide)
  have hsum := zSum_b (F := zC 1) (a := 1) (b := 1) n (fun c _ _ => ⟨Int.le_refl _, Int.le_refl _⟩)
  refine z_aload_n C (z_d dtX1_makeAlike_0 7 rfl) rfl ?_
  refine z_callV C (z_d dtX1_makeAlike_0 8 rfl) (k_X1_makeWhole  (show μ 36 0 = (n : Int) ∧ _ from ⟨by rw [m36]; rfl, hn2⟩) (fun c _ _ => by rw [m37]; exact ⟨show (0 : Int) ≤ 1 by decide, show (1 : Int) ≤ 5000000000000 by decide⟩)) cal_X1_makeWhole gw_6_17 rfl 3 1 rfl rfl rfl rfl hR ⟨rfl, rfl, rfl, rfl⟩ rfl (fun r_14 w_14 h_14 => ?_)
  obtain ⟨σ_14, rfl, h_14⟩ := h_14
  refine z_pop C (z_d dtX1_makeAlike_0 9 rfl) rfl ?_
  exact ret _ _ _ (z_d dtX1_makeAlike_0 10 rfl) (by
      rw [m37] at h_14
      rcases h_14 with ⟨a, -, -⟩ | ⟨-, -, a, b⟩
      · omega
      · exact ⟨_, rfl, zE_tr (zE_mo a (by decide)) (zE_mo hE (by decide)), (a 36 (by decide)).trans m36, b⟩)

set_option maxRecDepth 100000 in
set_option maxHeartbeats 4000000 in
theorem k_X1_spread {l : Launch} {D : va_G} {t : Nat → ClassId} {ad : Nat → Nat} {σ : zMem} {c lv all : Int} (hw : zHw σ) (ht : zTb σ) (hs : 0 ≤ σ 3 0 ∧ σ 3 0 ≤ 9) (hc : 0 ≤ c ∧ c < zN σ) (hl : 0 ≤ lv ∧ lv ≤ 1000000000) (ha : 1 ≤ all ∧ all ≤ 1000) : z_Cv l D t yX1_spread cX1_spread 8 2 41 0 0 [.ref (ad 3), .ref (ad 1), .int (zI c), .long (zL lv), .int (zI all)] (wX ad t σ) (fun w => w = wX ad t (zS σ 37 (zSp σ c lv all (σ 37) 7))) := by
  refine z_Cv_of (by decide +kernel) [some (.ref (ad 3)), some (.ref (ad 1)), some (.int (zI c)), some (.long (zL lv)), none, some (.int (zI all)), none, none] rfl rfl (Nat.le_of_ble_eq_true rfl) fun K hl hD ht hR hnm C ret => ?_
  subst hl; subst hD; subst ht
  have hN := zHw_N hw
  have htb := zTb_b hw ht hc
  refine z_iconst C (z_d dtX1_spread_0 0 rfl) ?_
  refine z_istore6 C (z_d dtX1_spread_0 1 rfl) rfl ?_
  have lp_3 : ∀ (N_3 : Nat) (i : Nat) (d : Int) (μ : zMem), (d = i ∧ i ≤ 7) → (μ = zS σ 37 (zSp σ c lv all (σ 37) i)) → 7 - i < N_3 → Gd K 0 0 3 [some (.ref (ad 3)), some (.ref (ad 1)), some (.int (zI c)), some (.long (zL lv)), none, some (.int (zI all)), some (.int (zI d)), none] [] (wX ad (z_t K) μ) := by
    intro N_3
    induction N_3 with
    | zero => intro i d μ hi hm hm_3; exact absurd hm_3 (Nat.not_lt_zero _)
    | succ N_3 ih_3 =>
      intro i d μ hi hm hm_3
      obtain ⟨rfl, hi⟩ := hi
      have hE : zE μ σ [37] := by rw [hm]; exact zE_set zE_rf (by decide)
      have e37 : μ 37 = zSp σ c lv all (σ 37) i := by rw [hm]; rfl
      have e33 := hE 33 (by decide)
      have eN := zN_E hE (by decide) (by decide) (by decide)
      have hb := htb i (by omega)
      have hk := zLik_b hs i
      have hk0 := Int.mul_nonneg hl.1 hk.1
      have hk1 : lv * zLik σ i ≤ 1000000000 * 9 := Int.mul_le_mul hl.2 hk.2 hk.1 (by omega)
      have eL := zLik_E hE (by decide) i
      refine z_iload C (z_d dtX1_spread_0 2 rfl) rfl ?_
      refine z_bipush C (z_d dtX1_spread_0 3 rfl) zb_7 ?_
      refine z_icmp_ge (tgt := 62) C (z_d dtX1_spread_0 4 rfl) (by decide) (by omega) (fun h_7 => ?_) (fun h_7 => ?_)
      · exact ret _ _ _ (z_d dtX1_spread_0 34 rfl) (by rw [hm, show i = 7 by omega])
      · refine z_aload_n C (z_d dtX1_spread_0 5 rfl) rfl ?_
        refine z_iload_n C (z_d dtX1_spread_0 6 rfl) rfl ?_
        refine z_iload C (z_d dtX1_spread_0 7 rfl) rfl ?_
        refine z_callV C (z_d dtX1_spread_0 8 rfl) (k_X3_targetOf  (by omega) (by first | assumption | omega)) cal_X3_targetOf gw_21_11 rfl 1 3 rfl rfl rfl rfl hR ⟨rfl, rfl, rfl, rfl⟩ rfl (fun r_14 w_14 h_14 => ?_)
        obtain ⟨rfl, rfl⟩ := h_14
        rw [e33]
        refine z_istore7 C (z_d dtX1_spread_0 9 rfl) rfl ?_
        refine z_aload_n C (z_d dtX1_spread_0 10 rfl) rfl ?_
        refine z_iload C (z_d dtX1_spread_0 11 rfl) rfl ?_
        refine z_callV C (z_d dtX1_spread_0 12 rfl) (k_X3_hasCell  (zHw_E hE (by decide) (by decide) (by decide) hw) (by first | assumption | omega)) cal_X3_hasCell gw_21_12 rfl 1 3 rfl rfl rfl rfl hR ⟨rfl, rfl, rfl, rfl⟩ rfl (fun r_22 w_22 h_22 => ?_)
        obtain ⟨rfl, h_22⟩ := h_22
        rw [eN] at h_22
        refine z_if_eq (tgt := 56) C (z_d dtX1_spread_0 13 rfl) (by decide) (by omega) (fun h_25 => ?_) (fun h_25 => ?_)
        · refine z_iinc6 C (z_d dtX1_spread_0 32 rfl) rfl ?_
          refine z_goto (tgt := 3) C (z_d dtX1_spread_0 33 rfl) (by decide) ?_
          refine z_drop7 ?_
          exact ih_3 (i + 1) _ _ (by omega) (by
                rw [zSp]
                first
                  | (rw [if_neg (by omega)]; exact hm)
                  | (rw [if_pos (by omega), hm, zS_zS, zS_s])) (by omega)
        · refine z_iload C (z_d dtX1_spread_0 14 rfl) rfl ?_
          refine z_if_le (tgt := 56) C (z_d dtX1_spread_0 15 rfl) (by decide) (by omega) (fun h_30 => ?_) (fun h_30 => ?_)
          · refine z_iinc6 C (z_d dtX1_spread_0 32 rfl) rfl ?_
            refine z_goto (tgt := 3) C (z_d dtX1_spread_0 33 rfl) (by decide) ?_
            refine z_drop7 ?_
            exact ih_3 (i + 1) _ _ (by omega) (by
                  rw [zSp]
                  first
                    | (rw [if_neg (by omega)]; exact hm)
                    | (rw [if_pos (by omega), hm, zS_zS, zS_s])) (by omega)
          · refine z_aload_n C (z_d dtX1_spread_0 16 rfl) rfl ?_
            refine gf_X1_19 C (z_d dtX1_spread_0 17 rfl) ?_
            refine z_iload C (z_d dtX1_spread_0 18 rfl) rfl ?_
            refine z_dup2 C (z_d dtX1_spread_0 19 rfl) rfl rfl ?_
            refine al_X16 C (z_d dtX1_spread_0 20 rfl) (by omega) ?_
            try simp (decide := true) only [zS_s, zS_o, zC, e37]
            refine z_lload_n C (z_d dtX1_spread_0 21 rfl) rfl ?_
            refine z_aload_n C (z_d dtX1_spread_0 22 rfl) rfl ?_
            refine z_iload C (z_d dtX1_spread_0 23 rfl) rfl ?_
            refine z_callV C (z_d dtX1_spread_0 24 rfl) (k_X3_likelyTo  (by first | assumption | omega)) cal_X3_likelyTo gw_21_13 rfl 1 3 rfl rfl rfl rfl hR ⟨rfl, rfl, rfl, rfl⟩ rfl (fun r_45 w_45 h_45 => ?_)
            obtain ⟨rfl, rfl⟩ := h_45
            rw [eL]
            refine z_i2l C (z_d dtX1_spread_0 25 rfl) (by omega) ?_
            refine z_lmul C (z_d dtX1_spread_0 26 rfl) ?_
            refine z_iload C (z_d dtX1_spread_0 27 rfl) rfl ?_
            refine z_i2l C (z_d dtX1_spread_0 28 rfl) (by omega) ?_
            refine z_ldiv C (z_d dtX1_spread_0 29 rfl) (by omega) ?_
            refine z_ladd C (z_d dtX1_spread_0 30 rfl) ?_
            refine as_X16 C (z_d dtX1_spread_0 31 rfl) (by omega) ?_
            refine z_iinc6 C (z_d dtX1_spread_0 32 rfl) rfl ?_
            refine z_goto (tgt := 3) C (z_d dtX1_spread_0 33 rfl) (by decide) ?_
            refine z_drop7 ?_
            exact ih_3 (i + 1) _ _ (by omega) (by
                  rw [zSp]
                  first
                    | (rw [if_neg (by omega)]; exact hm)
                    | (rw [if_pos (by omega), hm, zS_zS, zS_s])) (by omega)
  exact lp_3 _ 0 _ _ (by omega) (by funext j; unfold zS; cases hj : Nat.beq j 37 with
      | true => rw [Nat.eq_of_beq_eq_true hj]; rfl
      | false => rfl) (Nat.lt_succ_self _)

set_option maxRecDepth 100000 in
set_option maxHeartbeats 4000000 in
theorem k_X1_leadOneStep {l : Launch} {D : va_G} {t : Nat → ClassId} {ad : Nat → Nat} {σ : zMem} {n : Nat} (hw : zHw σ) (ht : zTb σ) (hs : 0 ≤ σ 3 0 ∧ σ 3 0 ≤ 9) (hn : σ 36 0 = (n : Int) ∧ 1 ≤ n ∧ n ≤ 72) (hnN : zN σ = n) (h9 : ∀ c : Int, 0 ≤ c → c < n → 0 ≤ σ 9 c ∧ σ 9 c ≤ 1000000) : z_Cv l D t yX1_leadOneStep cX1_leadOneStep 6 3 68 0 0 [.ref (ad 3), .ref (ad 1)] (wX ad t σ) (fun w => ∃ σ', w = wX ad t σ' ∧ zE σ' σ [9, 37, 38] ∧ ((zSum (zLw σ n) n ≤ 0 ∧ σ' 9 = σ 9) ∨ (0 < zSum (zLw σ n) n ∧ ∀ c : Int, 0 ≤ c → c < n → σ' 9 c = zWh (zLw σ n) n c))) := by
  refine z_Cv_of (by decide +kernel) [some (.ref (ad 3)), some (.ref (ad 1)), none, none, none, none] rfl rfl (Nat.le_of_ble_eq_true rfl) fun K hl hD ht hR hnm C ret => ?_
  subst hl; subst hD; subst ht
  refine z_aload_n C (z_d dtX1_leadOneStep_0 0 rfl) rfl ?_
  refine gf_X1_19 C (z_d dtX1_leadOneStep_0 1 rfl) ?_
  refine z_lconst C (x := 0) rfl (z_d dtX1_leadOneStep_0 2 rfl) ?_
  refine z_callSv C (z_d dtX1_leadOneStep_0 3 rfl) kf_X16 cal_J7_fill_d0a16 gw_6_14 rfl rfl hR ⟨rfl, rfl, rfl, rfl⟩ rfl (fun w_5 h_5 => ?_)
  subst h_5
  refine z_iconst C (z_d dtX1_leadOneStep_0 4 rfl) ?_
  refine z_istore_n2 C (z_d dtX1_leadOneStep_0 5 rfl) rfl ?_
  have lp_10 : ∀ (N_10 : Nat) (i : Nat) (c : Int) (μ : zMem), (c = i ∧ i ≤ n) → (μ = zS σ 37 (zLw σ i)) → n - i < N_10 → Gd K 0 0 10 [some (.ref (ad 3)), some (.ref (ad 1)), some (.int (zI c)), none, none, none] [] (wX ad (z_t K) μ) := by
    intro N_10
    induction N_10 with
    | zero => intro i c μ hi hm hm_10; exact absurd hm_10 (Nat.not_lt_zero _)
    | succ N_10 ih_10 =>
      intro i c μ hi hm hm_10
      obtain ⟨rfl, hi⟩ := hi
      have hE : zE μ σ [37] := by rw [hm]; exact zE_set zE_rf (by decide)
      have e37 : μ 37 = zLw σ i := by rw [hm]; rfl
      have e36 := hE 36 (by decide)
      have e9 := hE 9 (by decide)
      have eN := zN_E hE (by decide) (by decide) (by decide)
      have eA := zAll_E hE (by decide) (by decide) i 7
      have hA := zAll_b hs i 7
      have h9i := fun q : i < n => h9 i (by omega) (by omega)
      have hw2 := zHw_E hE (by decide) (by decide) (by decide) hw
      have ht2 := zTb_E hE (by decide) (by decide) (by decide) (by decide) (by decide) (by decide) (by decide) (by decide) ht
      have e3 := hE 3 (by decide)
      refine z_iload_n C (z_d dtX1_leadOneStep_0 6 rfl) rfl ?_
      refine z_aload_n C (z_d dtX1_leadOneStep_0 7 rfl) rfl ?_
      refine gf_X1_9 C (z_d dtX1_leadOneStep_0 8 rfl) ?_
      try simp (decide := true) only [zS_s, zS_o, zC, e37, e9, e36]
      refine z_icmp_ge (tgt := 70) C (z_d dtX1_leadOneStep_0 9 rfl) (by decide) (by omega) (fun h_15 => ?_) (fun h_15 => ?_)
      · refine z_aload_n C (z_d dtX1_leadOneStep_1 1 rfl) rfl ?_
        have hLb := zLw_b hs n h9
        refine z_callV C (z_d dtX1_leadOneStep_1 2 rfl) (k_X1_makeWhole (n := n) (by rw [e36]; exact hn) (fun c h0 h1 => by
                  rw [e37, show i = n by omega]
                  have := hLb c
                  omega)) cal_X1_makeWhole gw_6_17 rfl 3 1 rfl rfl rfl rfl hR ⟨rfl, rfl, rfl, rfl⟩ rfl (fun r_71 w_71 h_71 => ?_)
        obtain ⟨σ_71, rfl, h_71⟩ := h_71
        refine z_pop C (z_d dtX1_leadOneStep_1 3 rfl) rfl ?_
        exact ret _ _ _ (z_d dtX1_leadOneStep_1 4 rfl) (by
                  rw [e37, show i = n by omega] at h_71
                  rcases h_71 with ⟨a, -, b⟩ | ⟨a, -, b, g⟩
                  · subst b; exact ⟨_, rfl, zE_mo hE (by decide), Or.inl ⟨a, e9⟩⟩
                  · exact ⟨_, rfl, zE_tr (zE_mo b (by decide)) (zE_mo hE (by decide)), Or.inr ⟨a, g⟩⟩)
      · refine z_aload_n C (z_d dtX1_leadOneStep_0 10 rfl) rfl ?_
        refine z_iload_n C (z_d dtX1_leadOneStep_0 11 rfl) rfl ?_
        refine z_callV C (z_d dtX1_leadOneStep_0 12 rfl) (k_X3_likelyOfAll  (by first | assumption | omega) (by omega) (by rw [e3]; exact hs) (by first | assumption | omega)) cal_X3_likelyOfAll gw_21_3 rfl 1 3 rfl rfl rfl rfl hR ⟨rfl, rfl, rfl, rfl⟩ rfl (fun r_20 w_20 h_20 => ?_)
        obtain ⟨rfl, rfl⟩ := h_20
        rw [eA]
        refine z_istore_n3 C (z_d dtX1_leadOneStep_0 13 rfl) rfl ?_
        refine z_aload_n C (z_d dtX1_leadOneStep_0 14 rfl) rfl ?_
        refine gf_X1_15 C (z_d dtX1_leadOneStep_0 15 rfl) ?_
        refine z_iload_n C (z_d dtX1_leadOneStep_0 16 rfl) rfl ?_
        refine al_X15 C (z_d dtX1_leadOneStep_0 17 rfl) (by omega) ?_
        try simp (decide := true) only [zS_s, zS_o, zC, e37, e9, e36]
        refine z_i2l C (z_d dtX1_leadOneStep_0 18 rfl) (by omega) ?_
        refine z_ldc2 C gk_RX1_52 (z_d dtX1_leadOneStep_0 19 rfl) ?_
        refine z_lmul C (z_d dtX1_leadOneStep_0 20 rfl) ?_
        refine z_lstore4 C (z_d dtX1_leadOneStep_0 21 rfl) rfl ?_
        refine z_iload_n C (z_d dtX1_leadOneStep_0 22 rfl) rfl ?_
        refine z_if_gt (tgt := 55) C (z_d dtX1_leadOneStep_0 23 rfl) (by decide) (by omega) (fun h_38 => ?_) (fun h_38 => ?_)
        · refine z_aload_n C (z_d dtX1_leadOneStep_0 33 rfl) rfl ?_
          refine z_aload_n C (z_d dtX1_leadOneStep_0 34 rfl) rfl ?_
          refine z_iload_n C (z_d dtX1_leadOneStep_0 35 rfl) rfl ?_
          refine z_lload C (z_d dtX1_leadOneStep_0 36 rfl) rfl ?_
          refine z_iload_n C (z_d dtX1_leadOneStep_0 37 rfl) rfl ?_
          refine z_callVv C (z_d dtX1_leadOneStep_0 38 rfl) (k_X1_spread  (by first | assumption | omega) (by first | assumption | omega) (by rw [e3]; exact hs) (by omega) (by first | assumption | omega) (by first | assumption | omega)) cal_X1_spread gw_21_7 rfl 3 1 rfl rfl rfl rfl hR ⟨rfl, rfl, rfl, rfl⟩ rfl (fun w_61 h_61 => ?_)
          obtain rfl := h_61
          rw [zSp_E hE (by decide) (by decide) (by decide) (by decide) (by decide), e37]
          refine z_iinc2 C (z_d dtX1_leadOneStep_0 39 rfl) rfl ?_
          refine z_goto (tgt := 10) C (z_d dtX1_leadOneStep_1 0 rfl) (by decide) ?_
          refine z_drop3 ?_
          refine z_drop4 ?_
          exact ih_10 (i + 1) _ _ (by omega) (by
                rw [zLw]
                first
                  | (rw [if_pos (by omega), hm, zS_zS, zS_s])
                  | (rw [if_neg (by omega), hm, zS_zS])) (by omega)
        · refine z_aload_n C (z_d dtX1_leadOneStep_0 24 rfl) rfl ?_
          refine gf_X1_19 C (z_d dtX1_leadOneStep_0 25 rfl) ?_
          refine z_iload_n C (z_d dtX1_leadOneStep_0 26 rfl) rfl ?_
          refine z_dup2 C (z_d dtX1_leadOneStep_0 27 rfl) rfl rfl ?_
          refine al_X16 C (z_d dtX1_leadOneStep_0 28 rfl) (by omega) ?_
          try simp (decide := true) only [zS_s, zS_o, zC, e37, e9, e36]
          refine z_lload C (z_d dtX1_leadOneStep_0 29 rfl) rfl ?_
          refine z_ladd C (z_d dtX1_leadOneStep_0 30 rfl) ?_
          refine as_X16 C (z_d dtX1_leadOneStep_0 31 rfl) (by omega) ?_
          refine z_goto (tgt := 64) C (z_d dtX1_leadOneStep_0 32 rfl) (by decide) ?_
          refine z_iinc2 C (z_d dtX1_leadOneStep_0 39 rfl) rfl ?_
          refine z_goto (tgt := 10) C (z_d dtX1_leadOneStep_1 0 rfl) (by decide) ?_
          refine z_drop3 ?_
          refine z_drop4 ?_
          exact ih_10 (i + 1) _ _ (by omega) (by
                rw [zLw]
                first
                  | (rw [if_pos (by omega), hm, zS_zS, zS_s])
                  | (rw [if_neg (by omega), hm, zS_zS])) (by omega)
  exact lp_10 _ 0 _ _ (by omega) rfl (Nat.lt_succ_self _)

set_option maxRecDepth 100000 in
set_option maxHeartbeats 4000000 in
theorem k_X1_weighSender {l : Launch} {D : va_G} {t : Nat → ClassId} {ad : Nat → Nat} {σ : zMem} {k v : Int} {n : Nat} (hn : σ 36 0 = (n : Int) ∧ 1 ≤ n ∧ n ≤ 72) (hk : 0 ≤ k ∧ k < 8) (hv : -1 ≤ v ∧ v ≤ 9) (hmp : zMp σ) (h37 : ∀ c : Int, 0 ≤ c → c < n → 0 ≤ σ 37 c ∧ σ 37 c ≤ 1000) : z_Cv l D t yX1_weighSender cX1_weighSender 6 3 70 0 0 [.ref (ad 3), .ref (ad 2), .int (zI k), .int (zI v)] (wX ad t σ) (fun w => ∃ σ', w = wX ad t σ' ∧ zE σ' σ [37] ∧ ∀ c : Int, 0 ≤ c → c < n → σ' 37 c = σ 37 c * zWt σ k c v / zGw σ k v n) := by
  refine z_Cv_of (by decide +kernel) [some (.ref (ad 3)), some (.ref (ad 2)), some (.int (zI k)), some (.int (zI v)), none, none] rfl rfl (Nat.le_of_ble_eq_true rfl) fun K hl hD ht hR hnm C ret => ?_
  subst hl; subst hD; subst ht
  have hG := zGw_b hmp k v n
  refine z_aload_n C (z_d dtX1_weighSender_0 0 rfl) rfl ?_
  refine z_iload_n C (z_d dtX1_weighSender_0 1 rfl) rfl ?_
  refine z_iload_n C (z_d dtX1_weighSender_0 2 rfl) rfl ?_
  refine z_aload_n C (z_d dtX1_weighSender_0 3 rfl) rfl ?_
  refine gf_X1_9 C (z_d dtX1_weighSender_0 4 rfl) ?_
  try simp (decide := true) only [zS_s, zS_o, zC, e36]
  refine z_top hn.1 ?_
  refine z_callV C (z_d dtX1_weighSender_0 5 rfl) (k_X4_greatestWeight (n := (n : Int)) (by first | assumption | omega) (by first | assumption | omega) (by first | assumption | omega) (by omega)) cal_X4_greatestWeight gw_22_17 rfl 2 4 rfl rfl rfl rfl hR ⟨rfl, rfl, rfl, rfl⟩ rfl (fun r_7 w_7 h_7 => ?_)
  obtain ⟨rfl, rfl⟩ := h_7
  rw [show ((n : Int)).toNat = n from Int.toNat_natCast n]
  refine z_istore4 C (z_d dtX1_weighSender_0 6 rfl) rfl ?_
  refine z_iconst C (z_d dtX1_weighSender_0 7 rfl) ?_
  refine z_istore5 C (z_d dtX1_weighSender_0 8 rfl) rfl ?_
  have lp_15 : ∀ (N_15 : Nat) (i : Nat) (c : Int) (μ : zMem), (c = i ∧ i ≤ n) → (zE μ σ [37]) → ((∀ c : Int, 0 ≤ c → c < i → μ 37 c = σ 37 c * zWt σ k c v / zGw σ k v n) ∧ ∀ c : Int, i ≤ c → μ 37 c = σ 37 c) → n - i < N_15 → Gd K 0 0 15 [some (.ref (ad 3)), some (.ref (ad 2)), some (.int (zI k)), some (.int (zI v)), some (.int (zI (zGw σ k v n))), some (.int (zI c))] [] (wX ad (z_t K) μ) := by
    intro N_15
    induction N_15 with
    | zero => intro i c μ hi hE hm hm_15; exact absurd hm_15 (Nat.not_lt_zero _)
    | succ N_15 ih_15 =>
      intro i c μ hi hE hm hm_15
      obtain ⟨rfl, hi⟩ := hi
      have e36 := hE 36 (by decide)
      have ei := hm.2 i (by omega)
      have hci := fun q : i < n => h37 i (by omega) (by omega)
      have hwb := zWt_b hmp k i v
      have hwm : i < n → 0 ≤ σ 37 i * zWt σ k i v ∧ σ 37 i * zWt σ k i v ≤ 1000 * 256 := fun q => ⟨Int.mul_nonneg (hci q).1 (by omega), Int.mul_le_mul (hci q).2 hwb.2 (by omega) (by omega)⟩
      have eW := zWt_E hE (by decide) k i v
      refine z_iload C (z_d dtX1_weighSender_0 9 rfl) rfl ?_
      refine z_aload_n C (z_d dtX1_weighSender_0 10 rfl) rfl ?_
      refine gf_X1_9 C (z_d dtX1_weighSender_0 11 rfl) ?_
      try simp (decide := true) only [zS_s, zS_o, zC, e36]
      refine z_icmp_ge (tgt := 58) C (z_d dtX1_weighSender_0 12 rfl) (by decide) (by omega) (fun h_21 => ?_) (fun h_21 => ?_)
      · exact ret _ _ _ (z_d dtX1_weighSender_0 33 rfl) (⟨_, rfl, hE, fun c h0 h1 => hm.1 c h0 (by omega)⟩)
      · refine z_aload_n C (z_d dtX1_weighSender_0 13 rfl) rfl ?_
        refine gf_X1_19 C (z_d dtX1_weighSender_0 14 rfl) ?_
        refine z_iload C (z_d dtX1_weighSender_0 15 rfl) rfl ?_
        refine z_aload_n C (z_d dtX1_weighSender_0 16 rfl) rfl ?_
        refine gf_X1_19 C (z_d dtX1_weighSender_0 17 rfl) ?_
        refine z_iload C (z_d dtX1_weighSender_0 18 rfl) rfl ?_
        refine al_X16 C (z_d dtX1_weighSender_0 19 rfl) (by omega) ?_
        try simp (decide := true) only [zS_s, zS_o, zC, e36]
        refine z_aload_n C (z_d dtX1_weighSender_0 20 rfl) rfl ?_
        refine z_iload_n C (z_d dtX1_weighSender_0 21 rfl) rfl ?_
        refine z_iload C (z_d dtX1_weighSender_0 22 rfl) rfl ?_
        refine z_iload_n C (z_d dtX1_weighSender_0 23 rfl) rfl ?_
        refine z_callV C (z_d dtX1_weighSender_0 24 rfl) (k_X4_weightOf  (by first | assumption | omega) (by first | assumption | omega) (by first | assumption | omega)) cal_X4_weightOf gw_22_22 rfl 2 4 rfl rfl rfl rfl hR ⟨rfl, rfl, rfl, rfl⟩ rfl (fun r_42 w_42 h_42 => ?_)
        obtain ⟨rfl, rfl⟩ := h_42
        rw [ei, eW]
        refine z_i2l C (z_d dtX1_weighSender_0 25 rfl) (by omega) ?_
        refine z_lmul C (z_d dtX1_weighSender_0 26 rfl) ?_
        refine z_iload C (z_d dtX1_weighSender_0 27 rfl) rfl ?_
        refine z_i2l C (z_d dtX1_weighSender_0 28 rfl) (by omega) ?_
        refine z_ldiv C (z_d dtX1_weighSender_0 29 rfl) (by omega) ?_
        refine as_X16 C (z_d dtX1_weighSender_0 30 rfl) (by omega) ?_
        refine z_iinc5 C (z_d dtX1_weighSender_0 31 rfl) rfl ?_
        refine z_goto (tgt := 15) C (z_d dtX1_weighSender_0 32 rfl) (by decide) ?_
        exact ih_15 (i + 1) _ _ (by omega) (zE_set hE (by decide)) ⟨fun c h0 h1 => by
                rw [zS_s]
                by_cases e : c = i
                · subst e; rw [zU_s]
                · rw [zU_n e]; exact hm.1 c h0 (by omega), fun c h0 => by
                rw [zS_s, zU_n (by omega)]; exact hm.2 c (by omega)⟩ (by omega)
  exact lp_15 _ 0 _ _ (by omega) zE_rf ⟨fun c h0 h1 => absurd h1 (by omega), fun _ _ => rfl⟩ (Nat.lt_succ_self _)

set_option maxRecDepth 100000 in
set_option maxHeartbeats 4000000 in
theorem k_X1_hearRow {l : Launch} {D : va_G} {t : Nat → ClassId} {ad : Nat → Nat} {σ : zMem} {z row o : Int} {n : Nat} (hn : σ 36 0 = (n : Int) ∧ 1 ≤ n ∧ n ≤ 72) (hz : 0 ≤ z ∧ z < 4) (hit : zIt σ) (hrow : 0 ≤ row ∧ row < 30) (hmp : zMp σ) (hdd : σ 30 0 = zDb (σ 7)) (h7 : zBo σ 7) (ho : -4 ≤ o ∧ o ≤ 4) (h9 : ∀ c : Int, 0 ≤ c → c < n → 0 ≤ σ 9 c ∧ σ 9 c ≤ 1000000) : z_Ci l D t yX1_hearRow cX1_hearRow 7 .boolean 4 95 0 0 [.ref (ad 3), .ref (ad 2), .ref (ad (22 + z.toNat)), .int (zI row), .int (zI o)] (wX ad t σ) (fun r w => ∃ σ', w = wX ad t σ' ∧ ((zSum (fun c => zHm σ z row o n 8 c * σ 9 c) n ≤ 0 ∧ r = 0 ∧ zE σ' σ [37, 38]) ∨ (0 < zSum (fun c => zHm σ z row o n 8 c * σ 9 c) n ∧ r = 1 ∧ zE σ' σ [9, 37, 38] ∧ ∀ c : Int, 0 ≤ c → c < n → σ' 9 c = zWh (fun c => zHm σ z row o n 8 c * σ 9 c) n c))) := by
  refine z_Ci_of (by decide +kernel) [some (.ref (ad 3)), some (.ref (ad 2)), some (.ref (ad (22 + z.toNat))), some (.int (zI row)), some (.int (zI o)), none, none] rfl rfl (Nat.le_of_ble_eq_true rfl) fun K hl hD ht hR hnm C ret => ?_
  subst hl; subst hD; subst ht
  refine z_aload_n C (z_d dtX1_hearRow_0 0 rfl) rfl ?_
  refine gf_X1_19 C (z_d dtX1_hearRow_0 1 rfl) ?_
  refine z_ldc2 C gk_RX1_52 (z_d dtX1_hearRow_0 2 rfl) ?_
  refine z_callSv C (z_d dtX1_hearRow_0 3 rfl) kf_X16 cal_J7_fill_d0a16 gw_6_14 rfl rfl hR ⟨rfl, rfl, rfl, rfl⟩ rfl (fun w_7 h_7 => ?_)
  subst h_7
  refine z_iconst C (z_d dtX1_hearRow_0 4 rfl) ?_
  refine z_istore5 C (z_d dtX1_hearRow_0 5 rfl) rfl ?_
  have lp_13 : ∀ (N_13 : Nat) (i : Nat) (k : Int) (μ : zMem), (k = i ∧ i ≤ 8) → (zE μ σ [37]) → (∀ c : Int, 0 ≤ c → c < n → μ 37 c = zHm σ z row o n i c) → 8 - i < N_13 → Gd K 0 0 13 [some (.ref (ad 3)), some (.ref (ad 2)), some (.ref (ad (22 + z.toNat))), some (.int (zI row)), some (.int (zI o)), some (.int (zI k)), none] [] (wX ad (z_t K) μ) := by
    intro N_13
    induction N_13 with
    | zero => intro i k μ hi hE hm hm_13; exact absurd hm_13 (Nat.not_lt_zero _)
    | succ N_13 ih_13 =>
      intro i k μ hi hE hm hm_13
      obtain ⟨rfl, hi⟩ := hi
      have hit2 : zIt μ := by unfold zIt; rw [hE 20 (by decide)]; exact hit
      have hmp2 : zMp μ := by unfold zMp; rw [hE 8 (by decide)]; exact hmp
      have hdd2 : μ 30 0 = zDb (μ 7) := by rw [hE 30 (by decide), hE 7 (by decide)]; exact hdd
      have h72 := zBo_E hE (by decide) h7
      have e7 := hE 7 (by decide)
      have h7i := h7 i
      have hv9 := zHo_b (zHv σ z row i) o
      have eV := zHv_E hE (by decide) z row i
      have e36 := hE 36 (by decide)
      refine z_iload C (z_d dtX1_hearRow_0 6 rfl) rfl ?_
      refine z_bipush C (z_d dtX1_hearRow_0 7 rfl) zb_8 ?_
      refine z_icmp_ge (tgt := 62) C (z_d dtX1_hearRow_0 8 rfl) (by decide) (by omega) (fun h_17 => ?_) (fun h_17 => ?_)
      · refine z_iconst C (z_d dtX1_hearRow_0 29 rfl) ?_
        refine z_istore5 C (z_d dtX1_hearRow_0 30 rfl) rfl ?_
        have lp_65 : ∀ (N_65 : Nat) (i2 : Nat) (c : Int) (μ : zMem), (c = i2 ∧ i2 ≤ n) → (zE μ σ [37]) → ((∀ c : Int, 0 ≤ c → c < i2 → μ 37 c = zHm σ z row o n 8 c * σ 9 c) ∧ ∀ c : Int, i2 ≤ c → c < n → μ 37 c = zHm σ z row o n 8 c) → n - i2 < N_65 → Gd K 0 0 65 [some (.ref (ad 3)), some (.ref (ad 2)), some (.ref (ad (22 + z.toNat))), some (.int (zI row)), some (.int (zI o)), some (.int (zI c)), none] [] (wX ad (z_t K) μ) := by
          intro N_65
          induction N_65 with
          | zero => intro i2 c μ hi2 hE hm hm_65; exact absurd hm_65 (Nat.not_lt_zero _)
          | succ N_65 ih_65 =>
            intro i2 c μ hi2 hE hm hm_65
            obtain ⟨rfl, hi2⟩ := hi2
            have e36 := hE 36 (by decide)
            have e9 := hE 9 (by decide)
            have h9i := fun q : i2 < n => h9 i2 (by omega) (by omega)
            refine z_iload C (z_d dtX1_hearRow_0 31 rfl) rfl ?_
            refine z_aload_n C (z_d dtX1_hearRow_0 32 rfl) rfl ?_
            refine gf_X1_9 C (z_d dtX1_hearRow_0 33 rfl) ?_
            try simp (decide := true) only [zS_s, zS_o, zC, e36, e9]
            refine z_icmp_ge (tgt := 98) C (z_d dtX1_hearRow_0 34 rfl) (by decide) (by omega) (fun h_71 => ?_) (fun h_71 => ?_)
            · refine z_aload_n C (z_d dtX1_hearRow_1 9 rfl) rfl ?_
              refine z_callV C (z_d dtX1_hearRow_1 10 rfl) (k_X1_makeWhole (n := n) (by rw [e36]; exact hn) (fun c h0 h1 => by
                        rw [hm.1 c h0 (by omega)]
                        have a := zHm_b (s := z) (row := row) (o := o) hmp 8 c.toNat (n := n) (by omega)
                        rw [Int.toNat_of_nonneg h0] at a
                        have b := h9 c h0 h1
                        exact ⟨Int.mul_nonneg a.1 b.1, Int.le_trans (Int.mul_le_mul a.2 b.2 b.1 (by omega)) (by decide)⟩)) cal_X1_makeWhole gw_6_17 rfl 3 1 rfl rfl rfl rfl hR ⟨rfl, rfl, rfl, rfl⟩ rfl (fun r_99 w_99 h_99 => ?_)
              obtain ⟨σ_99, rfl, h_99⟩ := h_99
              rw [zSum_cg (F := μ 37) (G := fun c => zHm σ z row o n 8 c * σ 9 c) n (fun c h0 h1 => hm.1 c h0 (by omega))] at h_99
              exact ret _ _ _ _ (z_d dtX1_hearRow_1 11 rfl) (by
                        rcases h_99 with ⟨a, b, g⟩ | ⟨a, b, g, q⟩
                        · subst g; exact ⟨_, rfl, Or.inl ⟨a, b, zE_mo hE (by decide)⟩⟩
                        · exact ⟨_, rfl, Or.inr ⟨a, b, zE_tr (zE_mo g (by decide)) (zE_mo hE (by decide)), fun c h0 h1 => by
                          rw [q c h0 h1]
                          exact zWh_cg hn.2.1 (fun c a b => hm.1 c a (by omega)) c h0 h1⟩⟩) (z_nb (by omega))
            · refine z_aload_n C (z_d dtX1_hearRow_0 35 rfl) rfl ?_
              refine gf_X1_19 C (z_d dtX1_hearRow_0 36 rfl) ?_
              refine z_iload C (z_d dtX1_hearRow_0 37 rfl) rfl ?_
              refine z_dup2 C (z_d dtX1_hearRow_0 38 rfl) rfl rfl ?_
              refine al_X16 C (z_d dtX1_hearRow_0 39 rfl) (by omega) ?_
              try simp (decide := true) only [zS_s, zS_o, zC, e36, e9]
              refine z_aload_n C (z_d dtX1_hearRow_1 0 rfl) rfl ?_
              refine gf_X1_15 C (z_d dtX1_hearRow_1 1 rfl) ?_
              refine z_iload C (z_d dtX1_hearRow_1 2 rfl) rfl ?_
              refine al_X15 C (z_d dtX1_hearRow_1 3 rfl) (by omega) ?_
              try simp (decide := true) only [zS_s, zS_o, zC, e36, e9]
              refine z_i2l C (z_d dtX1_hearRow_1 4 rfl) (by omega) ?_
              refine z_lmul C (z_d dtX1_hearRow_1 5 rfl) ?_
              refine as_X16 C (z_d dtX1_hearRow_1 6 rfl) (by omega) ?_
              refine z_iinc5 C (z_d dtX1_hearRow_1 7 rfl) rfl ?_
              refine z_goto (tgt := 65) C (z_d dtX1_hearRow_1 8 rfl) (by decide) ?_
              exact ih_65 (i2 + 1) _ _ (by omega) (zE_set hE (by decide)) ⟨fun c h0 h1 => by
                      rw [zS_s]
                      by_cases e : c = i2
                      · subst e; rw [zU_s, hm.2 i2 (by omega) (by omega)]
                      · rw [zU_n e]; exact hm.1 c h0 (by omega), fun c h0 h1 => by
                      rw [zS_s, zU_n (by omega)]; exact hm.2 c (by omega) h1⟩ (by omega)
        exact lp_65 _ 0 _ _ (by omega) hE ⟨fun c h0 h1 => absurd h1 (by omega), fun c h0 h1 => by rw [hm c (by omega) h1, show i = 8 by omega]⟩ (Nat.lt_succ_self _)
      · refine z_aload_n C (z_d dtX1_hearRow_0 9 rfl) rfl ?_
        refine z_iload_n C (z_d dtX1_hearRow_0 10 rfl) rfl ?_
        refine z_iload C (z_d dtX1_hearRow_0 11 rfl) rfl ?_
        refine z_iload C (z_d dtX1_hearRow_0 12 rfl) rfl ?_
        refine z_callV C (z_d dtX1_hearRow_0 13 rfl) (k_X5_heardBy  (by first | assumption | omega) (by first | assumption | omega) (by first | assumption | omega) (by first | assumption | omega) (by first | assumption | omega)) cal_X5_heardBy gw_22_11 rfl (22 + _) 5 (wX_sh (by omega)) rfl rfl rfl hR ⟨rfl, rfl, rfl, rfl⟩ rfl (fun r_26 w_26 h_26 => ?_)
        obtain ⟨rfl, rfl⟩ := h_26
        rw [eV]
        refine z_istore6 C (z_d dtX1_hearRow_0 14 rfl) rfl ?_
        refine z_iload C (z_d dtX1_hearRow_0 15 rfl) rfl ?_
        refine z_bipush C (z_d dtX1_hearRow_0 16 rfl) zb_m2 ?_
        refine z_icmp_eq (tgt := 56) C (z_d dtX1_hearRow_0 17 rfl) (by decide) (by omega) (fun h_35 => ?_) (fun h_35 => ?_)
        · refine z_iinc5 C (z_d dtX1_hearRow_0 27 rfl) rfl ?_
          refine z_goto (tgt := 13) C (z_d dtX1_hearRow_0 28 rfl) (by decide) ?_
          refine z_drop6 ?_
          exact ih_13 (i + 1) _ _ (by omega) (by first | exact hE | exact zE_tr hE_53 hE) (fun c h0 h1 => by
                simp only [zHm]
                first
                  | (rw [if_pos ⟨by omega, by rw [e7] at *; omega⟩, h_53 c h0 h1, hm c h0 h1, zWt_E hE (by decide), zGw_E hE (by decide)])
                  | (rw [if_neg (by rw [e7] at *; omega)]; exact hm c h0 h1)) (by omega)
        · refine z_aload_n C (z_d dtX1_hearRow_0 18 rfl) rfl ?_
          refine z_iload C (z_d dtX1_hearRow_0 19 rfl) rfl ?_
          refine z_callV C (z_d dtX1_hearRow_0 20 rfl) (k_X4_isDead  (by first | assumption | omega) (by first | assumption | omega) (by first | assumption | omega)) cal_X4_isDead gw_22_12 rfl 2 4 rfl rfl rfl rfl hR ⟨rfl, rfl, rfl, rfl⟩ rfl (fun r_41 w_41 h_41 => ?_)
          obtain ⟨rfl, h_41⟩ := h_41
          rw [e7] at h_41
          refine z_if_ne (tgt := 56) C (z_d dtX1_hearRow_0 21 rfl) (by decide) (by omega) (fun h_44 => ?_) (fun h_44 => ?_)
          · refine z_iinc5 C (z_d dtX1_hearRow_0 27 rfl) rfl ?_
            refine z_goto (tgt := 13) C (z_d dtX1_hearRow_0 28 rfl) (by decide) ?_
            refine z_drop6 ?_
            exact ih_13 (i + 1) _ _ (by omega) (by first | exact hE | exact zE_tr hE_53 hE) (fun c h0 h1 => by
                  simp only [zHm]
                  first
                    | (rw [if_pos ⟨by omega, by rw [e7] at *; omega⟩, h_53 c h0 h1, hm c h0 h1, zWt_E hE (by decide), zGw_E hE (by decide)])
                    | (rw [if_neg (by rw [e7] at *; omega)]; exact hm c h0 h1)) (by omega)
          · refine z_aload_n C (z_d dtX1_hearRow_0 22 rfl) rfl ?_
            refine z_aload_n C (z_d dtX1_hearRow_0 23 rfl) rfl ?_
            refine z_iload C (z_d dtX1_hearRow_0 24 rfl) rfl ?_
            refine z_iload C (z_d dtX1_hearRow_0 25 rfl) rfl ?_
            refine z_callVv C (z_d dtX1_hearRow_0 26 rfl) (k_X1_weighSender (n := n) (by rw [e36]; exact hn) (by first | assumption | omega) (by first | assumption | omega) (by first | assumption | omega) (fun c h0 h1 => by
                      rw [hm c h0 h1]
                      have := zHm_b (s := z) (row := row) (o := o) hmp i c.toNat (n := n) (by omega)
                      rw [Int.toNat_of_nonneg h0] at this
                      exact this)) cal_X1_weighSender gw_22_13 rfl 3 1 rfl rfl rfl rfl hR ⟨rfl, rfl, rfl, rfl⟩ rfl (fun w_53 h_53 => ?_)
            obtain ⟨σ_53, rfl, hE_53, h_53⟩ := h_53
            refine z_iinc5 C (z_d dtX1_hearRow_0 27 rfl) rfl ?_
            refine z_goto (tgt := 13) C (z_d dtX1_hearRow_0 28 rfl) (by decide) ?_
            refine z_drop6 ?_
            exact ih_13 (i + 1) _ _ (by omega) (by first | exact hE | exact zE_tr hE_53 hE) (fun c h0 h1 => by
                  simp only [zHm]
                  first
                    | (rw [if_pos ⟨by omega, by rw [e7] at *; omega⟩, h_53 c h0 h1, hm c h0 h1, zWt_E hE (by decide), zGw_E hE (by decide)])
                    | (rw [if_neg (by rw [e7] at *; omega)]; exact hm c h0 h1)) (by omega)
  exact lp_13 _ 0 _ _ (by omega) (zE_set zE_rf (by decide)) (fun c h0 h1 => rfl) (Nat.lt_succ_self _)

set_option maxRecDepth 100000 in
set_option maxHeartbeats 4000000 in
theorem k_X1_cellsWithShare {l : Launch} {D : va_G} {t : Nat → ClassId} {ad : Nat → Nat} {σ : zMem} {n : Nat} (hn : σ 36 0 = (n : Int) ∧ 1 ≤ n ∧ n ≤ 72) (h9 : ∀ c : Int, 0 ≤ c → c < n → 0 ≤ σ 9 c ∧ σ 9 c ≤ 1000000) : z_Ci l D t yX1_cellsWithShare cX1_cellsWithShare 3 .int 0 0 0 0 [.ref (ad 3)] (wX ad t σ) (fun r w => w = wX ad t σ ∧ r = zCs (σ 9) n) := by
  refine z_Ci_of (by decide +kernel) [some (.ref (ad 3)), none, none] rfl rfl (Nat.le_of_ble_eq_true rfl) fun K hl hD ht hR hnm C ret => ?_
  subst hl; subst hD; subst ht
  refine z_iconst C (z_d dtX1_cellsWithShare_0 0 rfl) ?_
  refine z_istore_n1 C (z_d dtX1_cellsWithShare_0 1 rfl) rfl ?_
  refine z_iconst C (z_d dtX1_cellsWithShare_0 2 rfl) ?_
  refine z_istore_n2 C (z_d dtX1_cellsWithShare_0 3 rfl) rfl ?_
  have lp_4 : ∀ (N_4 : Nat) (i : Nat) (c s : Int), (c = i ∧ i ≤ n) → (s = zCs (σ 9) i) → n - i < N_4 → Gd K 0 0 4 [some (.ref (ad 3)), some (.int (zI s)), some (.int (zI c))] [] (wX ad (z_t K) σ) := by
    intro N_4
    induction N_4 with
    | zero => intro i c s hi hs2 hm_4; exact absurd hm_4 (Nat.not_lt_zero _)
    | succ N_4 ih_4 =>
      intro i c s hi hs2 hm_4
      obtain ⟨rfl, hi⟩ := hi
      have h9i := fun q : i < n => h9 i (by omega) (by omega)
      refine z_iload_n C (z_d dtX1_cellsWithShare_0 4 rfl) rfl ?_
      refine z_aload_n C (z_d dtX1_cellsWithShare_0 5 rfl) rfl ?_
      refine gf_X1_9 C (z_d dtX1_cellsWithShare_0 6 rfl) ?_
      refine z_icmp_ge (tgt := 30) C (z_d dtX1_cellsWithShare_0 7 rfl) (by decide) (by omega) (fun h_9 => ?_) (fun h_9 => ?_)
      · refine z_iload_n C (z_d dtX1_cellsWithShare_0 16 rfl) rfl ?_
        exact ret _ _ _ _ (z_d dtX1_cellsWithShare_0 17 rfl) (⟨rfl, by rw [hs2, show i = n by omega]⟩) rfl
      · refine z_aload_n C (z_d dtX1_cellsWithShare_0 8 rfl) rfl ?_
        refine gf_X1_15 C (z_d dtX1_cellsWithShare_0 9 rfl) ?_
        refine z_iload_n C (z_d dtX1_cellsWithShare_0 10 rfl) rfl ?_
        refine al_X15 C (z_d dtX1_cellsWithShare_0 11 rfl) (by omega) ?_
        refine z_if_le (tgt := 24) C (z_d dtX1_cellsWithShare_0 12 rfl) (by decide) (by omega) (fun h_18 => ?_) (fun h_18 => ?_)
        · refine z_iinc2 C (z_d dtX1_cellsWithShare_0 14 rfl) rfl ?_
          refine z_goto (tgt := 4) C (z_d dtX1_cellsWithShare_0 15 rfl) (by decide) ?_
          exact ih_4 (i + 1) _ _ (by omega) (by rw [zCs]; (first | rw [if_pos (by omega)] | rw [if_neg (by omega)]) <;> omega) (by omega)
        · refine z_iinc1 C (z_d dtX1_cellsWithShare_0 13 rfl) rfl ?_
          refine z_iinc2 C (z_d dtX1_cellsWithShare_0 14 rfl) rfl ?_
          refine z_goto (tgt := 4) C (z_d dtX1_cellsWithShare_0 15 rfl) (by decide) ?_
          exact ih_4 (i + 1) _ _ (by omega) (by rw [zCs]; (first | rw [if_pos (by omega)] | rw [if_neg (by omega)]) <;> omega) (by omega)
  exact lp_4 _ 0 _ _ (by omega) rfl (Nat.lt_succ_self _)

set_option maxRecDepth 100000 in
set_option maxHeartbeats 4000000 in
theorem k_X1_greatestCell {l : Launch} {D : va_G} {t : Nat → ClassId} {ad : Nat → Nat} {σ : zMem} {n : Nat} (hn : σ 36 0 = (n : Int) ∧ 1 ≤ n ∧ n ≤ 72) (h9 : ∀ c : Int, 0 ≤ c → c < n → 0 ≤ σ 9 c ∧ σ 9 c ≤ 1000000) : z_Ci l D t yX1_greatestCell cX1_greatestCell 3 .int 0 0 0 0 [.ref (ad 3)] (wX ad t σ) (fun r w => w = wX ad t σ ∧ r = zMx (σ 9) n) := by
  refine z_Ci_of (by decide +kernel) [some (.ref (ad 3)), none, none] rfl rfl (Nat.le_of_ble_eq_true rfl) fun K hl hD ht hR hnm C ret => ?_
  subst hl; subst hD; subst ht
  refine z_iconst C (z_d dtX1_greatestCell_0 0 rfl) ?_
  refine z_istore_n1 C (z_d dtX1_greatestCell_0 1 rfl) rfl ?_
  refine z_iconst C (z_d dtX1_greatestCell_0 2 rfl) ?_
  refine z_istore_n2 C (z_d dtX1_greatestCell_0 3 rfl) rfl ?_
  have lp_4 : ∀ (N_4 : Nat) (c x : Int), (1 ≤ c ∧ c ≤ n) → (x = zMx (σ 9) c.toNat) → (n - c).toNat < N_4 → Gd K 0 0 4 [some (.ref (ad 3)), some (.int (zI x)), some (.int (zI c))] [] (wX ad (z_t K) σ) := by
    intro N_4
    induction N_4 with
    | zero => intro c x hc hx hm_4; exact absurd hm_4 (Nat.not_lt_zero _)
    | succ N_4 ih_4 =>
      intro c x hc hx hm_4
      have hxb := zMx_b (σ 9) c.toNat
      have hx0 := h9 x (by omega) (by omega)
      have hc0 := fun q : c < n => h9 c (by omega) q
      refine z_iload_n C (z_d dtX1_greatestCell_0 4 rfl) rfl ?_
      refine z_aload_n C (z_d dtX1_greatestCell_0 5 rfl) rfl ?_
      refine gf_X1_9 C (z_d dtX1_greatestCell_0 6 rfl) ?_
      refine z_icmp_ge (tgt := 35) C (z_d dtX1_greatestCell_0 7 rfl) (by decide) (by omega) (fun h_9 => ?_) (fun h_9 => ?_)
      · refine z_iload_n C (z_d dtX1_greatestCell_0 21 rfl) rfl ?_
        exact ret _ _ _ _ (z_d dtX1_greatestCell_0 22 rfl) (⟨rfl, by rw [hx, show c = n by omega, Int.toNat_natCast]⟩) rfl
      · refine z_aload_n C (z_d dtX1_greatestCell_0 8 rfl) rfl ?_
        refine gf_X1_15 C (z_d dtX1_greatestCell_0 9 rfl) ?_
        refine z_iload_n C (z_d dtX1_greatestCell_0 10 rfl) rfl ?_
        refine al_X15 C (z_d dtX1_greatestCell_0 11 rfl) (by omega) ?_
        refine z_aload_n C (z_d dtX1_greatestCell_0 12 rfl) rfl ?_
        refine gf_X1_15 C (z_d dtX1_greatestCell_0 13 rfl) ?_
        refine z_iload_n C (z_d dtX1_greatestCell_0 14 rfl) rfl ?_
        refine al_X15 C (z_d dtX1_greatestCell_0 15 rfl) (by omega) ?_
        refine z_icmp_le (tgt := 29) C (z_d dtX1_greatestCell_0 16 rfl) (by decide) (by omega) (fun h_24 => ?_) (fun h_24 => ?_)
        · refine z_iinc2 C (z_d dtX1_greatestCell_0 19 rfl) rfl ?_
          refine z_goto (tgt := 4) C (z_d dtX1_greatestCell_0 20 rfl) (by decide) ?_
          exact ih_4 _ _ (by omega) (by
                  rw [show (c + 1).toNat = c.toNat + 1 by omega, zMx, Int.toNat_of_nonneg (by omega), ← hx]
                  first | rw [if_pos (by omega)] | rw [if_neg (by omega)]) (by omega)
        · refine z_iload_n C (z_d dtX1_greatestCell_0 17 rfl) rfl ?_
          refine z_istore_n1 C (z_d dtX1_greatestCell_0 18 rfl) rfl ?_
          refine z_iinc2 C (z_d dtX1_greatestCell_0 19 rfl) rfl ?_
          refine z_goto (tgt := 4) C (z_d dtX1_greatestCell_0 20 rfl) (by decide) ?_
          exact ih_4 _ _ (by omega) (by
                  rw [show (c + 1).toNat = c.toNat + 1 by omega, zMx, Int.toNat_of_nonneg (by omega), ← hx]
                  first | rw [if_pos (by omega)] | rw [if_neg (by omega)]) (by omega)
  exact lp_4 _ _ _ (by omega) (zMx_1 _).symm (Nat.lt_succ_self _)

set_option maxRecDepth 100000 in
set_option maxHeartbeats 4000000 in
theorem k_X1_fewestCellsWith {l : Launch} {D : va_G} {t : Nat → ClassId} {ad : Nat → Nat} {σ : zMem} {n : Nat} {q : Int} (hn : σ 36 0 = (n : Int) ∧ 1 ≤ n ∧ n ≤ 72) (h9 : ∀ c : Int, 0 ≤ c → c < n → 0 ≤ σ 9 c ∧ σ 9 c ≤ 1000000) (hq : 0 ≤ q ∧ q ≤ 1000000) : z_Ci l D t yX1_fewestCellsWith cX1_fewestCellsWith 7 .int 0 0 0 0 [.ref (ad 3), .int (zI q)] (wX ad t σ) (fun r w => ∃ σ', w = wX ad t σ' ∧ zE σ' σ [38] ∧ ∃ k : Nat, r = k ∧ k ≤ n ∧ (∀ j : Nat, j < k → (zTk (σ 9) n j).1 < q) ∧ (q ≤ (zTk (σ 9) n k).1 ∨ k = n)) := by
  refine z_Ci_of (by decide +kernel) [some (.ref (ad 3)), some (.int (zI q)), none, none, none, none, none] rfl rfl (Nat.le_of_ble_eq_true rfl) fun K hl hD ht hR hnm C ret => ?_
  subst hl; subst hD; subst ht
  refine z_iconst C (z_d dtX1_fewestCellsWith_0 0 rfl) ?_
  refine z_istore_n2 C (z_d dtX1_fewestCellsWith_0 1 rfl) rfl ?_
  have lp_2 : ∀ (N_2 : Nat) (i : Nat) (c : Int) (μ : zMem), (c = i ∧ i ≤ n) → (zE μ σ [38]) → (∀ j : Int, 0 ≤ j → j < i → μ 38 j = σ 9 j) → n - i < N_2 → Gd K 0 0 2 [some (.ref (ad 3)), some (.int (zI q)), some (.int (zI c)), none, none, none, none] [] (wX ad (z_t K) μ) := by
    intro N_2
    induction N_2 with
    | zero => intro i c μ hi hE hm hm_2; exact absurd hm_2 (Nat.not_lt_zero _)
    | succ N_2 ih_2 =>
      intro i c μ hi hE hm hm_2
      obtain ⟨rfl, hi⟩ := hi
      have e36 := hE 36 (by decide)
      have e9 := hE 9 (by decide)
      have h9i := fun q : i < n => h9 i (by omega) (by omega)
      refine z_iload_n C (z_d dtX1_fewestCellsWith_0 2 rfl) rfl ?_
      refine z_aload_n C (z_d dtX1_fewestCellsWith_0 3 rfl) rfl ?_
      refine gf_X1_9 C (z_d dtX1_fewestCellsWith_0 4 rfl) ?_
      try simp (decide := true) only [zS_s, zS_o, zC, e36, e9]
      refine z_icmp_ge (tgt := 29) C (z_d dtX1_fewestCellsWith_0 5 rfl) (by decide) (by omega) (fun h_7 => ?_) (fun h_7 => ?_)
      · refine z_lconst C (x := 0) rfl (z_d dtX1_fewestCellsWith_0 17 rfl) ?_
        refine z_lstore_n2 C (z_d dtX1_fewestCellsWith_0 18 rfl) rfl ?_
        refine z_iconst C (z_d dtX1_fewestCellsWith_0 19 rfl) ?_
        refine z_istore4 C (z_d dtX1_fewestCellsWith_0 20 rfl) rfl ?_
        have lp_34 : ∀ (N_34 : Nat) (i2 : Nat) (a s : Int) (μ : zMem), (a = i2 ∧ i2 ≤ n) → (zE μ σ [38]) → (s = (zTk (σ 9) n i2).1) → (∀ c : Int, 0 ≤ c → c < n → μ 38 c = (zTk (σ 9) n i2).2 c) → (∀ j : Nat, j < i2 → (zTk (σ 9) n j).1 < q) → n - i2 < N_34 → Gd K 0 0 34 [some (.ref (ad 3)), some (.int (zI q)), some (.long (zL s)), none, some (.int (zI a)), none, none] [] (wX ad (z_t K) μ) := by
          intro N_34
          induction N_34 with
          | zero => intro i2 a s μ hi2 hE hs2 hm hj hm_34; exact absurd hm_34 (Nat.not_lt_zero _)
          | succ N_34 ih_34 =>
            intro i2 a s μ hi2 hE hs2 hm hj hm_34
            obtain ⟨rfl, hi2⟩ := hi2
            have e36 := hE 36 (by decide)
            have hb := zTk_b (R := σ 9) (n := n) hn.2.1 (b := 1000000) (by omega) h9 i2
            have hr : ∀ c : Int, 0 ≤ c → c < n → 0 ≤ μ 38 c ∧ μ 38 c ≤ 1000000 := fun c h0 h1 => by rw [hm c h0 h1]; exact hb.2 c h0 h1
            refine z_lload_n C (z_d dtX1_fewestCellsWith_0 21 rfl) rfl ?_
            refine z_iload_n C (z_d dtX1_fewestCellsWith_0 22 rfl) rfl ?_
            refine z_i2l C (z_d dtX1_fewestCellsWith_0 23 rfl) (by omega) ?_
            refine z_lcmpP C (z_d dtX1_fewestCellsWith_0 24 rfl) (by omega) (fun m_37 h_37 => ?_)
            refine z_if_ge (tgt := 117) C (z_d dtX1_fewestCellsWith_0 25 rfl) (by decide) (by omega) (fun h_38 => ?_) (fun h_38 => ?_)
            · refine z_iload C (z_d dtX1_fewestCellsWith_1 26 rfl) rfl ?_
              exact ret _ _ _ _ (z_d dtX1_fewestCellsWith_1 27 rfl) (⟨_, rfl, hE, i2, rfl, by omega, hj, by omega⟩) rfl
            · refine z_iload C (z_d dtX1_fewestCellsWith_0 26 rfl) rfl ?_
              refine z_aload_n C (z_d dtX1_fewestCellsWith_0 27 rfl) rfl ?_
              refine gf_X1_9 C (z_d dtX1_fewestCellsWith_0 28 rfl) ?_
              try simp (decide := true) only [zS_s, zS_o, zC, e36, e9]
              refine z_icmp_ge (tgt := 117) C (z_d dtX1_fewestCellsWith_0 29 rfl) (by decide) (by omega) (fun h_47 => ?_) (fun h_47 => ?_)
              · refine z_iload C (z_d dtX1_fewestCellsWith_1 26 rfl) rfl ?_
                exact ret _ _ _ _ (z_d dtX1_fewestCellsWith_1 27 rfl) (⟨_, rfl, hE, i2, rfl, by omega, hj, by omega⟩) rfl
              · refine z_iconst C (z_d dtX1_fewestCellsWith_0 30 rfl) ?_
                refine z_istore5 C (z_d dtX1_fewestCellsWith_0 31 rfl) rfl ?_
                refine z_iconst C (z_d dtX1_fewestCellsWith_0 32 rfl) ?_
                refine z_istore6 C (z_d dtX1_fewestCellsWith_0 33 rfl) rfl ?_
                have lp_56 : ∀ (N_56 : Nat) (c x : Int), (1 ≤ c ∧ c ≤ n) → (x = zMx (μ 38) c.toNat) → (n - c).toNat < N_56 → Gd K 0 0 56 [some (.ref (ad 3)), some (.int (zI q)), some (.long (zL s)), none, some (.int (zI (i2 : Int))), some (.int (zI x)), some (.int (zI c))] [] (wX ad (z_t K) μ) := by
                  intro N_56
                  induction N_56 with
                  | zero => intro c x hc hx hm_56; exact absurd hm_56 (Nat.not_lt_zero _)
                  | succ N_56 ih_56 =>
                    intro c x hc hx hm_56
                    have hxb := zMx_b (μ 38) c.toNat
                    have hx0 := hr x (by omega) (by omega)
                    have hc0 := fun q : c < n => hr c (by omega) q
                    refine z_iload C (z_d dtX1_fewestCellsWith_0 34 rfl) rfl ?_
                    refine z_aload_n C (z_d dtX1_fewestCellsWith_0 35 rfl) rfl ?_
                    refine gf_X1_9 C (z_d dtX1_fewestCellsWith_0 36 rfl) ?_
                    try simp (decide := true) only [zS_s, zS_o, zC, e36, e9]
                    refine z_icmp_ge (tgt := 93) C (z_d dtX1_fewestCellsWith_0 37 rfl) (by decide) (by omega) (fun h_62 => ?_) (fun h_62 => ?_)
                    · refine z_lload_n C (z_d dtX1_fewestCellsWith_1 12 rfl) rfl ?_
                      refine z_aload_n C (z_d dtX1_fewestCellsWith_1 13 rfl) rfl ?_
                      refine gf_X1_23 C (z_d dtX1_fewestCellsWith_1 14 rfl) ?_
                      refine z_iload C (z_d dtX1_fewestCellsWith_1 15 rfl) rfl ?_
                      refine al_X17 C (z_d dtX1_fewestCellsWith_1 16 rfl) (by omega) ?_
                      try simp (decide := true) only [zS_s, zS_o, zC, e36, e9]
                      refine z_ladd C (z_d dtX1_fewestCellsWith_1 17 rfl) ?_
                      refine z_lstore_n2 C (z_d dtX1_fewestCellsWith_1 18 rfl) rfl ?_
                      refine z_aload_n C (z_d dtX1_fewestCellsWith_1 19 rfl) rfl ?_
                      refine gf_X1_23 C (z_d dtX1_fewestCellsWith_1 20 rfl) ?_
                      refine z_iload C (z_d dtX1_fewestCellsWith_1 21 rfl) rfl ?_
                      refine z_lconst C (x := 0) rfl (z_d dtX1_fewestCellsWith_1 22 rfl) ?_
                      refine as_X17 C (z_d dtX1_fewestCellsWith_1 23 rfl) (by omega) ?_
                      refine z_iinc4 C (z_d dtX1_fewestCellsWith_1 24 rfl) rfl ?_
                      refine z_goto (tgt := 34) C (z_d dtX1_fewestCellsWith_1 25 rfl) (by decide) ?_
                      refine z_drop5 ?_
                      refine z_drop6 ?_
                      exact ih_34 (i2 + 1) _ _ _ (by omega) (zE_set hE (by decide)) (by have := zTk_st hn.2.1 hs2 hm (hx.trans (by rw [show c = n by omega, Int.toNat_natCast])); exact this.1) (by have := zTk_st hn.2.1 hs2 hm (hx.trans (by rw [show c = n by omega, Int.toNat_natCast])); exact this.2) (fun j h => by
                              rcases Nat.lt_succ_iff_lt_or_eq.mp h with p | p
                              · exact hj j p
                              · subst p; omega) (by omega)
                    · refine z_aload_n C (z_d dtX1_fewestCellsWith_0 38 rfl) rfl ?_
                      refine gf_X1_23 C (z_d dtX1_fewestCellsWith_0 39 rfl) ?_
                      refine z_iload C (z_d dtX1_fewestCellsWith_1 0 rfl) rfl ?_
                      refine al_X17 C (z_d dtX1_fewestCellsWith_1 1 rfl) (by omega) ?_
                      try simp (decide := true) only [zS_s, zS_o, zC, e36, e9]
                      refine z_aload_n C (z_d dtX1_fewestCellsWith_1 2 rfl) rfl ?_
                      refine gf_X1_23 C (z_d dtX1_fewestCellsWith_1 3 rfl) ?_
                      refine z_iload C (z_d dtX1_fewestCellsWith_1 4 rfl) rfl ?_
                      refine al_X17 C (z_d dtX1_fewestCellsWith_1 5 rfl) (by omega) ?_
                      try simp (decide := true) only [zS_s, zS_o, zC, e36, e9]
                      refine z_lcmpP C (z_d dtX1_fewestCellsWith_1 6 rfl) (by omega) (fun m_79 h_79 => ?_)
                      refine z_if_le (tgt := 87) C (z_d dtX1_fewestCellsWith_1 7 rfl) (by decide) (by omega) (fun h_80 => ?_) (fun h_80 => ?_)
                      · refine z_iinc6 C (z_d dtX1_fewestCellsWith_1 10 rfl) rfl ?_
                        refine z_goto (tgt := 56) C (z_d dtX1_fewestCellsWith_1 11 rfl) (by decide) ?_
                        exact ih_56 _ _ (by omega) (by
                                rw [show (c + 1).toNat = c.toNat + 1 by omega, zMx, Int.toNat_of_nonneg (by omega), ← hx]
                                first | rw [if_pos (by omega)] | rw [if_neg (by omega)]) (by omega)
                      · refine z_iload C (z_d dtX1_fewestCellsWith_1 8 rfl) rfl ?_
                        refine z_istore5 C (z_d dtX1_fewestCellsWith_1 9 rfl) rfl ?_
                        refine z_iinc6 C (z_d dtX1_fewestCellsWith_1 10 rfl) rfl ?_
                        refine z_goto (tgt := 56) C (z_d dtX1_fewestCellsWith_1 11 rfl) (by decide) ?_
                        exact ih_56 _ _ (by omega) (by
                                rw [show (c + 1).toNat = c.toNat + 1 by omega, zMx, Int.toNat_of_nonneg (by omega), ← hx]
                                first | rw [if_pos (by omega)] | rw [if_neg (by omega)]) (by omega)
                exact lp_56 _ _ _ (by omega) (zMx_1 _).symm (Nat.lt_succ_self _)
        exact lp_34 _ 0 _ _ _ (by omega) hE rfl (fun c h0 h1 => hm c h0 (by omega)) (fun j h => absurd h (Nat.not_lt_zero _)) (Nat.lt_succ_self _)
      · refine z_aload_n C (z_d dtX1_fewestCellsWith_0 6 rfl) rfl ?_
        refine gf_X1_23 C (z_d dtX1_fewestCellsWith_0 7 rfl) ?_
        refine z_iload_n C (z_d dtX1_fewestCellsWith_0 8 rfl) rfl ?_
        refine z_aload_n C (z_d dtX1_fewestCellsWith_0 9 rfl) rfl ?_
        refine gf_X1_15 C (z_d dtX1_fewestCellsWith_0 10 rfl) ?_
        refine z_iload_n C (z_d dtX1_fewestCellsWith_0 11 rfl) rfl ?_
        refine al_X15 C (z_d dtX1_fewestCellsWith_0 12 rfl) (by omega) ?_
        try simp (decide := true) only [zS_s, zS_o, zC, e36, e9]
        refine z_i2l C (z_d dtX1_fewestCellsWith_0 13 rfl) (by omega) ?_
        refine as_X17 C (z_d dtX1_fewestCellsWith_0 14 rfl) (by omega) ?_
        refine z_iinc2 C (z_d dtX1_fewestCellsWith_0 15 rfl) rfl ?_
        refine z_goto (tgt := 2) C (z_d dtX1_fewestCellsWith_0 16 rfl) (by decide) ?_
        exact ih_2 (i + 1) _ _ (by omega) (zE_set hE (by decide)) (fun j h0 h1 => by
                rw [zS_s]
                by_cases e : j = i
                · subst e; rw [zU_s]
                · rw [zU_n e]; exact hm j h0 (by omega)) (by omega)
  exact lp_2 _ 0 _ _ (by omega) zE_rf (fun j h0 h1 => absurd h1 (by omega)) (Nat.lt_succ_self _)
