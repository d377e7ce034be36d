/-! SHARES -/
set_option maxRecDepth 100000 in
set_option maxHeartbeats 4000000 in
theorem k_X1_shareOf {l : Launch} {D : va_G} {t : Nat → ClassId} {ad : Nat → Nat} {σ : zMem} {c : Int} (hc : 0 ≤ c ∧ c < 72) : z_Ci l D t yX1_shareOf cX1_shareOf 2 .int 0 0 0 0 [.ref (ad 3), .int (zI c)] (wX ad t σ) (fun r w => w = wX ad t σ ∧ r = σ 9 c) := by
  refine z_Ci_of (by decide +kernel) [some (.ref (ad 3)), some (.int (zI c))] rfl rfl (Nat.le_of_ble_eq_true rfl) fun K hl hD ht hR hn C ret => ?_
  subst hl; subst hD; subst ht
  refine z_aload_n C (z_d dtX1_shareOf_0 0 rfl) rfl ?_
  refine gf_X1_15 C (z_d dtX1_shareOf_0 1 rfl) ?_
  refine z_iload_n C (z_d dtX1_shareOf_0 2 rfl) rfl ?_
  refine al_X15 C (z_d dtX1_shareOf_0 3 rfl) (by omega) ?_
  exact ret _ _ _ _ (z_d dtX1_shareOf_0 4 rfl) (⟨rfl, rfl⟩) rfl

set_option maxRecDepth 100000 in
set_option maxHeartbeats 4000000 in
theorem k_X1_makeKnown {l : Launch} {D : va_G} {t : Nat → ClassId} {ad : Nat → Nat} {σ : zMem} {c : Int} (hc : 0 ≤ c ∧ c < 72) : z_Cv l D t yX1_makeKnown cX1_makeKnown 2 1 23 0 0 [.ref (ad 3), .int (zI c)] (wX ad t σ) (fun w => w = wX ad t (zS σ 9 (zU (zC 0) c 1000000))) := by
  refine z_Cv_of (by decide +kernel) [some (.ref (ad 3)), some (.int (zI c))] rfl rfl (Nat.le_of_ble_eq_true rfl) fun K hl hD ht hR hn C ret => ?_
  subst hl; subst hD; subst ht
  refine z_aload_n C (z_d dtX1_makeKnown_0 0 rfl) rfl ?_
  refine gf_X1_15 C (z_d dtX1_makeKnown_0 1 rfl) ?_
  refine z_iconst C (z_d dtX1_makeKnown_0 2 rfl) ?_
  refine z_callSv C (z_d dtX1_makeKnown_0 3 rfl) kf_X15 cal_J7_fill_53178 gw_20_13 rfl rfl hR ⟨rfl, rfl, rfl, rfl⟩ rfl (fun w_5 h_5 => ?_)
  subst h_5
  refine z_aload_n C (z_d dtX1_makeKnown_0 4 rfl) rfl ?_
  refine gf_X1_15 C (z_d dtX1_makeKnown_0 5 rfl) ?_
  refine z_iload_n C (z_d dtX1_makeKnown_0 6 rfl) rfl ?_
  refine z_ldc C gk_RX1_39 (z_d dtX1_makeKnown_0 7 rfl) ?_
  refine as_X15 C (z_d dtX1_makeKnown_0 8 rfl) (by omega) ?_
  exact ret _ _ _ (z_d dtX1_makeKnown_0 9 rfl) ((by congr 1; funext j; unfold zS; cases Nat.beq j 9 <;> rfl))

set_option maxRecDepth 100000 in
set_option maxHeartbeats 4000000 in
theorem k_X1_handOut {l : Launch} {D : va_G} {t : Nat → ClassId} {ad : Nat → Nat} {σ : zMem} {n m : Nat} (hn : σ 36 0 = (n : Int) ∧ 1 ≤ n ∧ n ≤ 72) (hm : m ≤ 72) (h38 : ∀ c : Int, 0 ≤ c → c < n → 0 ≤ σ 38 c ∧ σ 38 c ≤ 1000000000000000) : z_Cv l D t yX1_handOut cX1_handOut 5 0 0 0 0 [.ref (ad 3), .int (zI m)] (wX ad t σ) (fun w => ∃ σ', w = wX ad t σ' ∧ zE σ' σ [9, 38] ∧ σ' 9 = (zHc n 0 (σ 9, σ 38) m).1) := by
  refine z_Cv_of (by decide +kernel) [some (.ref (ad 3)), some (.int (zI m)), none, none, none] rfl rfl (Nat.le_of_ble_eq_true rfl) fun K hl hD ht hR hn C ret => ?_
  subst hl; subst hD; subst ht
  refine z_iconst C (z_d dtX1_handOut_0 0 rfl) ?_
  refine z_istore_n2 C (z_d dtX1_handOut_0 1 rfl) rfl ?_
  have lp_2 : ∀ (N_2 : Nat) (i : Nat) (k : Int) (μ : zMem), (k = i ∧ i ≤ m) → (zE μ σ [9, 38]) → ((μ 9, μ 38) = zHc n 0 (σ 9, σ 38) i) → m - i < N_2 → Gd K 0 0 2 [some (.ref (ad 3)), some (.int (zI m)), some (.int (zI k)), none, none] [] (wX ad (z_t K) μ) := by
    intro N_2
    induction N_2 with
    | zero => intro i k μ hi hE hq hm_2; exact absurd hm_2 (Nat.not_lt_zero _)
    | succ N_2 ih_2 =>
      intro i k μ hi hE hq hm_2
      obtain ⟨rfl, hi⟩ := hi
      have e36 := hE 36 (by decide)
      have hr : ∀ c : Int, 0 ≤ c → c < n → 0 ≤ μ 38 c ∧ μ 38 c ≤ 1000000000000000 := by
        have := zHc_r (p := (σ 9, σ 38)) (v := 0) (n := n) (by omega) (b := 1000000000000000) (by omega) h38 i
        rw [← hq] at this
        exact this
      refine z_iload_n C (z_d dtX1_handOut_0 2 rfl) rfl ?_
      refine z_iload_n C (z_d dtX1_handOut_0 3 rfl) rfl ?_
      refine z_icmp_ge (tgt := 70) C (z_d dtX1_handOut_0 4 rfl) (by decide) (by omega) (fun h_4 => ?_) (fun h_4 => ?_)
      · exact ret _ _ _ (z_d dtX1_handOut_1 2 rfl) (⟨_, rfl, hE, by have : i = m := by omega
                           subst this; exact congrArg Prod.fst hq⟩)
      · refine z_iconst C (z_d dtX1_handOut_0 5 rfl) ?_
        refine z_istore_n3 C (z_d dtX1_handOut_0 6 rfl) rfl ?_
        refine z_iconst C (z_d dtX1_handOut_0 7 rfl) ?_
        refine z_istore4 C (z_d dtX1_handOut_0 8 rfl) rfl ?_
        have lp_12 : ∀ (N_12 : Nat) (c x : Int), (1 ≤ c ∧ c ≤ n) → (x = zMx (μ 38) c.toNat) → (n - c).toNat < N_12 → Gd K 0 0 12 [some (.ref (ad 3)), some (.int (zI m)), some (.int (zI (i : Int))), some (.int (zI x)), some (.int (zI c))] [] (wX ad (z_t K) μ) := by
          intro N_12
          induction N_12 with
          | zero => intro c x hc hx hm_12; exact absurd hm_12 (Nat.not_lt_zero _)
          | succ N_12 ih_12 =>
            intro c x hc hx hm_12
            have hxb := zMx_b (μ 38) c.toNat
            have hx0 := hr x (by omega) (by omega)
            have hc0 := fun q : c < n => hr c (by omega) q
            refine z_iload C (z_d dtX1_handOut_0 9 rfl) rfl ?_
            refine z_aload_n C (z_d dtX1_handOut_0 10 rfl) rfl ?_
            refine gf_X1_9 C (z_d dtX1_handOut_0 11 rfl) ?_
            refine z_icmp_ge (tgt := 47) C (z_d dtX1_handOut_0 12 rfl) (by decide) (by omega) (fun h_18 => ?_) (fun h_18 => ?_)
            · refine z_aload_n C (z_d dtX1_handOut_0 27 rfl) rfl ?_
              refine gf_X1_15 C (z_d dtX1_handOut_0 28 rfl) ?_
              refine z_iload_n C (z_d dtX1_handOut_0 29 rfl) rfl ?_
              refine z_dup2 C (z_d dtX1_handOut_0 30 rfl) rfl rfl ?_
              refine al_X15 C (z_d dtX1_handOut_0 31 rfl) (by omega) ?_
              refine z_iconst C (z_d dtX1_handOut_0 32 rfl) ?_
              refine z_iadd C (z_d dtX1_handOut_0 33 rfl) ?_
              refine as_X15 C (z_d dtX1_handOut_0 34 rfl) (by omega) ?_
              refine z_aload_n C (z_d dtX1_handOut_0 35 rfl) rfl ?_
              refine gf_X1_23 C (z_d dtX1_handOut_0 36 rfl) ?_
              refine z_iload_n C (z_d dtX1_handOut_0 37 rfl) rfl ?_
              refine z_lconst C (x := 0) rfl (z_d dtX1_handOut_0 38 rfl) ?_
              refine as_X17 C (z_d dtX1_handOut_0 39 rfl) (by omega) ?_
              refine z_iinc2 C (z_d dtX1_handOut_1 0 rfl) rfl ?_
              refine z_goto (tgt := 2) C (z_d dtX1_handOut_1 1 rfl) (by decide) ?_
              refine z_drop3 ?_
              refine z_drop4 ?_
              exact ih_2 (i + 1) _ _ (by omega) (zE_set (zE_set hE (by decide)) (by decide)) (by
                    show (zU (μ 9) _ _, zU (μ 38) _ _) = (zU _ _ _, zU _ _ _)
                    rw [← hq, hx, show c = n by omega]) (by omega)
            · refine z_aload_n C (z_d dtX1_handOut_0 13 rfl) rfl ?_
              refine gf_X1_23 C (z_d dtX1_handOut_0 14 rfl) ?_
              refine z_iload C (z_d dtX1_handOut_0 15 rfl) rfl ?_
              refine al_X17 C (z_d dtX1_handOut_0 16 rfl) (by omega) ?_
              refine z_aload_n C (z_d dtX1_handOut_0 17 rfl) rfl ?_
              refine gf_X1_23 C (z_d dtX1_handOut_0 18 rfl) ?_
              refine z_iload_n C (z_d dtX1_handOut_0 19 rfl) rfl ?_
              refine al_X17 C (z_d dtX1_handOut_0 20 rfl) (by omega) ?_
              refine z_lcmpP C (z_d dtX1_handOut_0 21 rfl) (by omega) (fun m_34 h_34 => ?_)
              refine z_if_le (tgt := 41) C (z_d dtX1_handOut_0 22 rfl) (by decide) (by omega) (fun h_35 => ?_) (fun h_35 => ?_)
              · refine z_iinc4 C (z_d dtX1_handOut_0 25 rfl) rfl ?_
                refine z_goto (tgt := 12) C (z_d dtX1_handOut_0 26 rfl) (by decide) ?_
                exact ih_12 _ _ (by omega) (by
                        rw [show (c + 1).toNat = c.toNat + 1 by omega, zMx, Int.toNat_of_nonneg (by omega), ← hx]
                        first | rw [if_pos (by omega)] | rw [if_neg (by omega)]) (by omega)
              · refine z_iload C (z_d dtX1_handOut_0 23 rfl) rfl ?_
                refine z_istore_n3 C (z_d dtX1_handOut_0 24 rfl) rfl ?_
                refine z_iinc4 C (z_d dtX1_handOut_0 25 rfl) rfl ?_
                refine z_goto (tgt := 12) C (z_d dtX1_handOut_0 26 rfl) (by decide) ?_
                exact ih_12 _ _ (by omega) (by
                        rw [show (c + 1).toNat = c.toNat + 1 by omega, zMx, Int.toNat_of_nonneg (by omega), ← hx]
                        first | rw [if_pos (by omega)] | rw [if_neg (by omega)]) (by omega)
        exact lp_12 _ _ _ (by omega) rfl (Nat.lt_succ_self _)
  exact lp_2 _ 0 _ _ (by omega) zE_rf rfl (Nat.lt_succ_self _)
