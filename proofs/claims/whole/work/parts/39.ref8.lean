/-! THE REFERENCE: best, learn, moved -/
theorem zYs_E {μ σ : zMem} (h : zE μ σ [65, 66]) (V : Int → Int) (c d : Int) : zYs μ V c d = zYs σ V c d := by
  unfold zYs
  rw [zLy_E h (by decide) (by decide) (by decide) (by decide) (by decide) (by decide)]
theorem zYb_E {μ σ : zMem} (h : zE μ σ [65, 66]) (V : Int → Int) (c : Int) : ∀ n : Nat, zYb μ V c n = zYb σ V c n
  | 0 => rfl
  | n + 1 => by rw [zYb, zYb, zYb_E h V c n, zYs_E h]
theorem zYv_E {μ σ : zMem} (h : zE μ σ [65, 66]) (z wo R : Int) : ∀ k : Nat, zYv μ z wo R k = zYv σ z wo R k
  | 0 => by
    funext c
    simp only [zYv]
    exact zRw_E h (by decide) (by decide) (by decide) z _ c 0 wo 8
  | k + 1 => by
    have eN : zN μ = zN σ := zN_E h (by decide) (by decide) (by decide)
    funext c
    simp only [zYv]
    rw [zYv_E h z wo R k, eN, zYb_E h, zRw_E h (by decide) (by decide) (by decide)]
theorem zYw_E {μ σ : zMem} (h : zE μ σ [65, 66]) (z wo R : Int) : ∀ k : Nat, zYw μ z wo R k = zYw σ z wo R k
  | 0 => by rw [zYw, zYw, zYv_E h, zN_E h (by decide) (by decide) (by decide)]
  | k + 1 => by rw [zYw, zYw, zYw_E h z wo R k, zYv_E h, zYb_E h, zN_E h (by decide) (by decide) (by decide)]
theorem zYf_E {μ σ : zMem} (h : zE μ σ [65, 66]) (z wo R : Int) : zYf μ z wo R = zYf σ z wo R := by
  unfold zYf
  rw [zYv_E h, zYw_E h]
theorem z_or0 (x : Int) : zI x ||| zI 0 = zI (x + 0) := by
  rw [Int.add_zero, show zI 0 = 0 from rfl]
  exact Int32.or_zero
def zP2 (b : Bool) (k : Int) : Int := if b then z_p2 k else 0

set_option maxRecDepth 100000 in
set_option maxHeartbeats 4000000 in
theorem k_X8_best {l : Launch} {D : va_G} {t : Nat → ClassId} {ad : Nat → Nat} {σ : zMem} {z : Int} (ok : okM σ) (hz : -2147483648 ≤ z ∧ z < 2147483648) : z_Ci l D t yX8_best cX8_best 3 .int 4 104 0 0 [.ref (ad 0), .int (zI z)] (wM ad t σ) (fun r w => ∃ σ', w = wM ad t σ' ∧ ((¬ (0 ≤ z ∧ z < 4) ∧ r = -2 ∧ σ' = σ) ∨ ((0 ≤ z ∧ z < 4) ∧ ((σ 16 z = 0 ∧ r = -11 ∧ σ' = zS σ 19 (zC 1)) ∨ (σ 16 z = 1 ∧ ((((σ 18 z / 8) = 0 ∨ zYf σ z (-1) (σ 18 z / 8) = -1) ∧ r = -3 ∧ zE σ' σ [65, 66]) ∨ (1 ≤ (σ 18 z / 8) ∧ 0 ≤ r ∧ r = zYf σ z (-1) (σ 18 z / 8) ∧ zE σ' σ [14, 15, 65, 66] ∧ σ' 14 = zC (σ 18 z / 8) ∧ (σ' 15 = fun i : Int => if 0 ≤ i ∧ i < (σ 18 z / 8) then zYw σ z (-1) (σ 18 z / 8) i.toNat else σ 15 i)))))))) := by
  refine z_Ci_of (by decide +kernel) [some (.ref (ad 0)), some (.int (zI z)), none] rfl rfl (Nat.le_of_ble_eq_true rfl) fun K hl hD ht hR hnm C ret => ?_
  subst hl; subst hD; subst ht
  have ok2 := ok
  obtain ⟨⟨hw, h60, hs, h4, h5, h6, h7⟩, hmp, ⟨h9, hsum⟩, oW1, ⟨hle, hgi, hga⟩, oT1, ⟨h16, h17, h18, hit⟩⟩ := ok2
  have hN := zHw_N hw
  have hW := hw; unfold zHw at hW
  have hwh := zHw_wh hw
  have hn : σ 60 0 = ((zN σ).toNat : Int) ∧ 1 ≤ (zN σ).toNat ∧ (zN σ).toNat ≤ 72 := by omega
  have h9n : ∀ c : Int, 0 ≤ c → c < ((zN σ).toNat : Int) → 0 ≤ σ 9 c ∧ σ 9 c ≤ 1000000 := fun c a b => h9 c a (by omega)
  have h16z := h16 z
  have h18z := h18 z
  refine z_iload_n C (z_d dtX8_best_0 0 rfl) rfl ?_
  refine z_callS C (z_d dtX8_best_0 1 rfl) (k_X8_isSheet  (by first | assumption | omega)) cal_X8_isSheet gw_16_16 rfl rfl hR ⟨rfl, rfl, rfl, rfl⟩ rfl (fun r_1 w_1 h_1 => ?_)
  obtain ⟨rfl, h_1⟩ := h_1
  refine z_if_ne (tgt := 10) C (z_d dtX8_best_0 2 rfl) (by decide) (by omega) (fun h_4 => ?_) (fun h_4 => ?_)
  · refine z_aload_n C (z_d dtX8_best_0 5 rfl) rfl ?_
    refine gf_X8_64 C (z_d dtX8_best_0 6 rfl) ?_
    refine z_iload_n C (z_d dtX8_best_0 7 rfl) rfl ?_
    refine al_M16 C (z_d dtX8_best_0 8 rfl) (by omega) ?_
    refine z_if_ne (tgt := 25) C (z_d dtX8_best_0 9 rfl) (by decide) (by omega) (fun h_16 => ?_) (fun h_16 => ?_)
    · refine z_aload_n C (z_d dtX8_best_0 14 rfl) rfl ?_
      refine z_iload_n C (z_d dtX8_best_0 15 rfl) rfl ?_
      refine z_iconst C (z_d dtX8_best_0 16 rfl) ?_
      refine z_callV C (z_d dtX8_best_0 17 rfl) (k_X8_walks  (by first | assumption | omega) (by omega) (by omega)) cal_X8_walks gw_27_13 rfl 0 8 rfl rfl rfl rfl hR ⟨rfl, rfl, rfl, rfl⟩ rfl (fun r_28 w_28 h_28 => ?_)
      obtain ⟨σ_28, rfl, h28⟩ := h_28
      have hr28 : -2147483648 ≤ r_28 ∧ r_28 < 2147483648 := by
        rcases h28 with ⟨a, b, g⟩ | ⟨a, b, g, _⟩
        · omega
        · have := zYv_b hmp hs z (-1) (σ 18 z / 8) ((σ 18 z / 8) - 1).toNat (zYw σ z (-1) (σ 18 z / 8) 0)
          have e : r_28 = zYv σ z (-1) (σ 18 z / 8) ((σ 18 z / 8) - 1).toNat (zYw σ z (-1) (σ 18 z / 8) 0) := g
          omega
      refine z_istore_n2 C (z_d dtX8_best_0 18 rfl) rfl ?_
      refine z_iload_n C (z_d dtX8_best_0 19 rfl) rfl ?_
      refine z_iconst C (z_d dtX8_best_0 20 rfl) ?_
      refine z_icmp_ne (tgt := 40) C (z_d dtX8_best_0 21 rfl) (by decide) (by omega) (fun h_34 => ?_) (fun h_34 => ?_)
      · have hsc : 1 ≤ (σ 18 z / 8) ∧ 0 ≤ r_28 ∧ r_28 = zYf σ z (-1) (σ 18 z / 8) ∧ zE σ_28 σ [65, 66] ∧ ∀ k : Nat, k < (σ 18 z / 8) → σ_28 65 k = zYw σ z (-1) (σ 18 z / 8) k := by
          rcases h28 with ⟨a, b, g⟩ | g
          · omega
          · exact g
        have hE28 := hsc.2.2.2.1
        have e18 : σ_28 18 = σ 18 := hE28 18 (by decide)
        refine z_aload_n C (z_d dtX8_best_0 24 rfl) rfl ?_
        refine z_iload_n C (z_d dtX8_best_0 25 rfl) rfl ?_
        refine z_callVv C (z_d dtX8_best_0 26 rfl) (k_X8_tells  (by omega) (by rw [e18]; exact h18)) cal_X8_tells gw_27_17 rfl 0 8 rfl rfl rfl rfl hR ⟨rfl, rfl, rfl, rfl⟩ rfl (fun w_42 h_42 => ?_)
        obtain ⟨σ_42, rfl, hE_42, h14_42, h15_42⟩ := h_42
        rw [e18] at h14_42 h15_42
        have e15 : σ_42 15 = fun i : Int => if 0 ≤ i ∧ i < (σ 18 z / 8) then zYw σ z (-1) (σ 18 z / 8) i.toNat else σ 15 i := by
          rw [h15_42]
          funext i
          by_cases q : 0 ≤ i ∧ i < (σ 18 z / 8)
          · rw [if_pos q, if_pos q]
            have := hsc.2.2.2.2 i.toNat (by omega)
            rw [Int.toNat_of_nonneg q.1] at this
            exact this
          · rw [if_neg q, if_neg q, hE28 15 (by decide)]
        have hE5 : zE σ_42 σ [14, 15, 65, 66] := zE_tr (zE_mo hE_42 (by decide)) (zE_mo hE28 (by decide))
        refine z_iload_n C (z_d dtX8_best_0 27 rfl) rfl ?_
        exact ret _ _ _ _ (z_d dtX8_best_0 28 rfl) (⟨_, rfl, Or.inr ⟨by omega, Or.inr ⟨by omega, Or.inr ⟨hsc.1, hsc.2.1, hsc.2.2.1, hE5, h14_42, e15⟩⟩⟩⟩) rfl
      · have hno : ((σ 18 z / 8) = 0 ∨ zYf σ z (-1) (σ 18 z / 8) = -1) ∧ zE σ_28 σ [66] := by
          rcases h28 with ⟨a, b, g⟩ | ⟨a, b, g⟩
          · exact ⟨a, g⟩
          · omega
        refine z_bipush C (z_d dtX8_best_0 22 rfl) zb_m3 ?_
        exact ret _ _ _ _ (z_d dtX8_best_0 23 rfl) (⟨_, rfl, Or.inr ⟨by omega, Or.inr ⟨by omega, Or.inl ⟨hno.1, rfl, zE_mo hno.2 (by decide)⟩⟩⟩⟩) rfl
    · refine z_aload_n C (z_d dtX8_best_0 10 rfl) rfl ?_
      refine z_iconst C (z_d dtX8_best_0 11 rfl) ?_
      refine z_callV C (z_d dtX8_best_0 12 rfl) (k_X8_meets  ) cal_X8_meets gw_17_3 rfl 0 8 rfl rfl rfl rfl hR ⟨rfl, rfl, rfl, rfl⟩ rfl (fun r_21 w_21 h_21 => ?_)
      obtain ⟨rfl, rfl⟩ := h_21
      exact ret _ _ _ _ (z_d dtX8_best_0 13 rfl) (⟨_, rfl, Or.inr ⟨by omega, Or.inl ⟨by omega, rfl, rfl⟩⟩⟩) rfl
  · refine z_bipush C (z_d dtX8_best_0 3 rfl) zb_m2 ?_
    exact ret _ _ _ _ (z_d dtX8_best_0 4 rfl) (⟨σ, rfl, Or.inl ⟨by omega, rfl, rfl⟩⟩) rfl

set_option maxRecDepth 100000 in
set_option maxHeartbeats 4000000 in
theorem k_X8_learn {l : Launch} {D : va_G} {t : Nat → ClassId} {ad : Nat → Nat} {σ : zMem} {z : Int} (ok : okM σ) (hz : -2147483648 ≤ z ∧ z < 2147483648) : z_Ci l D t yX8_learn cX8_learn 4 .int 4 104 0 0 [.ref (ad 0), .int (zI z)] (wM ad t σ) (fun r w => ∃ σ', w = wM ad t σ' ∧ ((¬ (0 ≤ z ∧ z < 4) ∧ r = -2 ∧ σ' = σ) ∨ ((0 ≤ z ∧ z < 4) ∧ ((σ 16 z = 0 ∧ r = -11 ∧ σ' = zS σ 19 (zC 1)) ∨ (σ 16 z = 1 ∧ ((((σ 18 z / 8) = 0 ∨ zYf σ z (-1) (σ 18 z / 8) = -1) ∧ r = -3 ∧ zE σ' σ [65, 66]) ∨ (1 ≤ (σ 18 z / 8) ∧ zYf σ z (-1) (σ 18 z / 8) ≠ -1 ∧ r = (σ 18 z / 8) ∧ zE σ' σ [8, 14, 15, 65, 66] ∧ σ' 14 = zC (σ 18 z / 8) ∧ (σ' 15 = fun i : Int => if 0 ≤ i ∧ i < (σ 18 z / 8) then zYw σ z (-1) (σ 18 z / 8) i.toNat else σ 15 i) ∧ σ' 8 = zLm σ z (zYw σ z (-1) (σ 18 z / 8)) (σ 18 z / 8).toNat))))))) := by
  refine z_Ci_of (by decide +kernel) [some (.ref (ad 0)), some (.int (zI z)), none, none] rfl rfl (Nat.le_of_ble_eq_true rfl) fun K hl hD ht hR hnm C ret => ?_
  subst hl; subst hD; subst ht
  have ok2 := ok
  obtain ⟨⟨hw, h60, hs, h4, h5, h6, h7⟩, hmp, ⟨h9, hsum⟩, oW1, ⟨hle, hgi, hga⟩, oT1, ⟨h16, h17, h18, hit⟩⟩ := ok2
  have hN := zHw_N hw
  have hW := hw; unfold zHw at hW
  have hwh := zHw_wh hw
  have hn : σ 60 0 = ((zN σ).toNat : Int) ∧ 1 ≤ (zN σ).toNat ∧ (zN σ).toNat ≤ 72 := by omega
  have h9n : ∀ c : Int, 0 ≤ c → c < ((zN σ).toNat : Int) → 0 ≤ σ 9 c ∧ σ 9 c ≤ 1000000 := fun c a b => h9 c a (by omega)
  have h16z := h16 z
  have h18z := h18 z
  refine z_iload_n C (z_d dtX8_learn_0 0 rfl) rfl ?_
  refine z_callS C (z_d dtX8_learn_0 1 rfl) (k_X8_isSheet  (by first | assumption | omega)) cal_X8_isSheet gw_16_16 rfl rfl hR ⟨rfl, rfl, rfl, rfl⟩ rfl (fun r_1 w_1 h_1 => ?_)
  obtain ⟨rfl, h_1⟩ := h_1
  refine z_if_ne (tgt := 10) C (z_d dtX8_learn_0 2 rfl) (by decide) (by omega) (fun h_4 => ?_) (fun h_4 => ?_)
  · refine z_aload_n C (z_d dtX8_learn_0 5 rfl) rfl ?_
    refine gf_X8_64 C (z_d dtX8_learn_0 6 rfl) ?_
    refine z_iload_n C (z_d dtX8_learn_0 7 rfl) rfl ?_
    refine al_M16 C (z_d dtX8_learn_0 8 rfl) (by omega) ?_
    try simp (decide := true) only [zS_s, zS_o, zC, m14, m15]
    refine z_if_ne (tgt := 25) C (z_d dtX8_learn_0 9 rfl) (by decide) (by omega) (fun h_16 => ?_) (fun h_16 => ?_)
    · refine z_aload_n C (z_d dtX8_learn_0 14 rfl) rfl ?_
      refine z_iload_n C (z_d dtX8_learn_0 15 rfl) rfl ?_
      refine z_iconst C (z_d dtX8_learn_0 16 rfl) ?_
      refine z_callV C (z_d dtX8_learn_0 17 rfl) (k_X8_walks  (by first | assumption | omega) (by omega) (by omega)) cal_X8_walks gw_27_13 rfl 0 8 rfl rfl rfl rfl hR ⟨rfl, rfl, rfl, rfl⟩ rfl (fun r_28 w_28 h_28 => ?_)
      obtain ⟨σ_28, rfl, h28⟩ := h_28
      have hr28 : -2147483648 ≤ r_28 ∧ r_28 < 2147483648 := by
        rcases h28 with ⟨a, b, g⟩ | ⟨a, b, g, _⟩
        · omega
        · have := zYv_b hmp hs z (-1) (σ 18 z / 8) ((σ 18 z / 8) - 1).toNat (zYw σ z (-1) (σ 18 z / 8) 0)
          have e : r_28 = zYv σ z (-1) (σ 18 z / 8) ((σ 18 z / 8) - 1).toNat (zYw σ z (-1) (σ 18 z / 8) 0) := g
          omega
      refine z_iconst C (z_d dtX8_learn_0 18 rfl) ?_
      refine z_icmp_ne (tgt := 38) C (z_d dtX8_learn_0 19 rfl) (by decide) (by omega) (fun h_32 => ?_) (fun h_32 => ?_)
      · have hsc : 1 ≤ (σ 18 z / 8) ∧ 0 ≤ r_28 ∧ r_28 = zYf σ z (-1) (σ 18 z / 8) ∧ zE σ_28 σ [65, 66] ∧ ∀ k : Nat, k < (σ 18 z / 8) → σ_28 65 k = zYw σ z (-1) (σ 18 z / 8) k := by
          rcases h28 with ⟨a, b, g⟩ | g
          · omega
          · exact g
        have hE28 := hsc.2.2.2.1
        have e18 : σ_28 18 = σ 18 := hE28 18 (by decide)
        refine z_aload_n C (z_d dtX8_learn_0 22 rfl) rfl ?_
        refine z_iload_n C (z_d dtX8_learn_0 23 rfl) rfl ?_
        refine z_callVv C (z_d dtX8_learn_0 24 rfl) (k_X8_tells  (by omega) (by rw [e18]; exact h18)) cal_X8_tells gw_27_17 rfl 0 8 rfl rfl rfl rfl hR ⟨rfl, rfl, rfl, rfl⟩ rfl (fun w_40 h_40 => ?_)
        obtain ⟨σ_40, rfl, hE_40, h14_40, h15_40⟩ := h_40
        rw [e18] at h14_40 h15_40
        have e15 : σ_40 15 = fun i : Int => if 0 ≤ i ∧ i < (σ 18 z / 8) then zYw σ z (-1) (σ 18 z / 8) i.toNat else σ 15 i := by
          rw [h15_40]
          funext i
          by_cases q : 0 ≤ i ∧ i < (σ 18 z / 8)
          · rw [if_pos q, if_pos q]
            have := hsc.2.2.2.2 i.toNat (by omega)
            rw [Int.toNat_of_nonneg q.1] at this
            exact this
          · rw [if_neg q, if_neg q, hE28 15 (by decide)]
        have hE5 : zE σ_40 σ [14, 15, 65, 66] := zE_tr (zE_mo hE_40 (by decide)) (zE_mo hE28 (by decide))
        have hwyb := fun (k : Nat) (p : (k : Int) < (σ 18 z / 8)) => (zYw_ok (σ := σ) (z := z) (wo := -1) (R := (σ 18 z / 8)) (by omega) hsc.1 (by omega) k p).1
        refine z_iconst C (z_d dtX8_learn_0 25 rfl) ?_
        refine z_istore_n2 C (z_d dtX8_learn_0 26 rfl) rfl ?_
        have lp_45 : ∀ (N_45 : Nat) (i : Nat) (row : Int) (μ : zMem), (row = i ∧ i ≤ σ 18 z / 8) → (zE μ σ_40 [8]) → (μ 8 = zLm σ z (zYw σ z (-1) (σ 18 z / 8)) i) → (σ 18 z / 8 - i).toNat < N_45 → Gd K 0 0 45 [some (.ref (ad 0)), some (.int (zI z)), some (.int (zI row)), none] [] (wM ad (z_t K) μ) := by
          intro N_45
          induction N_45 with
          | zero => intro i row μ hi hE hm8 hm_45; exact absurd hm_45 (Nat.not_lt_zero _)
          | succ N_45 ih_45 =>
            intro i row μ hi hE hm8 hm_45
            obtain ⟨rfl, hi⟩ := hi
            have m8 := hm8
            have hE_ := hE
            have hEs : zE μ σ [8, 14, 15, 65, 66] := zE_tr (zE_mo hE (by decide)) (zE_mo hE5 (by decide))
            have m14 : μ 14 = zC (σ 18 z / 8) := (hE 14 (by decide)).trans h14_40
            have m15 : μ 15 = _ := (hE 15 (by decide)).trans e15
            have hE := hEs
            have hyi := hwyb i
            refine z_iload_n C (z_d dtX8_learn_0 27 rfl) rfl ?_
            refine z_aload_n C (z_d dtX8_learn_0 28 rfl) rfl ?_
            refine gf_X8_182 C (z_d dtX8_learn_0 29 rfl) ?_
            try simp (decide := true) only [zS_s, zS_o, zC, m14, m15]
            refine z_icmp_ge (tgt := 72) C (z_d dtX8_learn_0 30 rfl) (by decide) (by omega) (fun h_50 => ?_) (fun h_50 => ?_)
            · refine z_aload_n C (z_d dtX8_learn_1 2 rfl) rfl ?_
              refine gf_X8_182 C (z_d dtX8_learn_1 3 rfl) ?_
              try simp (decide := true) only [zS_s, zS_o, zC, m14, m15]
              exact ret _ _ _ _ (z_d dtX8_learn_1 4 rfl) (⟨_, rfl, Or.inr ⟨by omega, Or.inr ⟨by omega, Or.inr ⟨hsc.1, by have := hsc.2; omega, rfl, hE, m14, m15, by rw [hm8, show i = (σ 18 z / 8).toNat by omega]⟩⟩⟩⟩) rfl
            · refine z_aload_n C (z_d dtX8_learn_0 31 rfl) rfl ?_
              refine z_iload_n C (z_d dtX8_learn_0 32 rfl) rfl ?_
              refine z_iload_n C (z_d dtX8_learn_0 33 rfl) rfl ?_
              refine z_aload_n C (z_d dtX8_learn_0 34 rfl) rfl ?_
              refine gf_X8_49 C (z_d dtX8_learn_0 35 rfl) ?_
              refine z_iload_n C (z_d dtX8_learn_0 36 rfl) rfl ?_
              refine al_M12 C (z_d dtX8_learn_0 37 rfl) (by omega) ?_
              try simp (decide := true) only [zS_s, zS_o, zC, m14, m15]
              refine z_top (show (if 0 ≤ (i : Int) ∧ (i : Int) < σ 18 z / 8 then zYw σ z (-1) (σ 18 z / 8) ((i : Int)).toNat else σ 15 i) = zYw σ z (-1) (σ 18 z / 8) i by rw [if_pos (by omega), Int.toNat_natCast]) ?_
              refine z_callV C (z_d dtX8_learn_0 38 rfl) (k_X8_surveys  (by omega) (by unfold zIt; rw [hE 20 (by decide)]; exact hit) (by omega) (by omega) (by unfold zMp; rw [m8]; exact zLm_b hmp z _ i)) cal_X8_surveys gw_17_8 rfl 0 8 rfl rfl rfl rfl hR ⟨rfl, rfl, rfl, rfl⟩ rfl (fun r_62 w_62 h_62 => ?_)
              obtain ⟨rfl, rfl⟩ := h_62
              refine z_istore_n3 C (z_d dtX8_learn_0 39 rfl) rfl ?_
              refine z_iinc2 C (z_d dtX8_learn_1 0 rfl) rfl ?_
              refine z_goto (tgt := 45) C (z_d dtX8_learn_1 1 rfl) (by decide) ?_
              refine z_drop3 ?_
              exact ih_45 (i + 1) _ _ (by omega) (zE_set hE_ (by decide)) (by
                      rw [zS_s, zLm]
                      exact zSv_c (μ := μ) (σ := zS σ 8 (zLm σ z (zYw σ z (-1) (σ 18 z / 8)) i)) m8 (hE 20 (by decide)) _ _ _ 8) (by omega)
        exact lp_45 _ 0 _ _ (by omega) zE_rf (hE5 8 (by decide)) (Nat.lt_succ_self _)
      · have hno : ((σ 18 z / 8) = 0 ∨ zYf σ z (-1) (σ 18 z / 8) = -1) ∧ zE σ_28 σ [66] := by
          rcases h28 with ⟨a, b, g⟩ | ⟨a, b, g⟩
          · exact ⟨a, g⟩
          · omega
        refine z_bipush C (z_d dtX8_learn_0 20 rfl) zb_m3 ?_
        exact ret _ _ _ _ (z_d dtX8_learn_0 21 rfl) (⟨_, rfl, Or.inr ⟨by omega, Or.inr ⟨by omega, Or.inl ⟨hno.1, rfl, zE_mo hno.2 (by decide)⟩⟩⟩⟩) rfl
    · refine z_aload_n C (z_d dtX8_learn_0 10 rfl) rfl ?_
      refine z_iconst C (z_d dtX8_learn_0 11 rfl) ?_
      refine z_callV C (z_d dtX8_learn_0 12 rfl) (k_X8_meets  ) cal_X8_meets gw_17_3 rfl 0 8 rfl rfl rfl rfl hR ⟨rfl, rfl, rfl, rfl⟩ rfl (fun r_21 w_21 h_21 => ?_)
      obtain ⟨rfl, rfl⟩ := h_21
      exact ret _ _ _ _ (z_d dtX8_learn_0 13 rfl) (⟨_, rfl, Or.inr ⟨by omega, Or.inl ⟨by omega, rfl, rfl⟩⟩⟩) rfl
  · refine z_bipush C (z_d dtX8_learn_0 3 rfl) zb_m2 ?_
    exact ret _ _ _ _ (z_d dtX8_learn_0 4 rfl) (⟨σ, rfl, Or.inl ⟨by omega, rfl, rfl⟩⟩) rfl

set_option maxRecDepth 100000 in
set_option maxHeartbeats 4000000 in
theorem k_X8_moved {l : Launch} {D : va_G} {t : Nat → ClassId} {ad : Nat → Nat} {σ : zMem} {z : Int} (ok : okM σ) (hz : -2147483648 ≤ z ∧ z < 2147483648) : z_Ci l D t yX8_moved cX8_moved 9 .int 4 104 0 0 [.ref (ad 0), .int (zI z)] (wM ad t σ) (fun r w => ∃ σ', w = wM ad t σ' ∧ ((¬ (0 ≤ z ∧ z < 4) ∧ r = -2 ∧ σ' = σ) ∨ ((0 ≤ z ∧ z < 4) ∧ ((σ 16 z = 0 ∧ r = -11 ∧ σ' = zS σ 19 (zC 1)) ∨ (σ 16 z = 1 ∧ ((((σ 18 z / 8) = 0 ∨ zYf σ z (-1) (σ 18 z / 8) = -1) ∧ r = -3 ∧ zE σ' σ [65, 66]) ∨ (1 ≤ (σ 18 z / 8) ∧ zYf σ z (-1) (σ 18 z / 8) ≠ -1 ∧ r = zYt σ z 8 ∧ zE σ' σ [65, 66]))))))) := by
  refine z_Ci_of (by decide +kernel) [some (.ref (ad 0)), some (.int (zI z)), none, none, none, none, none, none, none] rfl rfl (Nat.le_of_ble_eq_true rfl) fun K hl hD ht hR hnm C ret => ?_
  subst hl; subst hD; subst ht
  have ok2 := ok
  obtain ⟨⟨hw, h60, hs, h4, h5, h6, h7⟩, hmp, ⟨h9, hsum⟩, oW1, ⟨hle, hgi, hga⟩, oT1, ⟨h16, h17, h18, hit⟩⟩ := ok2
  have hN := zHw_N hw
  have hW := hw; unfold zHw at hW
  have hwh := zHw_wh hw
  have hn : σ 60 0 = ((zN σ).toNat : Int) ∧ 1 ≤ (zN σ).toNat ∧ (zN σ).toNat ≤ 72 := by omega
  have h9n : ∀ c : Int, 0 ≤ c → c < ((zN σ).toNat : Int) → 0 ≤ σ 9 c ∧ σ 9 c ≤ 1000000 := fun c a b => h9 c a (by omega)
  have h16z := h16 z
  have h18z := h18 z
  refine z_iload_n C (z_d dtX8_moved_0 0 rfl) rfl ?_
  refine z_callS C (z_d dtX8_moved_0 1 rfl) (k_X8_isSheet  (by first | assumption | omega)) cal_X8_isSheet gw_16_16 rfl rfl hR ⟨rfl, rfl, rfl, rfl⟩ rfl (fun r_1 w_1 h_1 => ?_)
  obtain ⟨rfl, h_1⟩ := h_1
  refine z_if_ne (tgt := 10) C (z_d dtX8_moved_0 2 rfl) (by decide) (by omega) (fun h_4 => ?_) (fun h_4 => ?_)
  · refine z_aload_n C (z_d dtX8_moved_0 5 rfl) rfl ?_
    refine gf_X8_64 C (z_d dtX8_moved_0 6 rfl) ?_
    refine z_iload_n C (z_d dtX8_moved_0 7 rfl) rfl ?_
    refine al_M16 C (z_d dtX8_moved_0 8 rfl) (by omega) ?_
    try simp (decide := true) only [zS_s, zS_o, zC, e7]
    refine z_if_ne (tgt := 25) C (z_d dtX8_moved_0 9 rfl) (by decide) (by omega) (fun h_16 => ?_) (fun h_16 => ?_)
    · refine z_aload_n C (z_d dtX8_moved_0 14 rfl) rfl ?_
      refine z_iload_n C (z_d dtX8_moved_0 15 rfl) rfl ?_
      refine z_iconst C (z_d dtX8_moved_0 16 rfl) ?_
      refine z_callV C (z_d dtX8_moved_0 17 rfl) (k_X8_walks  (by first | assumption | omega) (by omega) (by omega)) cal_X8_walks gw_27_13 rfl 0 8 rfl rfl rfl rfl hR ⟨rfl, rfl, rfl, rfl⟩ rfl (fun r_28 w_28 h_28 => ?_)
      obtain ⟨σ_28, rfl, h28⟩ := h_28
      have hr28 : -2147483648 ≤ r_28 ∧ r_28 < 2147483648 := by
        rcases h28 with ⟨a, b, g⟩ | ⟨a, b, g, _⟩
        · omega
        · have := zYv_b hmp hs z (-1) (σ 18 z / 8) ((σ 18 z / 8) - 1).toNat (zYw σ z (-1) (σ 18 z / 8) 0)
          have e : r_28 = zYv σ z (-1) (σ 18 z / 8) ((σ 18 z / 8) - 1).toNat (zYw σ z (-1) (σ 18 z / 8) 0) := g
          omega
      refine z_iconst C (z_d dtX8_moved_0 18 rfl) ?_
      refine z_icmp_ne (tgt := 38) C (z_d dtX8_moved_0 19 rfl) (by decide) (by omega) (fun h_32 => ?_) (fun h_32 => ?_)
      · have hsc : 1 ≤ (σ 18 z / 8) ∧ 0 ≤ r_28 ∧ r_28 = zYf σ z (-1) (σ 18 z / 8) ∧ zE σ_28 σ [65, 66] ∧ ∀ k : Nat, k < (σ 18 z / 8) → σ_28 65 k = zYw σ z (-1) (σ 18 z / 8) k := by
          rcases h28 with ⟨a, b, g⟩ | g
          · omega
          · exact g
        have hE28 := hsc.2.2.2.1
        have e18 : σ_28 18 = σ 18 := hE28 18 (by decide)
        have hfe : ∀ k : Int, ¬ zYf σ z k (σ 18 z / 8) = -1 := fun k q => by
          have := zYf_fe (σ := σ) (by omega) hmp hs z k (-1) (σ 18 z / 8) q
          omega
        refine z_iconst C (z_d dtX8_moved_0 22 rfl) ?_
        refine z_istore_n2 C (z_d dtX8_moved_0 23 rfl) rfl ?_
        refine z_iconst C (z_d dtX8_moved_0 24 rfl) ?_
        refine z_istore_n3 C (z_d dtX8_moved_0 25 rfl) rfl ?_
        have lp_42 : ∀ (N_42 : Nat) (k : Nat) (kk b : Int) (μ : zMem), (kk = k ∧ k ≤ 8) → (zE μ σ [65, 66]) → (b = zYt σ z k) → 8 - k < N_42 → Gd K 0 0 42 [some (.ref (ad 0)), some (.int (zI z)), some (.int (zI b)), some (.int (zI kk)), none, none, none, none, none] [] (wM ad (z_t K) μ) := by
          intro N_42
          induction N_42 with
          | zero => intro k kk b μ hk hE hb hm_42; exact absurd hm_42 (Nat.not_lt_zero _)
          | succ N_42 ih_42 =>
            intro k kk b μ hk hE hb hm_42
            obtain ⟨rfl, hk⟩ := hk
            have e7 := hE 7 (by decide)
            have e18 : μ 18 = σ 18 := hE 18 (by decide)
            have h7k := h7 k
            have hbb := zYt_b σ z k hk
            refine z_iload_n C (z_d dtX8_moved_0 26 rfl) rfl ?_
            refine z_bipush C (z_d dtX8_moved_0 27 rfl) zb_8 ?_
            refine z_icmp_ge (tgt := 178) C (z_d dtX8_moved_0 28 rfl) (by decide) (by omega) (fun h_45 => ?_) (fun h_45 => ?_)
            · refine z_iload_n C (z_d dtX8_moved_2 22 rfl) rfl ?_
              exact ret _ _ _ _ (z_d dtX8_moved_2 23 rfl) (⟨_, rfl, Or.inr ⟨by omega, Or.inr ⟨by omega, Or.inr ⟨hsc.1, by have := hsc.2; omega, by rw [hb, show k = 8 by omega], hE⟩⟩⟩⟩) rfl
            · refine z_aload_n C (z_d dtX8_moved_0 29 rfl) rfl ?_
              refine gf_X8_23 C (z_d dtX8_moved_0 30 rfl) ?_
              refine z_iload_n C (z_d dtX8_moved_0 31 rfl) rfl ?_
              refine al_M4 C (z_d dtX8_moved_0 32 rfl) (by omega) ?_
              try simp (decide := true) only [zS_s, zS_o, zC, e7]
              refine z_if_ne (tgt := 172) C (z_d dtX8_moved_0 33 rfl) (by decide) (by omega) (fun h_54 => ?_) (fun h_54 => ?_)
              · refine z_iinc3 C (z_d dtX8_moved_2 20 rfl) rfl ?_
                refine z_goto (tgt := 42) C (z_d dtX8_moved_2 21 rfl) (by decide) ?_
                exact ih_42 (k + 1) _ _ _ (by omega) (by first | exact hE6 | exact hE) (by
                        rw [zYt, hb]
                        first
                          | (rw [if_neg (fun q => by omega)]; omega)
                          | (rw [if_neg (fun q => hyd q.2)])
                          | (rw [if_pos ⟨by omega, hyd⟩])) (by omega)
              · refine z_aload_n C (z_d dtX8_moved_0 34 rfl) rfl ?_
                refine z_iload_n C (z_d dtX8_moved_0 35 rfl) rfl ?_
                refine z_iload_n C (z_d dtX8_moved_0 36 rfl) rfl ?_
                refine z_callV C (z_d dtX8_moved_0 37 rfl) (k_X8_walks  (okM_E hE (by decide) ok) (by omega) (by omega)) cal_X8_walks gw_27_13 rfl 0 8 rfl rfl rfl rfl hR ⟨rfl, rfl, rfl, rfl⟩ rfl (fun r_60 w_60 h_60 => ?_)
                obtain ⟨ν, rfl, h60w⟩ := h_60
                rw [e18, zYf_E hE] at h60w
                have h61 : (1 ≤ (σ 18 z / 8) ∧ 0 ≤ r_60 ∧ r_60 = zYf σ z k (σ 18 z / 8) ∧ zE ν μ [65, 66] ∧ ∀ j : Nat, j < (σ 18 z / 8) → ν 65 j = zYw μ z k (σ 18 z / 8) j) := h60w.resolve_left (fun q => q.1.elim (fun p => by omega) (fun p => hfe k p))
                have hE6 : zE ν σ [65, 66] := zE_tr h61.2.2.2.1 hE
                have hy6 : ∀ j : Nat, j < (σ 18 z / 8) → ν 65 j = zYw σ z k (σ 18 z / 8) j := fun j p => by rw [h61.2.2.2.2 j p, zYw_E hE]
                have hr60 : -2147483648 ≤ r_60 ∧ r_60 < 2147483648 := by
                  have := zYv_b hmp hs z k (σ 18 z / 8) ((σ 18 z / 8) - 1).toNat (zYw σ z k (σ 18 z / 8) 0)
                  have e : r_60 = zYv σ z k (σ 18 z / 8) ((σ 18 z / 8) - 1).toNat (zYw σ z k (σ 18 z / 8) 0) := h61.2.2.1
                  omega
                have e18c : ν 18 = σ 18 := hE6 18 (by decide)
                have h18c : ∀ i, 0 ≤ ν 18 i ∧ ν 18 i ≤ 240 := by rw [e18c]; exact h18
                have hitc : zIt ν := by unfold zIt; rw [hE6 20 (by decide)]; exact hit
                have hmpc : zMp ν := by unfold zMp; rw [hE6 8 (by decide)]; exact hmp
                have hwyb := fun (j : Nat) (p : (j : Int) < (σ 18 z / 8)) => (zYw_ok (σ := σ) (z := z) (wo := k) (R := (σ 18 z / 8)) (by omega) hsc.1 (hfe k) j p).1
                refine z_istore4 C (z_d dtX8_moved_0 38 rfl) rfl ?_
                refine z_iconst C (z_d dtX8_moved_0 39 rfl) ?_
                refine z_istore5 C (z_d dtX8_moved_1 0 rfl) rfl ?_
                refine z_iconst C (z_d dtX8_moved_1 1 rfl) ?_
                refine z_istore6 C (z_d dtX8_moved_1 2 rfl) rfl ?_
                refine z_iconst C (z_d dtX8_moved_1 3 rfl) ?_
                refine z_istore7 C (z_d dtX8_moved_1 4 rfl) rfl ?_
                have lp_74 : ∀ (N_74 : Nat) (j : Nat) (rr t o : Int), (rr = j ∧ j ≤ σ 18 z / 8) → (t = zMr σ z k j) → (o = zMuy σ z k (zYw σ z k (σ 18 z / 8)) j) → (σ 18 z / 8 - j).toNat < N_74 → Gd K 0 0 74 [some (.ref (ad 0)), some (.int (zI z)), some (.int (zI b)), some (.int (zI (k : Int))), some (.int (zI r_60)), some (.int (zI t)), some (.int (zI o)), some (.int (zI rr)), none] [] (wM ad (z_t K) ν) := by
                  intro N_74
                  induction N_74 with
                  | zero => intro j rr t o hj ht ho hm_74; exact absurd hm_74 (Nat.not_lt_zero _)
                  | succ N_74 ih_74 =>
                    intro j rr t o hj ht ho hm_74
                    obtain ⟨rfl, hj⟩ := hj
                    have htb := zMr_b σ z k j
                    have hob := zMuy_b σ z k (zYw σ z k (σ 18 z / 8)) j
                    have eV := zHv_E hE6 (by decide) z j k
                    have hv9 := zH0_b (zHv σ z j k)
                    have hyj := hwyb j
                    have hw1 := zWt_b hmp k ((zYw σ z k (σ 18 z / 8)) j) (zH0 (zHv σ z j k))
                    have eW := zWt_E hE6 (by decide) k ((zYw σ z k (σ 18 z / 8)) j) (zH0 (zHv σ z j k))
                    refine z_iload C (z_d dtX8_moved_1 5 rfl) rfl ?_
                    refine z_aload_n C (z_d dtX8_moved_1 6 rfl) rfl ?_
                    refine z_iload_n C (z_d dtX8_moved_1 7 rfl) rfl ?_
                    refine z_callV C (z_d dtX8_moved_1 8 rfl) (k_X8_rowsOf  (by omega) h18c) cal_X8_rowsOf gw_16_23 rfl 0 8 rfl rfl rfl rfl hR ⟨rfl, rfl, rfl, rfl⟩ rfl (fun r_78 w_78 h_78 => ?_)
                    obtain ⟨rfl, rfl⟩ := h_78
                    rw [e18c]
                    refine z_icmp_ge (tgt := 153) C (z_d dtX8_moved_1 9 rfl) (by decide) (by omega) (fun h_81 => ?_) (fun h_81 => ?_)
                    · refine z_iload_n C (z_d dtX8_moved_2 7 rfl) rfl ?_
                      refine z_iconst C (z_d dtX8_moved_2 8 rfl) ?_
                      refine z_iload C (z_d dtX8_moved_2 9 rfl) rfl ?_
                      refine z_imul C (z_d dtX8_moved_2 10 rfl) ?_
                      refine z_iload C (z_d dtX8_moved_2 11 rfl) rfl ?_
                      refine z_icmp_le (tgt := 169) C (z_d dtX8_moved_2 12 rfl) (by decide) (by omega) (fun h_160 => ?_) (fun h_160 => ?_)
                      · have hor := z_or0 b
                        have hyd : ¬ zYd σ z k := fun q => by
                          unfold zYd at q
                          rw [show (σ 18 z / 8).toNat = j by omega] at q
                          omega
                        refine z_iconst C (z_d dtX8_moved_2 17 rfl) ?_
                        refine z_ior C (z_d dtX8_moved_2 18 rfl) hor ?_
                        refine z_istore_n2 C (z_d dtX8_moved_2 19 rfl) rfl ?_
                        refine z_iinc3 C (z_d dtX8_moved_2 20 rfl) rfl ?_
                        refine z_goto (tgt := 42) C (z_d dtX8_moved_2 21 rfl) (by decide) ?_
                        refine z_drop4 ?_
                        refine z_drop5 ?_
                        refine z_drop6 ?_
                        refine z_drop7 ?_
                        exact ih_42 (k + 1) _ _ _ (by omega) (by first | exact hE6 | exact hE) (by
                                rw [zYt, hb]
                                first
                                  | (rw [if_neg (fun q => by omega)]; omega)
                                  | (rw [if_neg (fun q => hyd q.2)])
                                  | (rw [if_pos ⟨by omega, hyd⟩])) (by omega)
                      · have hor := z_orn (b := b) (k := (k : Int)) (by omega) (by rw [hb]; omega)
                        have hyd : zYd σ z k := by
                          unfold zYd
                          rw [show (σ 18 z / 8).toNat = j by omega]
                          omega
                        refine z_iconst C (z_d dtX8_moved_2 13 rfl) ?_
                        refine z_iload_n C (z_d dtX8_moved_2 14 rfl) rfl ?_
                        refine z_ishl C (z_d dtX8_moved_2 15 rfl) (z_shl (by omega)) ?_
                        refine z_goto (tgt := 170) C (z_d dtX8_moved_2 16 rfl) (by decide) ?_
                        refine z_ior C (z_d dtX8_moved_2 18 rfl) hor ?_
                        refine z_istore_n2 C (z_d dtX8_moved_2 19 rfl) rfl ?_
                        refine z_iinc3 C (z_d dtX8_moved_2 20 rfl) rfl ?_
                        refine z_goto (tgt := 42) C (z_d dtX8_moved_2 21 rfl) (by decide) ?_
                        refine z_drop4 ?_
                        refine z_drop5 ?_
                        refine z_drop6 ?_
                        refine z_drop7 ?_
                        exact ih_42 (k + 1) _ _ _ (by omega) (by first | exact hE6 | exact hE) (by
                                rw [zYt, hb]
                                first
                                  | (rw [if_neg (fun q => by omega)]; omega)
                                  | (rw [if_neg (fun q => hyd q.2)])
                                  | (rw [if_pos ⟨by omega, hyd⟩])) (by omega)
                    · refine z_aload_n C (z_d dtX8_moved_1 10 rfl) rfl ?_
                      refine z_iload_n C (z_d dtX8_moved_1 11 rfl) rfl ?_
                      refine z_iload C (z_d dtX8_moved_1 12 rfl) rfl ?_
                      refine z_iload_n C (z_d dtX8_moved_1 13 rfl) rfl ?_
                      refine z_iconst C (z_d dtX8_moved_1 14 rfl) ?_
                      refine z_callV C (z_d dtX8_moved_1 15 rfl) (k_X8_heard  (by omega) hitc (by omega) (by omega) (by omega)) cal_X8_heard gw_17_12 rfl 0 8 rfl rfl rfl rfl hR ⟨rfl, rfl, rfl, rfl⟩ rfl (fun r_90 w_90 h_90 => ?_)
                      obtain ⟨rfl, rfl⟩ := h_90
                      rw [eV, zHo_0]
                      refine z_istore8 C (z_d dtX8_moved_1 16 rfl) rfl ?_
                      refine z_iload C (z_d dtX8_moved_1 17 rfl) rfl ?_
                      refine z_iload C (z_d dtX8_moved_1 18 rfl) rfl ?_
                      refine z_bipush C (z_d dtX8_moved_1 19 rfl) zb_m2 ?_
                      refine z_icmp_eq (tgt := 108) C (z_d dtX8_moved_1 20 rfl) (by decide) (by omega) (fun h_101 => ?_) (fun h_101 => ?_)
                      · refine z_iconst C (z_d dtX8_moved_1 23 rfl) ?_
                        refine z_iadd C (z_d dtX8_moved_1 24 rfl) ?_
                        refine z_istore5 C (z_d dtX8_moved_1 25 rfl) rfl ?_
                        refine z_iload C (z_d dtX8_moved_1 26 rfl) rfl ?_
                        refine z_iload C (z_d dtX8_moved_1 27 rfl) rfl ?_
                        refine z_bipush C (z_d dtX8_moved_1 28 rfl) zb_m2 ?_
                        refine z_icmp_eq (tgt := 143) C (z_d dtX8_moved_1 29 rfl) (by decide) (by omega) (fun h_118 => ?_) (fun h_118 => ?_)
                        · refine z_iconst C (z_d dtX8_moved_2 2 rfl) ?_
                          refine z_iadd C (z_d dtX8_moved_2 3 rfl) ?_
                          refine z_istore6 C (z_d dtX8_moved_2 4 rfl) rfl ?_
                          refine z_iinc7 C (z_d dtX8_moved_2 5 rfl) rfl ?_
                          refine z_goto (tgt := 74) C (z_d dtX8_moved_2 6 rfl) (by decide) ?_
                          refine z_drop8 ?_
                          exact ih_74 (j + 1) _ _ _ (by omega) (by rw [zMr]; (first | rw [if_pos (by omega)] | rw [if_neg (by omega)]) <;> omega) (by rw [zMuy]; (first | rw [if_pos (by omega)] | rw [if_neg (by omega)]) <;> omega) (by omega)
                        · refine z_aload_n C (z_d dtX8_moved_1 30 rfl) rfl ?_
                          refine z_iload_n C (z_d dtX8_moved_1 31 rfl) rfl ?_
                          refine z_aload_n C (z_d dtX8_moved_1 32 rfl) rfl ?_
                          refine gf_X8_52 C (z_d dtX8_moved_1 33 rfl) ?_
                          refine z_iload C (z_d dtX8_moved_1 34 rfl) rfl ?_
                          refine al_M13 C (z_d dtX8_moved_1 35 rfl) (by omega) ?_
                          try simp (decide := true) only [zS_s, zS_o, zC, e7]
                          refine z_top (hy6 j (by omega)) ?_
                          refine z_iload C (z_d dtX8_moved_1 36 rfl) rfl ?_
                          refine z_callV C (z_d dtX8_moved_1 37 rfl) (k_X8_weightOf  (by omega) (by omega) (by omega)) cal_X8_weightOf gw_18_8 rfl 0 8 rfl rfl rfl rfl hR ⟨rfl, rfl, rfl, rfl⟩ rfl (fun r_132 w_132 h_132 => ?_)
                          obtain ⟨rfl, rfl⟩ := h_132
                          rw [eW]
                          refine z_iconst C (z_d dtX8_moved_1 38 rfl) ?_
                          refine z_icmp_ne (tgt := 143) C (z_d dtX8_moved_1 39 rfl) (by decide) (by omega) (fun h_136 => ?_) (fun h_136 => ?_)
                          · refine z_iconst C (z_d dtX8_moved_2 2 rfl) ?_
                            refine z_iadd C (z_d dtX8_moved_2 3 rfl) ?_
                            refine z_istore6 C (z_d dtX8_moved_2 4 rfl) rfl ?_
                            refine z_iinc7 C (z_d dtX8_moved_2 5 rfl) rfl ?_
                            refine z_goto (tgt := 74) C (z_d dtX8_moved_2 6 rfl) (by decide) ?_
                            refine z_drop8 ?_
                            exact ih_74 (j + 1) _ _ _ (by omega) (by rw [zMr]; (first | rw [if_pos (by omega)] | rw [if_neg (by omega)]) <;> omega) (by rw [zMuy]; (first | rw [if_pos (by omega)] | rw [if_neg (by omega)]) <;> omega) (by omega)
                          · refine z_iconst C (z_d dtX8_moved_2 0 rfl) ?_
                            refine z_goto (tgt := 144) C (z_d dtX8_moved_2 1 rfl) (by decide) ?_
                            refine z_iadd C (z_d dtX8_moved_2 3 rfl) ?_
                            refine z_istore6 C (z_d dtX8_moved_2 4 rfl) rfl ?_
                            refine z_iinc7 C (z_d dtX8_moved_2 5 rfl) rfl ?_
                            refine z_goto (tgt := 74) C (z_d dtX8_moved_2 6 rfl) (by decide) ?_
                            refine z_drop8 ?_
                            exact ih_74 (j + 1) _ _ _ (by omega) (by rw [zMr]; (first | rw [if_pos (by omega)] | rw [if_neg (by omega)]) <;> omega) (by rw [zMuy]; (first | rw [if_pos (by omega)] | rw [if_neg (by omega)]) <;> omega) (by omega)
                      · refine z_iconst C (z_d dtX8_moved_1 21 rfl) ?_
                        refine z_goto (tgt := 109) C (z_d dtX8_moved_1 22 rfl) (by decide) ?_
                        refine z_iadd C (z_d dtX8_moved_1 24 rfl) ?_
                        refine z_istore5 C (z_d dtX8_moved_1 25 rfl) rfl ?_
                        refine z_iload C (z_d dtX8_moved_1 26 rfl) rfl ?_
                        refine z_iload C (z_d dtX8_moved_1 27 rfl) rfl ?_
                        refine z_bipush C (z_d dtX8_moved_1 28 rfl) zb_m2 ?_
                        refine z_icmp_eq (tgt := 143) C (z_d dtX8_moved_1 29 rfl) (by decide) (by omega) (fun h_118 => ?_) (fun h_118 => ?_)
                        · refine z_iconst C (z_d dtX8_moved_2 2 rfl) ?_
                          refine z_iadd C (z_d dtX8_moved_2 3 rfl) ?_
                          refine z_istore6 C (z_d dtX8_moved_2 4 rfl) rfl ?_
                          refine z_iinc7 C (z_d dtX8_moved_2 5 rfl) rfl ?_
                          refine z_goto (tgt := 74) C (z_d dtX8_moved_2 6 rfl) (by decide) ?_
                          refine z_drop8 ?_
                          exact ih_74 (j + 1) _ _ _ (by omega) (by rw [zMr]; (first | rw [if_pos (by omega)] | rw [if_neg (by omega)]) <;> omega) (by rw [zMuy]; (first | rw [if_pos (by omega)] | rw [if_neg (by omega)]) <;> omega) (by omega)
                        · refine z_aload_n C (z_d dtX8_moved_1 30 rfl) rfl ?_
                          refine z_iload_n C (z_d dtX8_moved_1 31 rfl) rfl ?_
                          refine z_aload_n C (z_d dtX8_moved_1 32 rfl) rfl ?_
                          refine gf_X8_52 C (z_d dtX8_moved_1 33 rfl) ?_
                          refine z_iload C (z_d dtX8_moved_1 34 rfl) rfl ?_
                          refine al_M13 C (z_d dtX8_moved_1 35 rfl) (by omega) ?_
                          try simp (decide := true) only [zS_s, zS_o, zC, e7]
                          refine z_top (hy6 j (by omega)) ?_
                          refine z_iload C (z_d dtX8_moved_1 36 rfl) rfl ?_
                          refine z_callV C (z_d dtX8_moved_1 37 rfl) (k_X8_weightOf  (by omega) (by omega) (by omega)) cal_X8_weightOf gw_18_8 rfl 0 8 rfl rfl rfl rfl hR ⟨rfl, rfl, rfl, rfl⟩ rfl (fun r_132 w_132 h_132 => ?_)
                          obtain ⟨rfl, rfl⟩ := h_132
                          rw [eW]
                          refine z_iconst C (z_d dtX8_moved_1 38 rfl) ?_
                          refine z_icmp_ne (tgt := 143) C (z_d dtX8_moved_1 39 rfl) (by decide) (by omega) (fun h_136 => ?_) (fun h_136 => ?_)
                          · refine z_iconst C (z_d dtX8_moved_2 2 rfl) ?_
                            refine z_iadd C (z_d dtX8_moved_2 3 rfl) ?_
                            refine z_istore6 C (z_d dtX8_moved_2 4 rfl) rfl ?_
                            refine z_iinc7 C (z_d dtX8_moved_2 5 rfl) rfl ?_
                            refine z_goto (tgt := 74) C (z_d dtX8_moved_2 6 rfl) (by decide) ?_
                            refine z_drop8 ?_
                            exact ih_74 (j + 1) _ _ _ (by omega) (by rw [zMr]; (first | rw [if_pos (by omega)] | rw [if_neg (by omega)]) <;> omega) (by rw [zMuy]; (first | rw [if_pos (by omega)] | rw [if_neg (by omega)]) <;> omega) (by omega)
                          · refine z_iconst C (z_d dtX8_moved_2 0 rfl) ?_
                            refine z_goto (tgt := 144) C (z_d dtX8_moved_2 1 rfl) (by decide) ?_
                            refine z_iadd C (z_d dtX8_moved_2 3 rfl) ?_
                            refine z_istore6 C (z_d dtX8_moved_2 4 rfl) rfl ?_
                            refine z_iinc7 C (z_d dtX8_moved_2 5 rfl) rfl ?_
                            refine z_goto (tgt := 74) C (z_d dtX8_moved_2 6 rfl) (by decide) ?_
                            refine z_drop8 ?_
                            exact ih_74 (j + 1) _ _ _ (by omega) (by rw [zMr]; (first | rw [if_pos (by omega)] | rw [if_neg (by omega)]) <;> omega) (by rw [zMuy]; (first | rw [if_pos (by omega)] | rw [if_neg (by omega)]) <;> omega) (by omega)
                exact lp_74 _ 0 _ _ _ (by omega) rfl rfl (Nat.lt_succ_self _)
        exact lp_42 _ 0 _ _ _ (by omega) hE28 rfl (Nat.lt_succ_self _)
      · have hno : ((σ 18 z / 8) = 0 ∨ zYf σ z (-1) (σ 18 z / 8) = -1) ∧ zE σ_28 σ [66] := by
          rcases h28 with ⟨a, b, g⟩ | ⟨a, b, g⟩
          · exact ⟨a, g⟩
          · omega
        refine z_bipush C (z_d dtX8_moved_0 20 rfl) zb_m3 ?_
        exact ret _ _ _ _ (z_d dtX8_moved_0 21 rfl) (⟨_, rfl, Or.inr ⟨by omega, Or.inr ⟨by omega, Or.inl ⟨hno.1, rfl, zE_mo hno.2 (by decide)⟩⟩⟩⟩) rfl
    · refine z_aload_n C (z_d dtX8_moved_0 10 rfl) rfl ?_
      refine z_iconst C (z_d dtX8_moved_0 11 rfl) ?_
      refine z_callV C (z_d dtX8_moved_0 12 rfl) (k_X8_meets  ) cal_X8_meets gw_17_3 rfl 0 8 rfl rfl rfl rfl hR ⟨rfl, rfl, rfl, rfl⟩ rfl (fun r_21 w_21 h_21 => ?_)
      obtain ⟨rfl, rfl⟩ := h_21
      exact ret _ _ _ _ (z_d dtX8_moved_0 13 rfl) (⟨_, rfl, Or.inr ⟨by omega, Or.inl ⟨by omega, rfl, rfl⟩⟩⟩) rfl
  · refine z_bipush C (z_d dtX8_moved_0 3 rfl) zb_m2 ?_
    exact ret _ _ _ _ (z_d dtX8_moved_0 4 rfl) (⟨σ, rfl, Or.inl ⟨by omega, rfl, rfl⟩⟩) rfl
