/-! THE REFERENCE: leading -/
theorem zLy_c {μ σ : zMem} (h1 : μ 1 = σ 1) (h2 : μ 2 = σ 2) (h3 : μ 3 = σ 3) (h4 : μ 4 = σ 4) (h5 : μ 5 = σ 5) (h6 : μ 6 = σ 6) (a b : Int) : zLy μ a b = zLy σ a b := by
  unfold zLy zRt zBl
  rw [h1, h2, h3, h4, h5, h6]
theorem zLy_E {μ σ : zMem} {l : List Nat} (h : zE μ σ l) (h1 : 1 ∉ l := by decide) (h2 : 2 ∉ l := by decide) (h3 : 3 ∉ l := by decide) (h4 : 4 ∉ l := by decide) (h5 : 5 ∉ l := by decide) (h6 : 6 ∉ l := by decide) (a b : Int) : zLy μ a b = zLy σ a b := zLy_c (h 1 h1) (h 2 h2) (h 3 h3) (h 4 h4) (h 5 h5) (h 6 h6) a b
theorem zLr_c {μ σ : zMem} (h0 : μ 0 = σ 0) (h1 : μ 1 = σ 1) (h2 : μ 2 = σ 2) (h3 : μ 3 = σ 3) (h4 : μ 4 = σ 4) (h5 : μ 5 = σ 5) (h6 : μ 6 = σ 6) : ∀ n : Nat, (∀ c : Int, 0 ≤ c → c < n → μ 9 c = σ 9 c) → zLr μ n = zLr σ n
  | 0, _ => rfl
  | n + 1, h9 => by
    have i := zLr_c h0 h1 h2 h3 h4 h5 h6 n (fun c a b => h9 c a (by omega))
    have eN : zN μ = zN σ := by unfold zN; rw [h0, h1, h2]
    have eY : ∀ c, zLo μ c = zLo σ c := fun c => funext fun d => zLy_c h1 h2 h3 h4 h5 h6 c d
    rw [zLr, zLr, i, eN, eY, h9 n (by omega) (by omega)]
    split
    · rfl
    · funext d
      unfold zLt
      rw [h9 n (by omega) (by omega), zLy_c h1 h2 h3 h4 h5 h6]
theorem zMn_ok {σ : zMem} (hw : zHw σ) (hs : 0 ≤ σ 3 0 ∧ σ 3 0 ≤ 9) (h9 : ∀ c, 0 ≤ c → c < zN σ → 0 ≤ σ 9 c ∧ σ 9 c ≤ 1000000) (hsum : zSum (σ 9) (zN σ).toNat = 1000000) : ∀ n : Nat, (∀ c, 0 ≤ c → c < zN σ → 0 ≤ zMn σ n c ∧ zMn σ n c ≤ 1000000) ∧ zSum (zMn σ n) (zN σ).toNat = 1000000
  | 0 => ⟨h9, hsum⟩
  | n + 1 => by
    have hN := zHw_N hw
    have i := zMn_ok hw hs h9 hsum n
    have b := zLr_b (σ := zS σ 9 (zMn σ n)) hs (zN σ).toNat (fun c a b => i.1 c a (by omega))
    have p := zSum_p (F := zLr (zS σ 9 (zMn σ n)) (zN σ).toNat) (zN σ).toNat (fun c _ _ => (b c).1)
    rw [zMn]
    unfold zM1
    split
    · exact i
    · rename_i q
      have := zWh_ok (W := zLr (zS σ 9 (zMn σ n)) (zN σ).toNat) (n := (zN σ).toNat) (by omega) (fun c _ _ => (b c).1) (by omega)
      exact ⟨fun c a b => this.1 c a (by omega), this.2⟩

set_option maxRecDepth 100000 in
set_option maxHeartbeats 4000000 in
theorem k_X8_lead {l : Launch} {D : va_G} {t : Nat → ClassId} {ad : Nat → Nat} {σ : zMem} {n : Int} (ok : okM σ) (hn : -2147483648 ≤ n ∧ n < 2147483648) : z_Ci l D t yX8_lead cX8_lead 7 .int 3 67 0 0 [.ref (ad 0), .int (zI n)] (wM ad t σ) (fun r w => ∃ σ', w = wM ad t σ' ∧ ((¬ (1 ≤ n ∧ n ≤ 20) ∧ r = -2 ∧ σ' = σ) ∨ ((1 ≤ n ∧ n ≤ 20) ∧ zE σ' σ [9, 62, 63] ∧ (∀ c, 0 ≤ c → c < zN σ → σ' 9 c = zMn σ n.toNat c) ∧ r = zCs (zMn σ n.toNat) (zN σ).toNat))) := by
  refine z_Ci_of (by decide +kernel) [some (.ref (ad 0)), some (.int (zI n)), none, none, none, none, none] rfl rfl (Nat.le_of_ble_eq_true rfl) fun K hl hD ht hR hnm C ret => ?_
  subst hl; subst hD; subst ht
  have ok2 := ok
  obtain ⟨⟨hw, h60, hs, h4, h5, h6, h7⟩, hmp, ⟨h9, hsum⟩, oW1, ⟨hle, hgi, hga⟩, oT1, ⟨h16, h17, h18, hit⟩⟩ := ok2
  have hN := zHw_N hw
  have hW := hw; unfold zHw at hW
  have hwh := zHw_wh hw
  have hn : σ 60 0 = ((zN σ).toNat : Int) ∧ 1 ≤ (zN σ).toNat ∧ (zN σ).toNat ≤ 72 := by omega
  have h9n : ∀ c : Int, 0 ≤ c → c < ((zN σ).toNat : Int) → 0 ≤ σ 9 c ∧ σ 9 c ≤ 1000000 := fun c a b => h9 c a (by omega)
  have hlo := zMn_ok hw hs h9 hsum
  refine z_iload_n C (z_d dtX8_lead_0 0 rfl) rfl ?_
  refine z_iconst C (z_d dtX8_lead_0 1 rfl) ?_
  refine z_bipush C (z_d dtX8_lead_0 2 rfl) zb_20 ?_
  refine z_callS C (z_d dtX8_lead_0 3 rfl) (k_X8_in  (by first | assumption | omega) (by first | assumption | omega) (by first | assumption | omega)) cal_X8_in gw_8_19 rfl rfl hR ⟨rfl, rfl, rfl, rfl⟩ rfl (fun r_4 w_4 h_4 => ?_)
  obtain ⟨rfl, h_4⟩ := h_4
  refine z_if_ne (tgt := 13) C (z_d dtX8_lead_0 4 rfl) (by decide) (by omega) (fun h_7 => ?_) (fun h_7 => ?_)
  · refine z_iconst C (z_d dtX8_lead_0 7 rfl) ?_
    refine z_istore_n2 C (z_d dtX8_lead_0 8 rfl) rfl ?_
    have lp_15 : ∀ (N_15 : Nat) (i : Nat) (k : Int) (μ : zMem), (k = i ∧ i ≤ n) → (zE μ σ [9, 62, 63]) → (∀ c, 0 ≤ c → c < zN σ → μ 9 c = zMn σ i c) → (n - i).toNat < N_15 → Gd K 0 0 15 [some (.ref (ad 0)), some (.int (zI n)), some (.int (zI k)), none, none, none, none] [] (wM ad (z_t K) μ) := by
      intro N_15
      induction N_15 with
      | zero => intro i k μ hi hE hm hm_15; exact absurd hm_15 (Nat.not_lt_zero _)
      | succ N_15 ih_15 =>
        intro i k μ hi hE hm hm_15
        obtain ⟨rfl, hi⟩ := hi
        have e60 := hE 60 (by decide)
        have h92 : ∀ c : Int, 0 ≤ c → c < ((zN σ).toNat : Int) → 0 ≤ μ 9 c ∧ μ 9 c ≤ 1000000 := fun c a b => by rw [hm c a (by omega)]; exact (hlo i).1 c a (by omega)
        have eL := zLr_c (μ := μ) (σ := zS σ 9 (zMn σ i)) (hE 0 (by decide)) (hE 1 (by decide)) (hE 2 (by decide)) (hE 3 (by decide)) (hE 4 (by decide)) (hE 5 (by decide)) (hE 6 (by decide)) (zN σ).toNat (fun c a b => hm c a (by omega))
        have eN : zN μ = zN σ := zN_E hE (by decide) (by decide) (by decide)
        have hsμ : 0 ≤ μ 3 0 ∧ μ 3 0 ≤ 9 := by rw [hE 3 (by decide)]; exact hs
        have hLb := zLr_b hsμ (zN σ).toNat h92
        refine z_iload_n C (z_d dtX8_lead_0 9 rfl) rfl ?_
        refine z_iload_n C (z_d dtX8_lead_0 10 rfl) rfl ?_
        refine z_icmp_ge (tgt := 193) C (z_d dtX8_lead_0 11 rfl) (by decide) (by omega) (fun h_17 => ?_) (fun h_17 => ?_)
        · refine z_aload_n C (z_d dtX8_lead_2 30 rfl) rfl ?_
          refine z_callV C (z_d dtX8_lead_2 31 rfl) (k_X8_withShare (n := (zN σ).toNat) (by rw [e60]; exact hn) h92) cal_X8_withShare gw_21_23 rfl 0 8 rfl rfl rfl rfl hR ⟨rfl, rfl, rfl, rfl⟩ rfl (fun r_194 w_194 h_194 => ?_)
          obtain ⟨rfl, rfl⟩ := h_194
          rw [zCs_cg (F := μ 9) (G := zMn σ i) _ (fun c a b => hm c a (by omega))]
          exact ret _ _ _ _ (z_d dtX8_lead_2 32 rfl) (⟨_, rfl, Or.inr ⟨by omega, hE, by rw [show n.toNat = i by omega]; exact hm, by rw [show n.toNat = i by omega]⟩⟩) rfl
        · refine z_iconst C (z_d dtX8_lead_0 12 rfl) ?_
          refine z_istore_n3 C (z_d dtX8_lead_0 13 rfl) rfl ?_
          have lp_22 : ∀ (N_22 : Nat) (c : Int) (ν : zMem), (0 ≤ c ∧ c ≤ zN σ) → (zE ν μ [62]) → (∀ j, 0 ≤ j → j < c → ν 62 j = 0) → (zN σ - c).toNat < N_22 → Gd K 0 0 22 [some (.ref (ad 0)), some (.int (zI n)), some (.int (zI (i : Int))), some (.int (zI c)), none, none, none] [] (wM ad (z_t K) ν) := by
            intro N_22
            induction N_22 with
            | zero => intro c ν hc hE2 hz2 hm_22; exact absurd hm_22 (Nat.not_lt_zero _)
            | succ N_22 ih_22 =>
              intro c ν hc hE2 hz2 hm_22
              have e60 : ν 60 = σ 60 := (hE2 60 (by decide)).trans (hE 60 (by decide))
              have e9 : ν 9 = μ 9 := hE2 9 (by decide)
              refine z_iload_n C (z_d dtX8_lead_0 14 rfl) rfl ?_
              refine z_aload_n C (z_d dtX8_lead_0 15 rfl) rfl ?_
              refine gf_X8_83 C (z_d dtX8_lead_0 16 rfl) ?_
              try simp (decide := true) only [zS_s, zS_o, zC, e60, e9, zU_s]
              refine z_icmp_ge (tgt := 43) C (z_d dtX8_lead_0 17 rfl) (by decide) (by omega) (fun h_27 => ?_) (fun h_27 => ?_)
              · refine z_iconst C (z_d dtX8_lead_0 25 rfl) ?_
                refine z_istore_n3 C (z_d dtX8_lead_0 26 rfl) rfl ?_
                have lp_45 : ∀ (N_45 : Nat) (j : Nat) (c : Int) (ν : zMem), (c = j ∧ j ≤ (zN σ).toNat) → (zE ν μ [62]) → (∀ x : Int, 0 ≤ x → x < zN σ → ν 62 x = zLr μ j x) → (zN σ).toNat - j < N_45 → Gd K 0 0 45 [some (.ref (ad 0)), some (.int (zI n)), some (.int (zI (i : Int))), some (.int (zI c)), none, none, none] [] (wM ad (z_t K) ν) := by
                  intro N_45
                  induction N_45 with
                  | zero => intro j c ν hj hE3 hL3 hm_45; exact absurd hm_45 (Nat.not_lt_zero _)
                  | succ N_45 ih_45 =>
                    intro j c ν hj hE3 hL3 hm_45
                    obtain ⟨rfl, hj⟩ := hj
                    have hEs : zE ν σ [9, 62, 63] := zE_tr (zE_mo hE3 (by decide)) hE
                    have e60 : ν 60 = σ 60 := hEs 60 (by decide)
                    have e9 : ν 9 = μ 9 := hE3 9 (by decide)
                    have eN3 : zN ν = zN σ := zN_E hEs (by decide) (by decide) (by decide)
                    have h9j := fun q : (j : Int) < zN σ => h92 j (by omega) (by omega)
                    have eY : ∀ d, zLy ν j d = zLy μ j d := fun d => zLy_E hE3 (by decide) (by decide) (by decide) (by decide) (by decide) (by decide) j d
                    have hw3 := zHw_E hEs (by decide) (by decide) (by decide) hw
                    have hs3 : 0 ≤ ν 3 0 ∧ ν 3 0 ≤ 9 := by rw [hEs 3 (by decide)]; exact hs
                    have h43 := zBo_E hEs (by decide) h4
                    have h53 := zBo_E hEs (by decide) h5
                    have h63 := zBo_E hEs (by decide) h6
                    have hyb := fun d => zLy_b hsμ j d
                    have hab := zSum_b (F := zLo μ j) (a := 0) (b := 9) (zN σ).toNat (fun c _ _ => zLy_b hsμ j c)
                    refine z_iload_n C (z_d dtX8_lead_0 27 rfl) rfl ?_
                    refine z_aload_n C (z_d dtX8_lead_0 28 rfl) rfl ?_
                    refine gf_X8_83 C (z_d dtX8_lead_0 29 rfl) ?_
                    try simp (decide := true) only [zS_s, zS_o, zC, e60, e9, zU_s]
                    refine z_icmp_ge (tgt := 182) C (z_d dtX8_lead_0 30 rfl) (by decide) (by omega) (fun h_50 => ?_) (fun h_50 => ?_)
                    · refine z_aload_n C (z_d dtX8_lead_2 25 rfl) rfl ?_
                      refine z_callV C (z_d dtX8_lead_2 26 rfl) (k_X8_whole (n := (zN σ).toNat) (by rw [e60]; exact hn) (fun c a b => by
                                rw [hL3 c a (by omega), show j = (zN σ).toNat by omega]
                                have := hLb c
                                omega)) cal_X8_whole gw_9_2 rfl 0 8 rfl rfl rfl rfl hR ⟨rfl, rfl, rfl, rfl⟩ rfl (fun r_183 w_183 h_183 => ?_)
                      obtain ⟨σ_183, rfl, h183⟩ := h_183
                      have e1 := zSum_cg (F := ν 62) (G := zLr μ (zN σ).toNat) (zN σ).toNat (fun c a b => by rw [hL3 c a (by omega), show j = (zN σ).toNat by omega])
                      have ecg := fun c a b => zWh_cg (W := ν 62) (V := zLr μ (zN σ).toNat) hn.2.1 (fun c a b => by rw [hL3 c a (by omega), show j = (zN σ).toNat by omega]) c a b
                      rw [e1] at h183
                      have hE5 : zE σ_183 σ [9, 62, 63] := by
                        rcases h183 with ⟨a, b, g⟩ | ⟨a, b, g, q⟩
                        · rw [g]; exact hEs
                        · exact zE_tr (zE_mo g (by decide)) hEs
                      have hm5 : ∀ c, 0 ≤ c → c < zN σ → σ_183 9 c = zMn σ (i + 1) c := fun c a0 b0 => by
                        rw [zMn]
                        unfold zM1
                        rw [← eL]
                        rcases h183 with ⟨a, b, g⟩ | ⟨a, b, g, q⟩
                        · rw [if_pos a, g, e9]; exact hm c a0 b0
                        · rw [if_neg (by omega), q c a0 (by omega)]; exact ecg c a0 (by omega)
                      refine z_istore_n3 C (z_d dtX8_lead_2 27 rfl) rfl ?_
                      refine z_iinc2 C (z_d dtX8_lead_2 28 rfl) rfl ?_
                      refine z_goto (tgt := 15) C (z_d dtX8_lead_2 29 rfl) (by decide) ?_
                      refine z_drop3 ?_
                      exact ih_15 (i + 1) _ _ (by omega) hE5 hm5 (by omega)
                    · refine z_lconst C (x := 0) rfl (z_d dtX8_lead_0 31 rfl) ?_
                      refine z_lstore4 C (z_d dtX8_lead_0 32 rfl) rfl ?_
                      refine z_iconst C (z_d dtX8_lead_0 33 rfl) ?_
                      refine z_istore6 C (z_d dtX8_lead_0 34 rfl) rfl ?_
                      have lp_59 : ∀ (N_59 : Nat) (m : Nat) (d s : Int), (d = m ∧ m ≤ (zN σ).toNat) → (s = zSum (zLo μ j) m) → (zN σ).toNat - m < N_59 → Gd K 0 0 59 [some (.ref (ad 0)), some (.int (zI n)), some (.int (zI (i : Int))), some (.int (zI (j : Int))), some (.long (zL s)), none, some (.int (zI d))] [] (wM ad (z_t K) ν) := by
                        intro N_59
                        induction N_59 with
                        | zero => intro m d s hm2 hs2 hm_59; exact absurd hm_59 (Nat.not_lt_zero _)
                        | succ N_59 ih_59 =>
                          intro m d s hm2 hs2 hm_59
                          obtain ⟨rfl, hm2⟩ := hm2
                          have hym := hyb m
                          have hsb2 := zSum_b (F := zLo μ j) (a := 0) (b := 9) m (fun c _ _ => zLy_b hsμ j c)
                          refine z_iload C (z_d dtX8_lead_0 35 rfl) rfl ?_
                          refine z_aload_n C (z_d dtX8_lead_0 36 rfl) rfl ?_
                          refine gf_X8_83 C (z_d dtX8_lead_0 37 rfl) ?_
                          try simp (decide := true) only [zS_s, zS_o, zC, e60, e9, zU_s]
                          refine z_icmp_ge (tgt := 87) C (z_d dtX8_lead_0 38 rfl) (by decide) (by omega) (fun h_65 => ?_) (fun h_65 => ?_)
                          · refine z_aload_n C (z_d dtX8_lead_1 9 rfl) rfl ?_
                            refine gf_X8_39 C (z_d dtX8_lead_1 10 rfl) ?_
                            refine z_iload_n C (z_d dtX8_lead_1 11 rfl) rfl ?_
                            refine z_dup2 C (z_d dtX8_lead_1 12 rfl) rfl rfl ?_
                            refine al_M9 C (z_d dtX8_lead_1 13 rfl) (by omega) ?_
                            try simp (decide := true) only [zS_s, zS_o, zC, e60, e9, zU_s]
                            refine z_lload C (z_d dtX8_lead_1 14 rfl) rfl ?_
                            refine z_lconst C (x := 0) rfl (z_d dtX8_lead_1 15 rfl) ?_
                            refine z_lcmpP C (z_d dtX8_lead_1 16 rfl) (by omega) (fun m_97 h_97 => ?_)
                            refine z_if_ne (tgt := 115) C (z_d dtX8_lead_1 17 rfl) (by decide) (by omega) (fun h_98 => ?_) (fun h_98 => ?_)
                            · refine z_lconst C (x := 0) rfl (z_d dtX8_lead_1 26 rfl) ?_
                              refine z_ladd C (z_d dtX8_lead_1 27 rfl) ?_
                              refine as_M9 C (z_d dtX8_lead_1 28 rfl) (by omega) ?_
                              refine z_iconst C (z_d dtX8_lead_1 29 rfl) ?_
                              refine z_istore6 C (z_d dtX8_lead_1 30 rfl) rfl ?_
                              obtain rfl : s = zSum (zLo μ j) (zN σ).toNat := by rw [hs2, show m = (zN σ).toNat by omega]
                              have lp_121 : ∀ (N_121 : Nat) (d : Int) (κ : zMem), (0 ≤ d ∧ d ≤ zN σ) → (zSum (zLo μ j) (zN σ).toNat = 0 → d = 0) → (zE κ μ [62]) → (∀ x : Int, 0 ≤ x → x < zN σ → ((d ≤ x → κ 62 x = (if zSum (zLo μ j) (zN σ).toNat = 0 then zU (zLr μ j) j (zLr μ j j + 1000 * μ 9 j) x else zLr μ j x)) ∧ (x < d → κ 62 x = zLt μ j (zSum (zLo μ j) (zN σ).toNat) (zLr μ j) x))) → (zN σ - d).toNat < N_121 → Gd K 0 0 121 [some (.ref (ad 0)), some (.int (zI n)), some (.int (zI (i : Int))), some (.int (zI (j : Int))), some (.long (zL (zSum (zLo μ j) (zN σ).toNat))), none, some (.int (zI d))] [] (wM ad (z_t K) κ) := by
                                intro N_121
                                induction N_121 with
                                | zero => intro d κ hd hd0 hE4 hL4 hm_121; exact absurd hm_121 (Nat.not_lt_zero _)
                                | succ N_121 ih_121 =>
                                  intro d κ hd hd0 hE4 hL4 hm_121
                                  have hEk : zE κ σ [9, 62, 63] := zE_tr (zE_mo hE4 (by decide)) hE
                                  have e60 : κ 60 = σ 60 := hEk 60 (by decide)
                                  have e9 : κ 9 = μ 9 := hE4 9 (by decide)
                                  have eY4 : ∀ x, zLy κ j x = zLy μ j x := fun x => zLy_E hE4 (by decide) (by decide) (by decide) (by decide) (by decide) (by decide) j x
                                  have hyd := hyb d
                                  have h9j2 := h9j (by omega)
                                  have hmu0 := Int.mul_nonneg (show 0 ≤ 1000 * μ 9 j by omega) hyd.1
                                  have hmu1 : 1000 * μ 9 j * zLy μ j d ≤ 1000000000 * 9 := Int.mul_le_mul (by omega) hyd.2 hyd.1 (by omega)
                                  have hw4 := zHw_E hEk (by decide) (by decide) (by decide) hw
                                  have hs4 : 0 ≤ κ 3 0 ∧ κ 3 0 ≤ 9 := by rw [hEk 3 (by decide)]; exact hs
                                  have h44 := zBo_E hEk (by decide) h4
                                  have h54 := zBo_E hEk (by decide) h5
                                  have h64 := zBo_E hEk (by decide) h6
                                  have eN4 : zN κ = zN σ := zN_E hEk (by decide) (by decide) (by decide)
                                  refine z_iload C (z_d dtX8_lead_1 31 rfl) rfl ?_
                                  refine z_aload_n C (z_d dtX8_lead_1 32 rfl) rfl ?_
                                  refine gf_X8_83 C (z_d dtX8_lead_1 33 rfl) ?_
                                  try simp (decide := true) only [zS_s, zS_o, zC, e60, e9, zU_s]
                                  refine z_icmp_ge (tgt := 176) C (z_d dtX8_lead_1 34 rfl) (by decide) (by omega) (fun h_127 => ?_) (fun h_127 => ?_)
                                  · refine z_iinc3 C (z_d dtX8_lead_2 23 rfl) rfl ?_
                                    refine z_goto (tgt := 45) C (z_d dtX8_lead_2 24 rfl) (by decide) ?_
                                    refine z_drop4 ?_
                                    refine z_drop6 ?_
                                    exact ih_45 (j + 1) _ _ (by omega) hE4 (fun x a b => by
                                            rw [zLr, eN]
                                            by_cases hz : zSum (zLo μ j) (zN σ).toNat = 0
                                            · rw [if_pos hz]
                                              have q := (hL4 x a b).1 (by have := hd0 hz; omega)
                                              rw [if_pos hz] at q
                                              exact q
                                            · rw [if_neg hz]
                                              exact (hL4 x a b).2 (by omega)) (by omega)
                                  · refine z_lload C (z_d dtX8_lead_1 35 rfl) rfl ?_
                                    refine z_lconst C (x := 0) rfl (z_d dtX8_lead_1 36 rfl) ?_
                                    refine z_lcmpP C (z_d dtX8_lead_1 37 rfl) (by omega) (fun m_133 h_133 => ?_)
                                    refine z_if_le (tgt := 176) C (z_d dtX8_lead_1 38 rfl) (by decide) (by omega) (fun h_134 => ?_) (fun h_134 => ?_)
                                    · refine z_iinc3 C (z_d dtX8_lead_2 23 rfl) rfl ?_
                                      refine z_goto (tgt := 45) C (z_d dtX8_lead_2 24 rfl) (by decide) ?_
                                      refine z_drop4 ?_
                                      refine z_drop6 ?_
                                      exact ih_45 (j + 1) _ _ (by omega) hE4 (fun x a b => by
                                              rw [zLr, eN]
                                              by_cases hz : zSum (zLo μ j) (zN σ).toNat = 0
                                              · rw [if_pos hz]
                                                have q := (hL4 x a b).1 (by have := hd0 hz; omega)
                                                rw [if_pos hz] at q
                                                exact q
                                              · rw [if_neg hz]
                                                exact (hL4 x a b).2 (by omega)) (by omega)
                                    · refine z_aload_n C (z_d dtX8_lead_1 39 rfl) rfl ?_
                                      refine gf_X8_39 C (z_d dtX8_lead_2 0 rfl) ?_
                                      refine z_iload C (z_d dtX8_lead_2 1 rfl) rfl ?_
                                      refine z_dup2 C (z_d dtX8_lead_2 2 rfl) rfl rfl ?_
                                      refine al_M9 C (z_d dtX8_lead_2 3 rfl) (by omega) ?_
                                      try simp (decide := true) only [zS_s, zS_o, zC, e60, e9, zU_s]
                                      refine z_ldc2 C gk_RX8_169 (z_d dtX8_lead_2 4 rfl) ?_
                                      refine z_aload_n C (z_d dtX8_lead_2 5 rfl) rfl ?_
                                      refine gf_X8_30 C (z_d dtX8_lead_2 6 rfl) ?_
                                      refine z_iload_n C (z_d dtX8_lead_2 7 rfl) rfl ?_
                                      refine al_M6 C (z_d dtX8_lead_2 8 rfl) (by omega) ?_
                                      try simp (decide := true) only [zS_s, zS_o, zC, e60, e9, zU_s]
                                      refine z_i2l C (z_d dtX8_lead_2 9 rfl) (by omega) ?_
                                      refine z_lmul C (z_d dtX8_lead_2 10 rfl) ?_
                                      refine z_aload_n C (z_d dtX8_lead_2 11 rfl) rfl ?_
                                      refine z_iload_n C (z_d dtX8_lead_2 12 rfl) rfl ?_
                                      refine z_iload C (z_d dtX8_lead_2 13 rfl) rfl ?_
                                      refine z_callV C (z_d dtX8_lead_2 14 rfl) (k_X8_likely  hw4 (by omega) (by omega) h44 h54 h64 hs4) cal_X8_likely gw_13_20 rfl 0 8 rfl rfl rfl rfl hR ⟨rfl, rfl, rfl, rfl⟩ rfl (fun r_160 w_160 h_160 => ?_)
                                      obtain ⟨rfl, rfl⟩ := h_160
                                      rw [eY4]
                                      refine z_i2l C (z_d dtX8_lead_2 15 rfl) (by omega) ?_
                                      refine z_lmul C (z_d dtX8_lead_2 16 rfl) ?_
                                      refine z_lload C (z_d dtX8_lead_2 17 rfl) rfl ?_
                                      refine z_ldiv C (z_d dtX8_lead_2 18 rfl) (by omega) ?_
                                      refine z_ladd C (z_d dtX8_lead_2 19 rfl) ?_
                                      refine as_M9 C (z_d dtX8_lead_2 20 rfl) (by omega) ?_
                                      refine z_iinc6 C (z_d dtX8_lead_2 21 rfl) rfl ?_
                                      refine z_goto (tgt := 121) C (z_d dtX8_lead_2 22 rfl) (by decide) ?_
                                      exact ih_121 _ _ (by omega) (fun q => absurd q (by omega)) (zE_set hE4 (List.mem_singleton.mpr rfl)) (fun x a b => by
                                                rw [zS_s]
                                                constructor
                                                · intro q
                                                  rw [zU_n (by omega)]
                                                  exact (hL4 x a b).1 (by omega)
                                                · intro q
                                                  by_cases e : x = d
                                                  · subst e
                                                    rw [zU_s, (hL4 x a b).1 (by omega), if_neg (by omega)]
                                                    rfl
                                                  · rw [zU_n e]
                                                    exact (hL4 x a b).2 (by omega)) (by omega)
                              refine lp_121 _ _ _ ?_ ?_ ?_ ?_ (Nat.lt_succ_self _)
                              · exact (by omega)
                              · exact (fun _ => rfl)
                              · exact (zE_set hE3 (List.mem_singleton.mpr rfl))
                              · exact (fun x a b => ⟨fun _ => by
                                        rw [zS_s]
                                        unfold zU
                                        first
                                          | (rw [if_pos (show zSum (zLo μ j) (zN σ).toNat = 0 by omega), hL3 j (by omega) (by omega), hL3 x a b])
                                          | (rw [if_neg (show ¬ zSum (zLo μ j) (zN σ).toNat = 0 by omega)]
                                             split
                                             · rename_i e; (rw [e, hL3 j (by omega) (by omega)]) <;> omega
                                             · exact hL3 x a b), fun q => absurd q (by omega)⟩)
                            · refine z_ldc2 C gk_RX8_169 (z_d dtX8_lead_1 18 rfl) ?_
                              refine z_aload_n C (z_d dtX8_lead_1 19 rfl) rfl ?_
                              refine gf_X8_30 C (z_d dtX8_lead_1 20 rfl) ?_
                              refine z_iload_n C (z_d dtX8_lead_1 21 rfl) rfl ?_
                              refine al_M6 C (z_d dtX8_lead_1 22 rfl) (by omega) ?_
                              try simp (decide := true) only [zS_s, zS_o, zC, e60, e9, zU_s]
                              refine z_i2l C (z_d dtX8_lead_1 23 rfl) (by omega) ?_
                              refine z_lmul C (z_d dtX8_lead_1 24 rfl) ?_
                              refine z_goto (tgt := 116) C (z_d dtX8_lead_1 25 rfl) (by decide) ?_
                              refine z_ladd C (z_d dtX8_lead_1 27 rfl) ?_
                              refine as_M9 C (z_d dtX8_lead_1 28 rfl) (by omega) ?_
                              refine z_iconst C (z_d dtX8_lead_1 29 rfl) ?_
                              refine z_istore6 C (z_d dtX8_lead_1 30 rfl) rfl ?_
                              obtain rfl : s = zSum (zLo μ j) (zN σ).toNat := by rw [hs2, show m = (zN σ).toNat by omega]
                              have lp_121 : ∀ (N_121 : Nat) (d : Int) (κ : zMem), (0 ≤ d ∧ d ≤ zN σ) → (zSum (zLo μ j) (zN σ).toNat = 0 → d = 0) → (zE κ μ [62]) → (∀ x : Int, 0 ≤ x → x < zN σ → ((d ≤ x → κ 62 x = (if zSum (zLo μ j) (zN σ).toNat = 0 then zU (zLr μ j) j (zLr μ j j + 1000 * μ 9 j) x else zLr μ j x)) ∧ (x < d → κ 62 x = zLt μ j (zSum (zLo μ j) (zN σ).toNat) (zLr μ j) x))) → (zN σ - d).toNat < N_121 → Gd K 0 0 121 [some (.ref (ad 0)), some (.int (zI n)), some (.int (zI (i : Int))), some (.int (zI (j : Int))), some (.long (zL (zSum (zLo μ j) (zN σ).toNat))), none, some (.int (zI d))] [] (wM ad (z_t K) κ) := by
                                intro N_121
                                induction N_121 with
                                | zero => intro d κ hd hd0 hE4 hL4 hm_121; exact absurd hm_121 (Nat.not_lt_zero _)
                                | succ N_121 ih_121 =>
                                  intro d κ hd hd0 hE4 hL4 hm_121
                                  have hEk : zE κ σ [9, 62, 63] := zE_tr (zE_mo hE4 (by decide)) hE
                                  have e60 : κ 60 = σ 60 := hEk 60 (by decide)
                                  have e9 : κ 9 = μ 9 := hE4 9 (by decide)
                                  have eY4 : ∀ x, zLy κ j x = zLy μ j x := fun x => zLy_E hE4 (by decide) (by decide) (by decide) (by decide) (by decide) (by decide) j x
                                  have hyd := hyb d
                                  have h9j2 := h9j (by omega)
                                  have hmu0 := Int.mul_nonneg (show 0 ≤ 1000 * μ 9 j by omega) hyd.1
                                  have hmu1 : 1000 * μ 9 j * zLy μ j d ≤ 1000000000 * 9 := Int.mul_le_mul (by omega) hyd.2 hyd.1 (by omega)
                                  have hw4 := zHw_E hEk (by decide) (by decide) (by decide) hw
                                  have hs4 : 0 ≤ κ 3 0 ∧ κ 3 0 ≤ 9 := by rw [hEk 3 (by decide)]; exact hs
                                  have h44 := zBo_E hEk (by decide) h4
                                  have h54 := zBo_E hEk (by decide) h5
                                  have h64 := zBo_E hEk (by decide) h6
                                  have eN4 : zN κ = zN σ := zN_E hEk (by decide) (by decide) (by decide)
                                  refine z_iload C (z_d dtX8_lead_1 31 rfl) rfl ?_
                                  refine z_aload_n C (z_d dtX8_lead_1 32 rfl) rfl ?_
                                  refine gf_X8_83 C (z_d dtX8_lead_1 33 rfl) ?_
                                  try simp (decide := true) only [zS_s, zS_o, zC, e60, e9, zU_s]
                                  refine z_icmp_ge (tgt := 176) C (z_d dtX8_lead_1 34 rfl) (by decide) (by omega) (fun h_127 => ?_) (fun h_127 => ?_)
                                  · refine z_iinc3 C (z_d dtX8_lead_2 23 rfl) rfl ?_
                                    refine z_goto (tgt := 45) C (z_d dtX8_lead_2 24 rfl) (by decide) ?_
                                    refine z_drop4 ?_
                                    refine z_drop6 ?_
                                    exact ih_45 (j + 1) _ _ (by omega) hE4 (fun x a b => by
                                            rw [zLr, eN]
                                            by_cases hz : zSum (zLo μ j) (zN σ).toNat = 0
                                            · rw [if_pos hz]
                                              have q := (hL4 x a b).1 (by have := hd0 hz; omega)
                                              rw [if_pos hz] at q
                                              exact q
                                            · rw [if_neg hz]
                                              exact (hL4 x a b).2 (by omega)) (by omega)
                                  · refine z_lload C (z_d dtX8_lead_1 35 rfl) rfl ?_
                                    refine z_lconst C (x := 0) rfl (z_d dtX8_lead_1 36 rfl) ?_
                                    refine z_lcmpP C (z_d dtX8_lead_1 37 rfl) (by omega) (fun m_133 h_133 => ?_)
                                    refine z_if_le (tgt := 176) C (z_d dtX8_lead_1 38 rfl) (by decide) (by omega) (fun h_134 => ?_) (fun h_134 => ?_)
                                    · refine z_iinc3 C (z_d dtX8_lead_2 23 rfl) rfl ?_
                                      refine z_goto (tgt := 45) C (z_d dtX8_lead_2 24 rfl) (by decide) ?_
                                      refine z_drop4 ?_
                                      refine z_drop6 ?_
                                      exact ih_45 (j + 1) _ _ (by omega) hE4 (fun x a b => by
                                              rw [zLr, eN]
                                              by_cases hz : zSum (zLo μ j) (zN σ).toNat = 0
                                              · rw [if_pos hz]
                                                have q := (hL4 x a b).1 (by have := hd0 hz; omega)
                                                rw [if_pos hz] at q
                                                exact q
                                              · rw [if_neg hz]
                                                exact (hL4 x a b).2 (by omega)) (by omega)
                                    · refine z_aload_n C (z_d dtX8_lead_1 39 rfl) rfl ?_
                                      refine gf_X8_39 C (z_d dtX8_lead_2 0 rfl) ?_
                                      refine z_iload C (z_d dtX8_lead_2 1 rfl) rfl ?_
                                      refine z_dup2 C (z_d dtX8_lead_2 2 rfl) rfl rfl ?_
                                      refine al_M9 C (z_d dtX8_lead_2 3 rfl) (by omega) ?_
                                      try simp (decide := true) only [zS_s, zS_o, zC, e60, e9, zU_s]
                                      refine z_ldc2 C gk_RX8_169 (z_d dtX8_lead_2 4 rfl) ?_
                                      refine z_aload_n C (z_d dtX8_lead_2 5 rfl) rfl ?_
                                      refine gf_X8_30 C (z_d dtX8_lead_2 6 rfl) ?_
                                      refine z_iload_n C (z_d dtX8_lead_2 7 rfl) rfl ?_
                                      refine al_M6 C (z_d dtX8_lead_2 8 rfl) (by omega) ?_
                                      try simp (decide := true) only [zS_s, zS_o, zC, e60, e9, zU_s]
                                      refine z_i2l C (z_d dtX8_lead_2 9 rfl) (by omega) ?_
                                      refine z_lmul C (z_d dtX8_lead_2 10 rfl) ?_
                                      refine z_aload_n C (z_d dtX8_lead_2 11 rfl) rfl ?_
                                      refine z_iload_n C (z_d dtX8_lead_2 12 rfl) rfl ?_
                                      refine z_iload C (z_d dtX8_lead_2 13 rfl) rfl ?_
                                      refine z_callV C (z_d dtX8_lead_2 14 rfl) (k_X8_likely  hw4 (by omega) (by omega) h44 h54 h64 hs4) cal_X8_likely gw_13_20 rfl 0 8 rfl rfl rfl rfl hR ⟨rfl, rfl, rfl, rfl⟩ rfl (fun r_160 w_160 h_160 => ?_)
                                      obtain ⟨rfl, rfl⟩ := h_160
                                      rw [eY4]
                                      refine z_i2l C (z_d dtX8_lead_2 15 rfl) (by omega) ?_
                                      refine z_lmul C (z_d dtX8_lead_2 16 rfl) ?_
                                      refine z_lload C (z_d dtX8_lead_2 17 rfl) rfl ?_
                                      refine z_ldiv C (z_d dtX8_lead_2 18 rfl) (by omega) ?_
                                      refine z_ladd C (z_d dtX8_lead_2 19 rfl) ?_
                                      refine as_M9 C (z_d dtX8_lead_2 20 rfl) (by omega) ?_
                                      refine z_iinc6 C (z_d dtX8_lead_2 21 rfl) rfl ?_
                                      refine z_goto (tgt := 121) C (z_d dtX8_lead_2 22 rfl) (by decide) ?_
                                      exact ih_121 _ _ (by omega) (fun q => absurd q (by omega)) (zE_set hE4 (List.mem_singleton.mpr rfl)) (fun x a b => by
                                                rw [zS_s]
                                                constructor
                                                · intro q
                                                  rw [zU_n (by omega)]
                                                  exact (hL4 x a b).1 (by omega)
                                                · intro q
                                                  by_cases e : x = d
                                                  · subst e
                                                    rw [zU_s, (hL4 x a b).1 (by omega), if_neg (by omega)]
                                                    rfl
                                                  · rw [zU_n e]
                                                    exact (hL4 x a b).2 (by omega)) (by omega)
                              refine lp_121 _ _ _ ?_ ?_ ?_ ?_ (Nat.lt_succ_self _)
                              · exact (by omega)
                              · exact (fun _ => rfl)
                              · exact (zE_set hE3 (List.mem_singleton.mpr rfl))
                              · exact (fun x a b => ⟨fun _ => by
                                        rw [zS_s]
                                        unfold zU
                                        first
                                          | (rw [if_pos (show zSum (zLo μ j) (zN σ).toNat = 0 by omega), hL3 j (by omega) (by omega), hL3 x a b])
                                          | (rw [if_neg (show ¬ zSum (zLo μ j) (zN σ).toNat = 0 by omega)]
                                             split
                                             · rename_i e; (rw [e, hL3 j (by omega) (by omega)]) <;> omega
                                             · exact hL3 x a b), fun q => absurd q (by omega)⟩)
                          · refine z_lload C (z_d dtX8_lead_0 39 rfl) rfl ?_
                            refine z_aload_n C (z_d dtX8_lead_1 0 rfl) rfl ?_
                            refine z_iload_n C (z_d dtX8_lead_1 1 rfl) rfl ?_
                            refine z_iload C (z_d dtX8_lead_1 2 rfl) rfl ?_
                            refine z_callV C (z_d dtX8_lead_1 3 rfl) (k_X8_likely  hw3 (by omega) (by omega) h43 h53 h63 hs3) cal_X8_likely gw_13_20 rfl 0 8 rfl rfl rfl rfl hR ⟨rfl, rfl, rfl, rfl⟩ rfl (fun r_74 w_74 h_74 => ?_)
                            obtain ⟨rfl, rfl⟩ := h_74
                            rw [eY]
                            refine z_i2l C (z_d dtX8_lead_1 4 rfl) (by omega) ?_
                            refine z_ladd C (z_d dtX8_lead_1 5 rfl) ?_
                            refine z_lstore4 C (z_d dtX8_lead_1 6 rfl) rfl ?_
                            refine z_iinc6 C (z_d dtX8_lead_1 7 rfl) rfl ?_
                            refine z_goto (tgt := 59) C (z_d dtX8_lead_1 8 rfl) (by decide) ?_
                            exact ih_59 (m + 1) _ _ (by omega) (by rw [zSum, hs2]; rfl) (by omega)
                      exact lp_59 _ 0 _ _ (by omega) rfl (Nat.lt_succ_self _)
                exact lp_45 _ 0 _ _ (by omega) hE2 (fun d a b => hz2 d a (by omega)) (Nat.lt_succ_self _)
              · refine z_aload_n C (z_d dtX8_lead_0 18 rfl) rfl ?_
                refine gf_X8_39 C (z_d dtX8_lead_0 19 rfl) ?_
                refine z_iload_n C (z_d dtX8_lead_0 20 rfl) rfl ?_
                refine z_lconst C (x := 0) rfl (z_d dtX8_lead_0 21 rfl) ?_
                refine as_M9 C (z_d dtX8_lead_0 22 rfl) (by omega) ?_
                refine z_iinc3 C (z_d dtX8_lead_0 23 rfl) rfl ?_
                refine z_goto (tgt := 22) C (z_d dtX8_lead_0 24 rfl) (by decide) ?_
                exact ih_22 _ _ (by omega) (zE_set hE2 (by decide)) (fun j a b => by
                        rw [zS_s]
                        by_cases e : j = c
                        · subst e; rw [zU_s]
                        · rw [zU_n e]; exact hz2 j a (by omega)) (by omega)
          exact lp_22 _ _ _ (by omega) zE_rf (fun j a b => absurd b (by omega)) (Nat.lt_succ_self _)
    exact lp_15 _ 0 _ _ (by omega) zE_rf (fun c _ _ => rfl) (Nat.lt_succ_self _)
  · refine z_bipush C (z_d dtX8_lead_0 5 rfl) zb_m2 ?_
    exact ret _ _ _ _ (z_d dtX8_lead_0 6 rfl) (⟨σ, rfl, Or.inl ⟨by omega, rfl, rfl⟩⟩) rfl
