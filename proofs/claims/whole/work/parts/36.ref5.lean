/-! THE REFERENCE: giving, counting, digest, building -/
def zWs (σ : zMem) (f x0 x1 y0 y1 : Int) (n : Int) : Prop := ∃ j : Int, (0 ≤ j ∧ j < n) ∧ zPr σ j f x0 x1 y0 y1 (zN σ).toNat = 0
def zNs (σ : zMem) (f x0 x1 y0 y1 : Int) (n : Int) : Prop := ∃ j : Int, (0 ≤ j ∧ j < n) ∧ 0 < zPr σ j f x0 x1 y0 y1 (zN σ).toNat ∧ zPr σ j f x0 x1 y0 y1 (zN σ).toNat < σ 11 0
theorem zWs_0 (σ : zMem) (f x0 x1 y0 y1 : Int) {n : Int} (h : n ≤ 0) : ¬ zWs σ f x0 x1 y0 y1 n := fun ⟨j, a, _⟩ => by omega
theorem zNs_0 (σ : zMem) (f x0 x1 y0 y1 : Int) {n : Int} (h : n ≤ 0) : ¬ zNs σ f x0 x1 y0 y1 n := fun ⟨j, a, _⟩ => by omega
theorem zWs_1 {σ : zMem} {f x0 x1 y0 y1 n : Int} (h0 : 0 ≤ n) (h : zPr σ n f x0 x1 y0 y1 (zN σ).toNat = 0) : zWs σ f x0 x1 y0 y1 (n + 1) := ⟨n, by omega, h⟩
theorem zWs_2 {σ : zMem} {f x0 x1 y0 y1 n : Int} (h : zWs σ f x0 x1 y0 y1 n) : zWs σ f x0 x1 y0 y1 (n + 1) := by
  obtain ⟨j, a, b⟩ := h
  exact ⟨j, by omega, b⟩
theorem zWs_3 {σ : zMem} {f x0 x1 y0 y1 n : Int} (h : ¬ zWs σ f x0 x1 y0 y1 n) (h2 : ¬ zPr σ n f x0 x1 y0 y1 (zN σ).toNat = 0) : ¬ zWs σ f x0 x1 y0 y1 (n + 1) := fun ⟨j, a, b⟩ => by
  by_cases e : j = n
  · subst e; exact h2 b
  · exact h ⟨j, by omega, b⟩
theorem zNs_1 {σ : zMem} {f x0 x1 y0 y1 n m : Int} (h0 : 0 ≤ n ∧ n < m) (h : 0 < zPr σ n f x0 x1 y0 y1 (zN σ).toNat ∧ zPr σ n f x0 x1 y0 y1 (zN σ).toNat < σ 11 0) : zNs σ f x0 x1 y0 y1 m := ⟨n, h0, h⟩
theorem zNs_3 {σ : zMem} {f x0 x1 y0 y1 n : Int} (h : ¬ zNs σ f x0 x1 y0 y1 n) (h2 : ¬ (0 < zPr σ n f x0 x1 y0 y1 (zN σ).toNat ∧ zPr σ n f x0 x1 y0 y1 (zN σ).toNat < σ 11 0)) : ¬ zNs σ f x0 x1 y0 y1 (n + 1) := fun ⟨j, a, b⟩ => by
  by_cases e : j = n
  · subst e; exact h2 b
  · exact h ⟨j, by omega, b⟩
theorem z_and01 {D E : Int} (hD : D = 0 ∨ D = 1) (hE : E = 0 ∨ E = 1) : zI D &&& zI E = zI (D * E) := by
  rcases hD with rfl | rfl <;> rcases hE with rfl | rfl <;> decide +kernel
def zGv (σ : zMem) (f x0 x1 y0 y1 : Int) : Int → Int := zU (zU (zU (zU (zU (σ 13) (5 * σ 12 0) f) (5 * σ 12 0 + 1) x0) (5 * σ 12 0 + 2) x1) (5 * σ 12 0 + 3) y0) (5 * σ 12 0 + 4) y1
def zDp (F : Int → Int) : Nat → Int
  | 0 => 0
  | k + 1 => zDp F k + if F k = 0 then 0 else z_p2 k
theorem zDp_8 {F : Int → Int} (h : ∀ i, F i = 0 ∨ F i = 1) : zDp F 8 = zDb F := by
  have s : ∀ k : Nat, zDp F (k + 1) = zDp F k + F k * z_p2 k := fun k => by
    rw [zDp]
    rcases h k with e | e
    · rw [if_pos e, e]; omega
    · rw [if_neg (by omega), e]; omega
  have e0 := s 0; have e1 := s 1; have e2 := s 2; have e3 := s 3; have e4 := s 4; have e5 := s 5; have e6 := s 6; have e7 := s 7
  have z : zDp F 0 = 0 := rfl
  have p : z_p2 ((0 : Nat) : Int) = 1 ∧ z_p2 ((1 : Nat) : Int) = 2 ∧ z_p2 ((2 : Nat) : Int) = 4 ∧ z_p2 ((3 : Nat) : Int) = 8 ∧ z_p2 ((4 : Nat) : Int) = 16 ∧ z_p2 ((5 : Nat) : Int) = 32 ∧ z_p2 ((6 : Nat) : Int) = 64 ∧ z_p2 ((7 : Nat) : Int) = 128 := by decide +kernel
  rw [p.1] at e0; rw [p.2.1] at e1; rw [p.2.2.1] at e2; rw [p.2.2.2.1] at e3; rw [p.2.2.2.2.1] at e4; rw [p.2.2.2.2.2.1] at e5; rw [p.2.2.2.2.2.2.1] at e6; rw [p.2.2.2.2.2.2.2] at e7
  have c : zDb F = F 0 + 2 * F 1 + 4 * F 2 + 8 * F 3 + 16 * F 4 + 32 * F 5 + 64 * F 6 + 128 * F 7 := rfl
  rw [c]
  simp only [Nat.reduceAdd, Int.natCast_zero, Int.natCast_one, Int.cast_ofNat_Int] at e0 e1 e2 e3 e4 e5 e6 e7
  omega
theorem zCt_m {σ : zMem} (ok : okM σ) (k : Int) (h6 : k ≠ 6) : -2147483648 ≤ zCt σ k ∧ zCt σ k < 2147483648 := by
  obtain ⟨⟨a1, h60, a2, a4, a5, a6, b1⟩, c, d, e, ⟨f1, f2, f4⟩, g, i⟩ := ok
  have w : 0 * ((zN σ).toNat : Int) ≤ zWc σ ∧ zWc σ ≤ 2 * ((zN σ).toNat : Int) := zSum_b _ (fun c _ _ => by have := a4 c; have := a5 c; (try dsimp only); omega)
  have l : 0 * ((36 : Nat) : Int) ≤ zLc σ ∧ zLc σ ≤ 1 * ((36 : Nat) : Int) := zSum_b _ (fun c _ _ => by have := a6 c; omega)
  have hN := zHw_N a1
  have hd := zDb_b b1
  have hso := zSo_b (σ 10) 20
  unfold zHw at a1
  unfold zCt
  repeat (split; omega)
  omega

set_option maxRecDepth 100000 in
set_option maxHeartbeats 4000000 in
theorem k_X8_parts {l : Launch} {D : va_G} {t : Nat → ClassId} {ad : Nat → Nat} {σ : zMem} {k f x0 x1 y0 y1 : Int} (ok : okM σ) (hk : 0 ≤ k ∧ k < σ 12 0) (hf : -2147483648 ≤ f ∧ f < 2147483648) (hx0 : -2147483648 ≤ x0 ∧ x0 < 2147483648) (hx1 : -2147483648 ≤ x1 ∧ x1 < 2147483648) (hy0 : -2147483648 ≤ y0 ∧ y0 < 2147483648) (hy1 : -2147483648 ≤ y1 ∧ y1 < 2147483648) : z_Ci l D t yX8_parts cX8_parts 11 .int 2 48 0 0 [.ref (ad 0), .int (zI k), .int (zI f), .int (zI x0), .int (zI x1), .int (zI y0), .int (zI y1)] (wM ad t σ) (fun r w => w = wM ad t σ ∧ r = zPr σ k f x0 x1 y0 y1 (zN σ).toNat) := by
  refine z_Ci_of (by decide +kernel) [some (.ref (ad 0)), some (.int (zI k)), some (.int (zI f)), some (.int (zI x0)), some (.int (zI x1)), some (.int (zI y0)), some (.int (zI y1)), none, none, none, none] rfl rfl (Nat.le_of_ble_eq_true rfl) fun K hl hD ht hR hnm C ret => ?_
  subst hl; subst hD; subst ht
  have ok2 := ok
  obtain ⟨⟨hw, h60, hs, h4, h5, h6, h7⟩, hmp, ⟨h9, hsum⟩, oW1, ⟨hle, hgi, hga⟩, oT1, ⟨h16, h17, h18, hit⟩⟩ := ok2
  have hN := zHw_N hw
  have hW := hw; unfold zHw at hW
  have hwh := zHw_wh hw
  have hn : σ 60 0 = ((zN σ).toNat : Int) ∧ 1 ≤ (zN σ).toNat ∧ (zN σ).toNat ≤ 72 := by omega
  have h9n : ∀ c : Int, 0 ≤ c → c < ((zN σ).toNat : Int) → 0 ≤ σ 9 c ∧ σ 9 c ≤ 1000000 := fun c a b => h9 c a (by omega)
  have hgk := hga k hk.1 hk.2
  unfold zIsA at hgk
  refine z_iconst C (z_d dtX8_parts_0 0 rfl) ?_
  refine z_istore7 C (z_d dtX8_parts_0 1 rfl) rfl ?_
  refine z_iconst C (z_d dtX8_parts_0 2 rfl) ?_
  refine z_istore8 C (z_d dtX8_parts_0 3 rfl) rfl ?_
  have lp_6 : ∀ (N_6 : Nat) (i : Nat) (c s : Int), (c = i ∧ i ≤ (zN σ).toNat) → (s = zPr σ k f x0 x1 y0 y1 i) → (zN σ).toNat - i < N_6 → Gd K 0 0 6 [some (.ref (ad 0)), some (.int (zI k)), some (.int (zI f)), some (.int (zI x0)), some (.int (zI x1)), some (.int (zI y0)), some (.int (zI y1)), some (.int (zI s)), some (.int (zI c)), none, none] [] (wM ad (z_t K) σ) := by
    intro N_6
    induction N_6 with
    | zero => intro i c s hi hs2 hm_6; exact absurd hm_6 (Nat.not_lt_zero _)
    | succ N_6 ih_6 =>
      intro i c s hi hs2 hm_6
      obtain ⟨rfl, hi⟩ := hi
      refine z_iload C (z_d dtX8_parts_0 4 rfl) rfl ?_
      refine z_aload_n C (z_d dtX8_parts_0 5 rfl) rfl ?_
      refine gf_X8_83 C (z_d dtX8_parts_0 6 rfl) ?_
      refine z_icmp_ge (tgt := 110) C (z_d dtX8_parts_0 7 rfl) (by decide) (by omega) (fun h_12 => ?_) (fun h_12 => ?_)
      · refine z_iload C (z_d dtX8_parts_1 30 rfl) rfl ?_
        exact ret _ _ _ _ (z_d dtX8_parts_1 31 rfl) (⟨rfl, by rw [hs2, show i = (zN σ).toNat by omega]⟩) rfl
      · refine z_aload_n C (z_d dtX8_parts_0 8 rfl) rfl ?_
        refine z_iload C (z_d dtX8_parts_0 9 rfl) rfl ?_
        refine z_iload_n C (z_d dtX8_parts_0 10 rfl) rfl ?_
        refine z_iload_n C (z_d dtX8_parts_0 11 rfl) rfl ?_
        refine z_iload C (z_d dtX8_parts_0 12 rfl) rfl ?_
        refine z_iload C (z_d dtX8_parts_0 13 rfl) rfl ?_
        refine z_iload C (z_d dtX8_parts_0 14 rfl) rfl ?_
        refine z_callV C (z_d dtX8_parts_0 15 rfl) (k_X8_isWithin  (by first | assumption | omega) (by omega) (by first | assumption | omega) (by first | assumption | omega) (by first | assumption | omega) (by first | assumption | omega) (by first | assumption | omega)) cal_X8_isWithin gw_24_20 rfl 0 8 rfl rfl rfl rfl hR ⟨rfl, rfl, rfl, rfl⟩ rfl (fun r_26 w_26 h_26 => ?_)
        obtain ⟨rfl, h_26⟩ := h_26
        refine z_istore9 C (z_d dtX8_parts_0 16 rfl) rfl ?_
        refine z_aload_n C (z_d dtX8_parts_0 17 rfl) rfl ?_
        refine z_iload C (z_d dtX8_parts_0 18 rfl) rfl ?_
        refine z_aload_n C (z_d dtX8_parts_0 19 rfl) rfl ?_
        refine gf_X8_61 C (z_d dtX8_parts_0 20 rfl) ?_
        refine z_iconst C (z_d dtX8_parts_0 21 rfl) ?_
        refine z_iload_n C (z_d dtX8_parts_0 22 rfl) rfl ?_
        refine z_imul C (z_d dtX8_parts_0 23 rfl) ?_
        refine al_M15 C (z_d dtX8_parts_0 24 rfl) (by omega) ?_
        refine z_aload_n C (z_d dtX8_parts_0 25 rfl) rfl ?_
        refine gf_X8_61 C (z_d dtX8_parts_0 26 rfl) ?_
        refine z_iconst C (z_d dtX8_parts_0 27 rfl) ?_
        refine z_iload_n C (z_d dtX8_parts_0 28 rfl) rfl ?_
        refine z_imul C (z_d dtX8_parts_0 29 rfl) ?_
        refine z_iconst C (z_d dtX8_parts_0 30 rfl) ?_
        refine z_iadd C (z_d dtX8_parts_0 31 rfl) ?_
        refine al_M15 C (z_d dtX8_parts_0 32 rfl) (by omega) ?_
        refine z_aload_n C (z_d dtX8_parts_0 33 rfl) rfl ?_
        refine gf_X8_61 C (z_d dtX8_parts_0 34 rfl) ?_
        refine z_iconst C (z_d dtX8_parts_0 35 rfl) ?_
        refine z_iload_n C (z_d dtX8_parts_0 36 rfl) rfl ?_
        refine z_imul C (z_d dtX8_parts_0 37 rfl) ?_
        refine z_iconst C (z_d dtX8_parts_0 38 rfl) ?_
        refine z_iadd C (z_d dtX8_parts_0 39 rfl) ?_
        refine al_M15 C (z_d dtX8_parts_1 0 rfl) (by omega) ?_
        refine z_aload_n C (z_d dtX8_parts_1 1 rfl) rfl ?_
        refine gf_X8_61 C (z_d dtX8_parts_1 2 rfl) ?_
        refine z_iconst C (z_d dtX8_parts_1 3 rfl) ?_
        refine z_iload_n C (z_d dtX8_parts_1 4 rfl) rfl ?_
        refine z_imul C (z_d dtX8_parts_1 5 rfl) ?_
        refine z_iconst C (z_d dtX8_parts_1 6 rfl) ?_
        refine z_iadd C (z_d dtX8_parts_1 7 rfl) ?_
        refine al_M15 C (z_d dtX8_parts_1 8 rfl) (by omega) ?_
        refine z_aload_n C (z_d dtX8_parts_1 9 rfl) rfl ?_
        refine gf_X8_61 C (z_d dtX8_parts_1 10 rfl) ?_
        refine z_iconst C (z_d dtX8_parts_1 11 rfl) ?_
        refine z_iload_n C (z_d dtX8_parts_1 12 rfl) rfl ?_
        refine z_imul C (z_d dtX8_parts_1 13 rfl) ?_
        refine z_iconst C (z_d dtX8_parts_1 14 rfl) ?_
        refine z_iadd C (z_d dtX8_parts_1 15 rfl) ?_
        refine al_M15 C (z_d dtX8_parts_1 16 rfl) (by omega) ?_
        refine z_callV C (z_d dtX8_parts_1 17 rfl) (k_X8_isWithin  (by first | assumption | omega) (by omega) (by omega) (by omega) (by omega) (by omega) (by omega)) cal_X8_isWithin gw_24_20 rfl 0 8 rfl rfl rfl rfl hR ⟨rfl, rfl, rfl, rfl⟩ rfl (fun r_82 w_82 h_82 => ?_)
        obtain ⟨rfl, h_82⟩ := h_82
        refine z_istore10 C (z_d dtX8_parts_1 18 rfl) rfl ?_
        refine z_iload C (z_d dtX8_parts_1 19 rfl) rfl ?_
        refine z_iload C (z_d dtX8_parts_1 20 rfl) rfl ?_
        refine z_iload C (z_d dtX8_parts_1 21 rfl) rfl ?_
        refine z_icmp_ne (tgt := 100) C (z_d dtX8_parts_1 22 rfl) (by decide) (by omega) (fun h_93 => ?_) (fun h_93 => ?_)
        · refine z_iconst C (z_d dtX8_parts_1 25 rfl) ?_
          refine z_iadd C (z_d dtX8_parts_1 26 rfl) ?_
          refine z_istore7 C (z_d dtX8_parts_1 27 rfl) rfl ?_
          refine z_iinc8 C (z_d dtX8_parts_1 28 rfl) rfl ?_
          refine z_goto (tgt := 6) C (z_d dtX8_parts_1 29 rfl) (by decide) ?_
          refine z_drop9 ?_
          refine z_drop10 ?_
          exact ih_6 (i + 1) _ _ (by omega) (by
                  rw [zPr, hs2]
                  first | rw [if_pos (by omega)] | rw [if_neg (by omega)]) (by omega)
        · refine z_iconst C (z_d dtX8_parts_1 23 rfl) ?_
          refine z_goto (tgt := 101) C (z_d dtX8_parts_1 24 rfl) (by decide) ?_
          refine z_iadd C (z_d dtX8_parts_1 26 rfl) ?_
          refine z_istore7 C (z_d dtX8_parts_1 27 rfl) rfl ?_
          refine z_iinc8 C (z_d dtX8_parts_1 28 rfl) rfl ?_
          refine z_goto (tgt := 6) C (z_d dtX8_parts_1 29 rfl) (by decide) ?_
          refine z_drop9 ?_
          refine z_drop10 ?_
          exact ih_6 (i + 1) _ _ (by omega) (by
                  rw [zPr, hs2]
                  first | rw [if_pos (by omega)] | rw [if_neg (by omega)]) (by omega)
  exact lp_6 _ 0 _ _ (by omega) rfl (Nat.lt_succ_self _)

set_option maxRecDepth 100000 in
set_option maxHeartbeats 4000000 in
theorem k_X8_give {l : Launch} {D : va_G} {t : Nat → ClassId} {ad : Nat → Nat} {σ : zMem} {f x0 x1 y0 y1 : Int} (ok : okM σ) (hf : -2147483648 ≤ f ∧ f < 2147483648) (hx0 : -2147483648 ≤ x0 ∧ x0 < 2147483648) (hx1 : -2147483648 ≤ x1 ∧ x1 < 2147483648) (hy0 : -2147483648 ≤ y0 ∧ y0 < 2147483648) (hy1 : -2147483648 ≤ y1 ∧ y1 < 2147483648) : z_Ci l D t yX8_give cX8_give 9 .int 3 78 0 0 [.ref (ad 0), .int (zI f), .int (zI x0), .int (zI x1), .int (zI y0), .int (zI y1)] (wM ad t σ) (fun r w => ∃ σ', w = wM ad t σ' ∧ ((¬ zIsA σ f x0 x1 y0 y1 ∧ r = -2 ∧ σ' = σ) ∨ (zIsA σ f x0 x1 y0 y1 ∧ (((zNi σ f x0 x1 y0 y1 20 < σ 11 0 ∨ zNs σ f x0 x1 y0 y1 (σ 12 0)) ∧ r = -3 ∧ σ' = σ) ∨ (¬ (zNi σ f x0 x1 y0 y1 20 < σ 11 0 ∨ zNs σ f x0 x1 y0 y1 (σ 12 0)) ∧ ((¬ zWs σ f x0 x1 y0 y1 (σ 12 0) ∧ 30 ≤ σ 12 0 ∧ r = -4 ∧ σ' = σ) ∨ (zWs σ f x0 x1 y0 y1 (σ 12 0) ∧ r = zNi σ f x0 x1 y0 y1 20 - zNi σ f x0 x1 y0 y1 20 % σ 11 0 ∧ σ' = σ) ∨ (¬ zWs σ f x0 x1 y0 y1 (σ 12 0) ∧ σ 12 0 < 30 ∧ r = zNi σ f x0 x1 y0 y1 20 - zNi σ f x0 x1 y0 y1 20 % σ 11 0 ∧ σ' = zS (zS σ 13 (zGv σ f x0 x1 y0 y1)) 12 (zC (σ 12 0 + 1))))))))) := by
  refine z_Ci_of (by decide +kernel) [some (.ref (ad 0)), some (.int (zI f)), some (.int (zI x0)), some (.int (zI x1)), some (.int (zI y0)), some (.int (zI y1)), none, none, none] rfl rfl (Nat.le_of_ble_eq_true rfl) fun K hl hD ht hR hnm C ret => ?_
  subst hl; subst hD; subst ht
  have ok2 := ok
  obtain ⟨⟨hw, h60, hs, h4, h5, h6, h7⟩, hmp, ⟨h9, hsum⟩, oW1, ⟨hle, hgi, hga⟩, oT1, ⟨h16, h17, h18, hit⟩⟩ := ok2
  have hN := zHw_N hw
  have hW := hw; unfold zHw at hW
  have hwh := zHw_wh hw
  have hn : σ 60 0 = ((zN σ).toNat : Int) ∧ 1 ≤ (zN σ).toNat ∧ (zN σ).toNat ≤ 72 := by omega
  have h9n : ∀ c : Int, 0 ≤ c → c < ((zN σ).toNat : Int) → 0 ≤ σ 9 c ∧ σ 9 c ≤ 1000000 := fun c a b => h9 c a (by omega)
  have hnb := zNi_b σ f x0 x1 y0 y1 20
  refine z_aload_n C (z_d dtX8_give_0 0 rfl) rfl ?_
  refine z_iload_n C (z_d dtX8_give_0 1 rfl) rfl ?_
  refine z_iload_n C (z_d dtX8_give_0 2 rfl) rfl ?_
  refine z_iload_n C (z_d dtX8_give_0 3 rfl) rfl ?_
  refine z_iload C (z_d dtX8_give_0 4 rfl) rfl ?_
  refine z_iload C (z_d dtX8_give_0 5 rfl) rfl ?_
  refine z_callV C (z_d dtX8_give_0 6 rfl) (k_X8_isArea  (by first | assumption | omega) (by first | assumption | omega) (by first | assumption | omega) (by first | assumption | omega) (by first | assumption | omega) (by first | assumption | omega)) cal_X8_isArea gw_24_16 rfl 0 8 rfl rfl rfl rfl hR ⟨rfl, rfl, rfl, rfl⟩ rfl (fun r_8 w_8 h_8 => ?_)
  obtain ⟨rfl, h_8⟩ := h_8
  refine z_if_ne (tgt := 17) C (z_d dtX8_give_0 7 rfl) (by decide) (by omega) (fun h_11 => ?_) (fun h_11 => ?_)
  · have hia : zIsA σ f x0 x1 y0 y1 := h_8.elim (fun q => q.2) (fun q => absurd q.1 h_11)
    refine z_iconst C (z_d dtX8_give_0 10 rfl) ?_
    refine z_istore6 C (z_d dtX8_give_0 11 rfl) rfl ?_
    refine z_iconst C (z_d dtX8_give_0 12 rfl) ?_
    refine z_istore7 C (z_d dtX8_give_0 13 rfl) rfl ?_
    have lp_23 : ∀ (N_23 : Nat) (i : Nat) (k nw : Int), (k = i ∧ i ≤ σ 12 0) → (¬ zNs σ f x0 x1 y0 y1 i) → ((nw = 1 ∧ ¬ zWs σ f x0 x1 y0 y1 i) ∨ (nw = 0 ∧ zWs σ f x0 x1 y0 y1 i)) → (σ 12 0 - i).toNat < N_23 → Gd K 0 0 23 [some (.ref (ad 0)), some (.int (zI f)), some (.int (zI x0)), some (.int (zI x1)), some (.int (zI y0)), some (.int (zI y1)), some (.int (zI nw)), some (.int (zI k)), none] [] (wM ad (z_t K) σ) := by
      intro N_23
      induction N_23 with
      | zero => intro i k nw hi hno hnw hm_23; exact absurd hm_23 (Nat.not_lt_zero _)
      | succ N_23 ih_23 =>
        intro i k nw hi hno hnw hm_23
        obtain ⟨rfl, hi⟩ := hi
        have hpb := zPr_b σ i f x0 x1 y0 y1 (zN σ).toNat
        have hnwb : nw = 0 ∨ nw = 1 := hnw.elim (fun q => Or.inr q.1) (fun q => Or.inl q.1)
        refine z_iload C (z_d dtX8_give_0 14 rfl) rfl ?_
        refine z_aload_n C (z_d dtX8_give_0 15 rfl) rfl ?_
        refine gf_X8_99 C (z_d dtX8_give_0 16 rfl) ?_
        try simp (decide := true) only [zS_s, zS_o, zC]
        refine z_icmp_ge (tgt := 86) C (z_d dtX8_give_0 17 rfl) (by decide) (by omega) (fun h_29 => ?_) (fun h_29 => ?_)
        · have ei : (i : Int) = σ 12 0 := by omega
          rw [ei] at hno hnw
          refine z_iconst C (z_d dtX8_give_1 7 rfl) ?_
          refine z_istore7 C (z_d dtX8_give_1 8 rfl) rfl ?_
          refine z_iconst C (z_d dtX8_give_1 9 rfl) ?_
          refine z_istore8 C (z_d dtX8_give_1 10 rfl) rfl ?_
          have lp_92 : ∀ (N_92 : Nat) (i2 : Nat) (k n : Int), (k = i2 ∧ i2 ≤ 20) → (n = zNi σ f x0 x1 y0 y1 i2) → 20 - i2 < N_92 → Gd K 0 0 92 [some (.ref (ad 0)), some (.int (zI f)), some (.int (zI x0)), some (.int (zI x1)), some (.int (zI y0)), some (.int (zI y1)), some (.int (zI nw)), some (.int (zI n)), some (.int (zI k))] [] (wM ad (z_t K) σ) := by
            intro N_92
            induction N_92 with
            | zero => intro i2 k n hi2 hn2 hm_92; exact absurd hm_92 (Nat.not_lt_zero _)
            | succ N_92 ih_92 =>
              intro i2 k n hi2 hn2 hm_92
              obtain ⟨rfl, hi2⟩ := hi2
              have hwk := oW1 i2
              have hnb2 := zNi_b σ f x0 x1 y0 y1 i2
              refine z_iload C (z_d dtX8_give_1 11 rfl) rfl ?_
              refine z_bipush C (z_d dtX8_give_1 12 rfl) zb_20 ?_
              refine z_icmp_ge (tgt := 147) C (z_d dtX8_give_1 13 rfl) (by decide) (by omega) (fun h_96 => ?_) (fun h_96 => ?_)
              · have en : n = zNi σ f x0 x1 y0 y1 20 := by rw [hn2, show i2 = 20 by omega]
                refine z_iload C (z_d dtX8_give_2 0 rfl) rfl ?_
                refine z_aload_n C (z_d dtX8_give_2 1 rfl) rfl ?_
                refine gf_X8_58 C (z_d dtX8_give_2 2 rfl) ?_
                try simp (decide := true) only [zS_s, zS_o, zC]
                refine z_icmp_ge (tgt := 159) C (z_d dtX8_give_2 3 rfl) (by decide) (by omega) (fun h_153 => ?_) (fun h_153 => ?_)
                · have hcase : ¬ (zNi σ f x0 x1 y0 y1 20 < σ 11 0 ∨ zNs σ f x0 x1 y0 y1 (σ 12 0)) := fun q => q.elim (fun a => by omega) hno
                  refine z_iload C (z_d dtX8_give_2 6 rfl) rfl ?_
                  refine z_if_eq (tgt := 176) C (z_d dtX8_give_2 7 rfl) (by decide) (by omega) (fun h_161 => ?_) (fun h_161 => ?_)
                  · refine z_iload C (z_d dtX8_give_2 14 rfl) rfl ?_
                    refine z_if_eq (tgt := 261) C (z_d dtX8_give_2 15 rfl) (by decide) (by omega) (fun h_178 => ?_) (fun h_178 => ?_)
                    · refine z_iload C (z_d dtX8_give_3 30 rfl) rfl ?_
                      refine z_iload C (z_d dtX8_give_3 31 rfl) rfl ?_
                      refine z_aload_n C (z_d dtX8_give_3 32 rfl) rfl ?_
                      refine gf_X8_58 C (z_d dtX8_give_3 33 rfl) ?_
                      try simp (decide := true) only [zS_s, zS_o, zC]
                      refine z_irem C (z_d dtX8_give_3 34 rfl) (by rw [hn2]; omega) ?_
                      refine z_isub C (z_d dtX8_give_3 35 rfl) ?_
                      exact ret _ _ _ _ (z_d dtX8_give_3 36 rfl) (⟨_, rfl, Or.inr ⟨hia, Or.inr ⟨hcase, Or.inr (by
                              rw [en]
                              first
                                | exact Or.inl ⟨(hnw.resolve_left (fun q => by omega)).2, rfl, rfl⟩
                                | exact Or.inr ⟨(hnw.resolve_right (fun q => by omega)).2, by omega, rfl, by unfold zGv; simp only [zS_zS, zS_s]⟩)⟩⟩⟩) rfl
                    · refine z_aload_n C (z_d dtX8_give_2 16 rfl) rfl ?_
                      refine gf_X8_61 C (z_d dtX8_give_2 17 rfl) ?_
                      refine z_iconst C (z_d dtX8_give_2 18 rfl) ?_
                      refine z_aload_n C (z_d dtX8_give_2 19 rfl) rfl ?_
                      refine gf_X8_99 C (z_d dtX8_give_2 20 rfl) ?_
                      try simp (decide := true) only [zS_s, zS_o, zC]
                      refine z_imul C (z_d dtX8_give_2 21 rfl) ?_
                      refine z_iload_n C (z_d dtX8_give_2 22 rfl) rfl ?_
                      refine as_M15 C (z_d dtX8_give_2 23 rfl) (by omega) ?_
                      refine z_aload_n C (z_d dtX8_give_2 24 rfl) rfl ?_
                      refine gf_X8_61 C (z_d dtX8_give_2 25 rfl) ?_
                      refine z_iconst C (z_d dtX8_give_2 26 rfl) ?_
                      refine z_aload_n C (z_d dtX8_give_2 27 rfl) rfl ?_
                      refine gf_X8_99 C (z_d dtX8_give_2 28 rfl) ?_
                      try simp (decide := true) only [zS_s, zS_o, zC]
                      refine z_imul C (z_d dtX8_give_2 29 rfl) ?_
                      refine z_iconst C (z_d dtX8_give_2 30 rfl) ?_
                      refine z_iadd C (z_d dtX8_give_2 31 rfl) ?_
                      refine z_iload_n C (z_d dtX8_give_2 32 rfl) rfl ?_
                      refine as_M15 C (z_d dtX8_give_2 33 rfl) (by omega) ?_
                      refine z_aload_n C (z_d dtX8_give_2 34 rfl) rfl ?_
                      refine gf_X8_61 C (z_d dtX8_give_2 35 rfl) ?_
                      refine z_iconst C (z_d dtX8_give_2 36 rfl) ?_
                      refine z_aload_n C (z_d dtX8_give_2 37 rfl) rfl ?_
                      refine gf_X8_99 C (z_d dtX8_give_2 38 rfl) ?_
                      try simp (decide := true) only [zS_s, zS_o, zC]
                      refine z_imul C (z_d dtX8_give_2 39 rfl) ?_
                      refine z_iconst C (z_d dtX8_give_3 0 rfl) ?_
                      refine z_iadd C (z_d dtX8_give_3 1 rfl) ?_
                      refine z_iload_n C (z_d dtX8_give_3 2 rfl) rfl ?_
                      refine as_M15 C (z_d dtX8_give_3 3 rfl) (by omega) ?_
                      refine z_aload_n C (z_d dtX8_give_3 4 rfl) rfl ?_
                      refine gf_X8_61 C (z_d dtX8_give_3 5 rfl) ?_
                      refine z_iconst C (z_d dtX8_give_3 6 rfl) ?_
                      refine z_aload_n C (z_d dtX8_give_3 7 rfl) rfl ?_
                      refine gf_X8_99 C (z_d dtX8_give_3 8 rfl) ?_
                      try simp (decide := true) only [zS_s, zS_o, zC]
                      refine z_imul C (z_d dtX8_give_3 9 rfl) ?_
                      refine z_iconst C (z_d dtX8_give_3 10 rfl) ?_
                      refine z_iadd C (z_d dtX8_give_3 11 rfl) ?_
                      refine z_iload C (z_d dtX8_give_3 12 rfl) rfl ?_
                      refine as_M15 C (z_d dtX8_give_3 13 rfl) (by omega) ?_
                      refine z_aload_n C (z_d dtX8_give_3 14 rfl) rfl ?_
                      refine gf_X8_61 C (z_d dtX8_give_3 15 rfl) ?_
                      refine z_iconst C (z_d dtX8_give_3 16 rfl) ?_
                      refine z_aload_n C (z_d dtX8_give_3 17 rfl) rfl ?_
                      refine gf_X8_99 C (z_d dtX8_give_3 18 rfl) ?_
                      try simp (decide := true) only [zS_s, zS_o, zC]
                      refine z_imul C (z_d dtX8_give_3 19 rfl) ?_
                      refine z_iconst C (z_d dtX8_give_3 20 rfl) ?_
                      refine z_iadd C (z_d dtX8_give_3 21 rfl) ?_
                      refine z_iload C (z_d dtX8_give_3 22 rfl) rfl ?_
                      refine as_M15 C (z_d dtX8_give_3 23 rfl) (by omega) ?_
                      refine z_aload_n C (z_d dtX8_give_3 24 rfl) rfl ?_
                      refine z_dup C (z_d dtX8_give_3 25 rfl) rfl ?_
                      refine gf_X8_99 C (z_d dtX8_give_3 26 rfl) ?_
                      try simp (decide := true) only [zS_s, zS_o, zC]
                      refine z_iconst C (z_d dtX8_give_3 27 rfl) ?_
                      refine z_iadd C (z_d dtX8_give_3 28 rfl) ?_
                      refine pf_X8_99 C (z_d dtX8_give_3 29 rfl) ?_
                      refine z_iload C (z_d dtX8_give_3 30 rfl) rfl ?_
                      refine z_iload C (z_d dtX8_give_3 31 rfl) rfl ?_
                      refine z_aload_n C (z_d dtX8_give_3 32 rfl) rfl ?_
                      refine gf_X8_58 C (z_d dtX8_give_3 33 rfl) ?_
                      try simp (decide := true) only [zS_s, zS_o, zC]
                      refine z_irem C (z_d dtX8_give_3 34 rfl) (by rw [hn2]; omega) ?_
                      refine z_isub C (z_d dtX8_give_3 35 rfl) ?_
                      exact ret _ _ _ _ (z_d dtX8_give_3 36 rfl) (⟨_, rfl, Or.inr ⟨hia, Or.inr ⟨hcase, Or.inr (by
                              rw [en]
                              first
                                | exact Or.inl ⟨(hnw.resolve_left (fun q => by omega)).2, rfl, rfl⟩
                                | exact Or.inr ⟨(hnw.resolve_right (fun q => by omega)).2, by omega, rfl, by unfold zGv; simp only [zS_zS, zS_s]⟩)⟩⟩⟩) rfl
                  · refine z_aload_n C (z_d dtX8_give_2 8 rfl) rfl ?_
                    refine gf_X8_99 C (z_d dtX8_give_2 9 rfl) ?_
                    try simp (decide := true) only [zS_s, zS_o, zC]
                    refine z_bipush C (z_d dtX8_give_2 10 rfl) zb_30 ?_
                    refine z_icmp_ne (tgt := 176) C (z_d dtX8_give_2 11 rfl) (by decide) (by omega) (fun h_170 => ?_) (fun h_170 => ?_)
                    · refine z_iload C (z_d dtX8_give_2 14 rfl) rfl ?_
                      refine z_if_eq (tgt := 261) C (z_d dtX8_give_2 15 rfl) (by decide) (by omega) (fun h_178 => ?_) (fun h_178 => ?_)
                      · refine z_iload C (z_d dtX8_give_3 30 rfl) rfl ?_
                        refine z_iload C (z_d dtX8_give_3 31 rfl) rfl ?_
                        refine z_aload_n C (z_d dtX8_give_3 32 rfl) rfl ?_
                        refine gf_X8_58 C (z_d dtX8_give_3 33 rfl) ?_
                        try simp (decide := true) only [zS_s, zS_o, zC]
                        refine z_irem C (z_d dtX8_give_3 34 rfl) (by rw [hn2]; omega) ?_
                        refine z_isub C (z_d dtX8_give_3 35 rfl) ?_
                        exact ret _ _ _ _ (z_d dtX8_give_3 36 rfl) (⟨_, rfl, Or.inr ⟨hia, Or.inr ⟨hcase, Or.inr (by
                                rw [en]
                                first
                                  | exact Or.inl ⟨(hnw.resolve_left (fun q => by omega)).2, rfl, rfl⟩
                                  | exact Or.inr ⟨(hnw.resolve_right (fun q => by omega)).2, by omega, rfl, by unfold zGv; simp only [zS_zS, zS_s]⟩)⟩⟩⟩) rfl
                      · refine z_aload_n C (z_d dtX8_give_2 16 rfl) rfl ?_
                        refine gf_X8_61 C (z_d dtX8_give_2 17 rfl) ?_
                        refine z_iconst C (z_d dtX8_give_2 18 rfl) ?_
                        refine z_aload_n C (z_d dtX8_give_2 19 rfl) rfl ?_
                        refine gf_X8_99 C (z_d dtX8_give_2 20 rfl) ?_
                        try simp (decide := true) only [zS_s, zS_o, zC]
                        refine z_imul C (z_d dtX8_give_2 21 rfl) ?_
                        refine z_iload_n C (z_d dtX8_give_2 22 rfl) rfl ?_
                        refine as_M15 C (z_d dtX8_give_2 23 rfl) (by omega) ?_
                        refine z_aload_n C (z_d dtX8_give_2 24 rfl) rfl ?_
                        refine gf_X8_61 C (z_d dtX8_give_2 25 rfl) ?_
                        refine z_iconst C (z_d dtX8_give_2 26 rfl) ?_
                        refine z_aload_n C (z_d dtX8_give_2 27 rfl) rfl ?_
                        refine gf_X8_99 C (z_d dtX8_give_2 28 rfl) ?_
                        try simp (decide := true) only [zS_s, zS_o, zC]
                        refine z_imul C (z_d dtX8_give_2 29 rfl) ?_
                        refine z_iconst C (z_d dtX8_give_2 30 rfl) ?_
                        refine z_iadd C (z_d dtX8_give_2 31 rfl) ?_
                        refine z_iload_n C (z_d dtX8_give_2 32 rfl) rfl ?_
                        refine as_M15 C (z_d dtX8_give_2 33 rfl) (by omega) ?_
                        refine z_aload_n C (z_d dtX8_give_2 34 rfl) rfl ?_
                        refine gf_X8_61 C (z_d dtX8_give_2 35 rfl) ?_
                        refine z_iconst C (z_d dtX8_give_2 36 rfl) ?_
                        refine z_aload_n C (z_d dtX8_give_2 37 rfl) rfl ?_
                        refine gf_X8_99 C (z_d dtX8_give_2 38 rfl) ?_
                        try simp (decide := true) only [zS_s, zS_o, zC]
                        refine z_imul C (z_d dtX8_give_2 39 rfl) ?_
                        refine z_iconst C (z_d dtX8_give_3 0 rfl) ?_
                        refine z_iadd C (z_d dtX8_give_3 1 rfl) ?_
                        refine z_iload_n C (z_d dtX8_give_3 2 rfl) rfl ?_
                        refine as_M15 C (z_d dtX8_give_3 3 rfl) (by omega) ?_
                        refine z_aload_n C (z_d dtX8_give_3 4 rfl) rfl ?_
                        refine gf_X8_61 C (z_d dtX8_give_3 5 rfl) ?_
                        refine z_iconst C (z_d dtX8_give_3 6 rfl) ?_
                        refine z_aload_n C (z_d dtX8_give_3 7 rfl) rfl ?_
                        refine gf_X8_99 C (z_d dtX8_give_3 8 rfl) ?_
                        try simp (decide := true) only [zS_s, zS_o, zC]
                        refine z_imul C (z_d dtX8_give_3 9 rfl) ?_
                        refine z_iconst C (z_d dtX8_give_3 10 rfl) ?_
                        refine z_iadd C (z_d dtX8_give_3 11 rfl) ?_
                        refine z_iload C (z_d dtX8_give_3 12 rfl) rfl ?_
                        refine as_M15 C (z_d dtX8_give_3 13 rfl) (by omega) ?_
                        refine z_aload_n C (z_d dtX8_give_3 14 rfl) rfl ?_
                        refine gf_X8_61 C (z_d dtX8_give_3 15 rfl) ?_
                        refine z_iconst C (z_d dtX8_give_3 16 rfl) ?_
                        refine z_aload_n C (z_d dtX8_give_3 17 rfl) rfl ?_
                        refine gf_X8_99 C (z_d dtX8_give_3 18 rfl) ?_
                        try simp (decide := true) only [zS_s, zS_o, zC]
                        refine z_imul C (z_d dtX8_give_3 19 rfl) ?_
                        refine z_iconst C (z_d dtX8_give_3 20 rfl) ?_
                        refine z_iadd C (z_d dtX8_give_3 21 rfl) ?_
                        refine z_iload C (z_d dtX8_give_3 22 rfl) rfl ?_
                        refine as_M15 C (z_d dtX8_give_3 23 rfl) (by omega) ?_
                        refine z_aload_n C (z_d dtX8_give_3 24 rfl) rfl ?_
                        refine z_dup C (z_d dtX8_give_3 25 rfl) rfl ?_
                        refine gf_X8_99 C (z_d dtX8_give_3 26 rfl) ?_
                        try simp (decide := true) only [zS_s, zS_o, zC]
                        refine z_iconst C (z_d dtX8_give_3 27 rfl) ?_
                        refine z_iadd C (z_d dtX8_give_3 28 rfl) ?_
                        refine pf_X8_99 C (z_d dtX8_give_3 29 rfl) ?_
                        refine z_iload C (z_d dtX8_give_3 30 rfl) rfl ?_
                        refine z_iload C (z_d dtX8_give_3 31 rfl) rfl ?_
                        refine z_aload_n C (z_d dtX8_give_3 32 rfl) rfl ?_
                        refine gf_X8_58 C (z_d dtX8_give_3 33 rfl) ?_
                        try simp (decide := true) only [zS_s, zS_o, zC]
                        refine z_irem C (z_d dtX8_give_3 34 rfl) (by rw [hn2]; omega) ?_
                        refine z_isub C (z_d dtX8_give_3 35 rfl) ?_
                        exact ret _ _ _ _ (z_d dtX8_give_3 36 rfl) (⟨_, rfl, Or.inr ⟨hia, Or.inr ⟨hcase, Or.inr (by
                                rw [en]
                                first
                                  | exact Or.inl ⟨(hnw.resolve_left (fun q => by omega)).2, rfl, rfl⟩
                                  | exact Or.inr ⟨(hnw.resolve_right (fun q => by omega)).2, by omega, rfl, by unfold zGv; simp only [zS_zS, zS_s]⟩)⟩⟩⟩) rfl
                    · refine z_bipush C (z_d dtX8_give_2 12 rfl) zb_m4 ?_
                      exact ret _ _ _ _ (z_d dtX8_give_2 13 rfl) (⟨σ, rfl, Or.inr ⟨hia, Or.inr ⟨hcase, Or.inl ⟨(hnw.resolve_right (fun q => by omega)).2, by omega, rfl, rfl⟩⟩⟩⟩) rfl
                · have hcase : (zNi σ f x0 x1 y0 y1 20 < σ 11 0 ∨ zNs σ f x0 x1 y0 y1 (σ 12 0)) := Or.inl (by omega)
                  refine z_bipush C (z_d dtX8_give_2 4 rfl) zb_m3 ?_
                  exact ret _ _ _ _ (z_d dtX8_give_2 5 rfl) (⟨σ, rfl, Or.inr ⟨hia, Or.inl ⟨hcase, rfl, rfl⟩⟩⟩) rfl
              · refine z_iload C (z_d dtX8_give_1 14 rfl) rfl ?_
                refine z_aload_n C (z_d dtX8_give_1 15 rfl) rfl ?_
                refine gf_X8_33 C (z_d dtX8_give_1 16 rfl) ?_
                refine z_iload C (z_d dtX8_give_1 17 rfl) rfl ?_
                refine al_M7 C (z_d dtX8_give_1 18 rfl) (by omega) ?_
                try simp (decide := true) only [zS_s, zS_o, zC]
                refine z_iconst C (z_d dtX8_give_1 19 rfl) ?_
                refine z_icmp_eq (tgt := 137) C (z_d dtX8_give_1 20 rfl) (by decide) (by omega) (fun h_109 => ?_) (fun h_109 => ?_)
                · refine z_iconst C (z_d dtX8_give_1 35 rfl) ?_
                  refine z_iadd C (z_d dtX8_give_1 36 rfl) ?_
                  refine z_istore7 C (z_d dtX8_give_1 37 rfl) rfl ?_
                  refine z_iinc8 C (z_d dtX8_give_1 38 rfl) rfl ?_
                  refine z_goto (tgt := 92) C (z_d dtX8_give_1 39 rfl) (by decide) ?_
                  exact ih_92 (i2 + 1) _ _ (by omega) (by
                          rw [zNi, hn2]
                          first | rw [if_pos (by omega)] | rw [if_neg (by omega)]) (by omega)
                · refine z_aload_n C (z_d dtX8_give_1 21 rfl) rfl ?_
                  refine z_aload_n C (z_d dtX8_give_1 22 rfl) rfl ?_
                  refine gf_X8_33 C (z_d dtX8_give_1 23 rfl) ?_
                  refine z_iload C (z_d dtX8_give_1 24 rfl) rfl ?_
                  refine al_M7 C (z_d dtX8_give_1 25 rfl) (by omega) ?_
                  try simp (decide := true) only [zS_s, zS_o, zC]
                  refine z_iload_n C (z_d dtX8_give_1 26 rfl) rfl ?_
                  refine z_iload_n C (z_d dtX8_give_1 27 rfl) rfl ?_
                  refine z_iload_n C (z_d dtX8_give_1 28 rfl) rfl ?_
                  refine z_iload C (z_d dtX8_give_1 29 rfl) rfl ?_
                  refine z_iload C (z_d dtX8_give_1 30 rfl) rfl ?_
                  refine z_callV C (z_d dtX8_give_1 31 rfl) (k_X8_isWithin  (by first | assumption | omega) (by omega) (by first | assumption | omega) (by first | assumption | omega) (by first | assumption | omega) (by first | assumption | omega) (by first | assumption | omega)) cal_X8_isWithin gw_24_20 rfl 0 8 rfl rfl rfl rfl hR ⟨rfl, rfl, rfl, rfl⟩ rfl (fun r_127 w_127 h_127 => ?_)
                  obtain ⟨rfl, h_127⟩ := h_127
                  refine z_if_eq (tgt := 137) C (z_d dtX8_give_1 32 rfl) (by decide) (by omega) (fun h_130 => ?_) (fun h_130 => ?_)
                  · refine z_iconst C (z_d dtX8_give_1 35 rfl) ?_
                    refine z_iadd C (z_d dtX8_give_1 36 rfl) ?_
                    refine z_istore7 C (z_d dtX8_give_1 37 rfl) rfl ?_
                    refine z_iinc8 C (z_d dtX8_give_1 38 rfl) rfl ?_
                    refine z_goto (tgt := 92) C (z_d dtX8_give_1 39 rfl) (by decide) ?_
                    exact ih_92 (i2 + 1) _ _ (by omega) (by
                            rw [zNi, hn2]
                            first | rw [if_pos (by omega)] | rw [if_neg (by omega)]) (by omega)
                  · refine z_iconst C (z_d dtX8_give_1 33 rfl) ?_
                    refine z_goto (tgt := 138) C (z_d dtX8_give_1 34 rfl) (by decide) ?_
                    refine z_iadd C (z_d dtX8_give_1 36 rfl) ?_
                    refine z_istore7 C (z_d dtX8_give_1 37 rfl) rfl ?_
                    refine z_iinc8 C (z_d dtX8_give_1 38 rfl) rfl ?_
                    refine z_goto (tgt := 92) C (z_d dtX8_give_1 39 rfl) (by decide) ?_
                    exact ih_92 (i2 + 1) _ _ (by omega) (by
                            rw [zNi, hn2]
                            first | rw [if_pos (by omega)] | rw [if_neg (by omega)]) (by omega)
          exact lp_92 _ 0 _ _ (by omega) rfl (Nat.lt_succ_self _)
        · refine z_aload_n C (z_d dtX8_give_0 18 rfl) rfl ?_
          refine z_iload C (z_d dtX8_give_0 19 rfl) rfl ?_
          refine z_iload_n C (z_d dtX8_give_0 20 rfl) rfl ?_
          refine z_iload_n C (z_d dtX8_give_0 21 rfl) rfl ?_
          refine z_iload_n C (z_d dtX8_give_0 22 rfl) rfl ?_
          refine z_iload C (z_d dtX8_give_0 23 rfl) rfl ?_
          refine z_iload C (z_d dtX8_give_0 24 rfl) rfl ?_
          refine z_callV C (z_d dtX8_give_0 25 rfl) (k_X8_parts  (by first | assumption | omega) (by omega) (by first | assumption | omega) (by first | assumption | omega) (by first | assumption | omega) (by first | assumption | omega) (by first | assumption | omega)) cal_X8_parts gw_32_14 rfl 0 8 rfl rfl rfl rfl hR ⟨rfl, rfl, rfl, rfl⟩ rfl (fun r_42 w_42 h_42 => ?_)
          obtain ⟨rfl, rfl⟩ := h_42
          refine z_istore8 C (z_d dtX8_give_0 26 rfl) rfl ?_
          refine z_iload C (z_d dtX8_give_0 27 rfl) rfl ?_
          refine z_iconst C (z_d dtX8_give_0 28 rfl) ?_
          refine z_aload_n C (z_d dtX8_give_0 29 rfl) rfl ?_
          refine gf_X8_58 C (z_d dtX8_give_0 30 rfl) ?_
          try simp (decide := true) only [zS_s, zS_o, zC]
          refine z_iconst C (z_d dtX8_give_0 31 rfl) ?_
          refine z_isub C (z_d dtX8_give_0 32 rfl) ?_
          refine z_callS C (z_d dtX8_give_0 33 rfl) (k_X8_in  (by first | assumption | omega) (by first | assumption | omega) (by first | assumption | omega)) cal_X8_in gw_8_19 rfl rfl hR ⟨rfl, rfl, rfl, rfl⟩ rfl (fun r_56 w_56 h_56 => ?_)
          obtain ⟨rfl, h_56⟩ := h_56
          refine z_if_eq (tgt := 65) C (z_d dtX8_give_0 34 rfl) (by decide) (by omega) (fun h_59 => ?_) (fun h_59 => ?_)
          · refine z_iload C (z_d dtX8_give_0 37 rfl) rfl ?_
            refine z_iload C (z_d dtX8_give_0 38 rfl) rfl ?_
            refine z_if_le (tgt := 76) C (z_d dtX8_give_0 39 rfl) (by decide) (by omega) (fun h_69 => ?_) (fun h_69 => ?_)
            · refine z_iconst C (z_d dtX8_give_1 2 rfl) ?_
              refine z_iand C (z_d dtX8_give_1 3 rfl) (z_and01 hnwb (by omega)) ?_
              refine z_istore6 C (z_d dtX8_give_1 4 rfl) rfl ?_
              refine z_iinc7 C (z_d dtX8_give_1 5 rfl) rfl ?_
              refine z_goto (tgt := 23) C (z_d dtX8_give_1 6 rfl) (by decide) ?_
              refine z_drop8 ?_
              exact ih_23 (i + 1) _ _ (by omega) (zNs_3 (n := (i : Int)) hno (by omega)) (by
                      rcases hnw with ⟨p, q⟩ | ⟨p, q⟩
                      · first
                          | exact Or.inl ⟨by omega, zWs_3 (n := (i : Int)) q (by omega)⟩
                          | exact Or.inr ⟨by omega, zWs_1 (n := (i : Int)) (by omega) (by omega)⟩
                      · exact Or.inr ⟨by omega, zWs_2 (n := (i : Int)) q⟩) (by omega)
            · refine z_iconst C (z_d dtX8_give_1 0 rfl) ?_
              refine z_goto (tgt := 77) C (z_d dtX8_give_1 1 rfl) (by decide) ?_
              refine z_iand C (z_d dtX8_give_1 3 rfl) (z_and01 hnwb (by omega)) ?_
              refine z_istore6 C (z_d dtX8_give_1 4 rfl) rfl ?_
              refine z_iinc7 C (z_d dtX8_give_1 5 rfl) rfl ?_
              refine z_goto (tgt := 23) C (z_d dtX8_give_1 6 rfl) (by decide) ?_
              refine z_drop8 ?_
              exact ih_23 (i + 1) _ _ (by omega) (zNs_3 (n := (i : Int)) hno (by omega)) (by
                      rcases hnw with ⟨p, q⟩ | ⟨p, q⟩
                      · first
                          | exact Or.inl ⟨by omega, zWs_3 (n := (i : Int)) q (by omega)⟩
                          | exact Or.inr ⟨by omega, zWs_1 (n := (i : Int)) (by omega) (by omega)⟩
                      · exact Or.inr ⟨by omega, zWs_2 (n := (i : Int)) q⟩) (by omega)
          · have hcase : (zNi σ f x0 x1 y0 y1 20 < σ 11 0 ∨ zNs σ f x0 x1 y0 y1 (σ 12 0)) := Or.inr (zNs_1 (n := (i : Int)) (by omega) (by omega))
            refine z_bipush C (z_d dtX8_give_0 35 rfl) zb_m3 ?_
            exact ret _ _ _ _ (z_d dtX8_give_0 36 rfl) (⟨σ, rfl, Or.inr ⟨hia, Or.inl ⟨hcase, rfl, rfl⟩⟩⟩) rfl
    exact lp_23 _ 0 _ _ (by omega) (zNs_0 _ _ _ _ _ _ (by omega)) (Or.inl ⟨rfl, zWs_0 _ _ _ _ _ _ (by omega)⟩) (Nat.lt_succ_self _)
  · have hia : ¬ zIsA σ f x0 x1 y0 y1 := h_8.elim (fun q => by omega) (fun q => q.2)
    refine z_bipush C (z_d dtX8_give_0 8 rfl) zb_m2 ?_
    exact ret _ _ _ _ (z_d dtX8_give_0 9 rfl) (⟨σ, rfl, Or.inl ⟨hia, rfl, rfl⟩⟩) rfl

set_option maxRecDepth 100000 in
set_option maxHeartbeats 4000000 in
theorem k_X8_count {l : Launch} {D : va_G} {t : Nat → ClassId} {ad : Nat → Nat} {σ : zMem} {k : Int} (ok : okM σ) (hk : -2147483648 ≤ k ∧ k < 2147483648) : z_Ci l D t yX8_count cX8_count 4 .int 0 0 0 0 [.ref (ad 0), .int (zI k)] (wM ad t σ) (fun r w => w = wM ad t σ ∧ r = zCt σ k) := by
  refine z_Ci_of (by decide +kernel) [some (.ref (ad 0)), some (.int (zI k)), none, none] rfl rfl (Nat.le_of_ble_eq_true rfl) fun K hl hD ht hR hnm C ret => ?_
  subst hl; subst hD; subst ht
  have ok2 := ok
  obtain ⟨⟨hw, h60, hs, h4, h5, h6, h7⟩, hmp, ⟨h9, hsum⟩, oW1, ⟨hle, hgi, hga⟩, oT1, ⟨h16, h17, h18, hit⟩⟩ := ok2
  have hN := zHw_N hw
  have hW := hw; unfold zHw at hW
  have hwh := zHw_wh hw
  have hn : σ 60 0 = ((zN σ).toNat : Int) ∧ 1 ≤ (zN σ).toNat ∧ (zN σ).toNat ≤ 72 := by omega
  have h9n : ∀ c : Int, 0 ≤ c → c < ((zN σ).toNat : Int) → 0 ≤ σ 9 c ∧ σ 9 c ≤ 1000000 := fun c a b => h9 c a (by omega)
  refine z_iconst C (z_d dtX8_count_0 0 rfl) ?_
  refine z_istore_n2 C (z_d dtX8_count_0 1 rfl) rfl ?_
  refine z_iload_n C (z_d dtX8_count_0 2 rfl) rfl ?_
  rcases (show k = 0 ∨ k = 1 ∨ k = 2 ∨ k = 3 ∨ k = 4 ∨ k = 5 ∨ k = 6 ∨ k = 7 ∨ k = 8 ∨ k = 9 ∨ k = 10 ∨ (k < 0 ∨ 10 < k) by omega) with rfl | rfl | rfl | rfl | rfl | rfl | rfl | rfl | rfl | rfl | rfl | hk2
  · refine z_tableIn (tgt := 60) C (z_d dtX8_count_0 3 rfl) (by omega) (by omega) (by omega) rfl (by decide) ?_
    refine z_aload_n C (z_d dtX8_count_0 4 rfl) rfl ?_
    refine gf_X8_90 C (z_d dtX8_count_0 5 rfl) ?_
    exact ret _ _ _ _ (z_d dtX8_count_0 6 rfl) (⟨rfl, rfl⟩) rfl
  · refine z_tableIn (tgt := 65) C (z_d dtX8_count_0 3 rfl) (by omega) (by omega) (by omega) rfl (by decide) ?_
    refine z_aload_n C (z_d dtX8_count_0 7 rfl) rfl ?_
    refine gf_X8_93 C (z_d dtX8_count_0 8 rfl) ?_
    exact ret _ _ _ _ (z_d dtX8_count_0 9 rfl) (⟨rfl, rfl⟩) rfl
  · refine z_tableIn (tgt := 70) C (z_d dtX8_count_0 3 rfl) (by omega) (by omega) (by omega) rfl (by decide) ?_
    refine z_aload_n C (z_d dtX8_count_0 10 rfl) rfl ?_
    refine gf_X8_96 C (z_d dtX8_count_0 11 rfl) ?_
    exact ret _ _ _ _ (z_d dtX8_count_0 12 rfl) (⟨rfl, rfl⟩) rfl
  · refine z_tableIn (tgt := 75) C (z_d dtX8_count_0 3 rfl) (by omega) (by omega) (by omega) rfl (by decide) ?_
    refine z_iconst C (z_d dtX8_count_0 13 rfl) ?_
    refine z_istore_n3 C (z_d dtX8_count_0 14 rfl) rfl ?_
    have lp_77 : ∀ (N_77 : Nat) (i : Nat) (c s : Int), (c = i ∧ i ≤ (zN σ).toNat) → (s = zSum (fun c => σ 4 c + σ 5 c) i) → (zN σ).toNat - i < N_77 → Gd K 0 0 77 [some (.ref (ad 0)), some (.int (zI 3)), some (.int (zI s)), some (.int (zI c))] [] (wM ad (z_t K) σ) := by
      intro N_77
      induction N_77 with
      | zero => intro i c s hi hs2 hm_77; exact absurd hm_77 (Nat.not_lt_zero _)
      | succ N_77 ih_77 =>
        intro i c s hi hs2 hm_77
        obtain ⟨rfl, hi⟩ := hi
        have h4i := h4 i
        have h5i := h5 i
        refine z_iload_n C (z_d dtX8_count_0 15 rfl) rfl ?_
        refine z_aload_n C (z_d dtX8_count_0 16 rfl) rfl ?_
        refine gf_X8_83 C (z_d dtX8_count_0 17 rfl) ?_
        refine z_icmp_ge (tgt := 123) C (z_d dtX8_count_0 18 rfl) (by decide) (by omega) (fun h_82 => ?_) (fun h_82 => ?_)
        · refine z_iload_n C (z_d dtX8_count_1 1 rfl) rfl ?_
          exact ret _ _ _ _ (z_d dtX8_count_1 2 rfl) (⟨rfl, by rw [hs2, show i = (zN σ).toNat by omega]; rfl⟩) rfl
        · refine z_iload_n C (z_d dtX8_count_0 19 rfl) rfl ?_
          refine z_aload_n C (z_d dtX8_count_0 20 rfl) rfl ?_
          refine gf_X8_7 C (z_d dtX8_count_0 21 rfl) ?_
          refine z_iload_n C (z_d dtX8_count_0 22 rfl) rfl ?_
          refine al_M1 C (z_d dtX8_count_0 23 rfl) (by omega) ?_
          refine z_if_eq (tgt := 99) C (z_d dtX8_count_0 24 rfl) (by decide) (by omega) (fun h_92 => ?_) (fun h_92 => ?_)
          · refine z_iconst C (z_d dtX8_count_0 27 rfl) ?_
            refine z_aload_n C (z_d dtX8_count_0 28 rfl) rfl ?_
            refine gf_X8_13 C (z_d dtX8_count_0 29 rfl) ?_
            refine z_iload_n C (z_d dtX8_count_0 30 rfl) rfl ?_
            refine al_M2 C (z_d dtX8_count_0 31 rfl) (by omega) ?_
            refine z_if_eq (tgt := 113) C (z_d dtX8_count_0 32 rfl) (by decide) (by omega) (fun h_106 => ?_) (fun h_106 => ?_)
            · refine z_iconst C (z_d dtX8_count_0 35 rfl) ?_
              refine z_iadd C (z_d dtX8_count_0 36 rfl) ?_
              refine z_iadd C (z_d dtX8_count_0 37 rfl) ?_
              refine z_istore_n2 C (z_d dtX8_count_0 38 rfl) rfl ?_
              refine z_iinc3 C (z_d dtX8_count_0 39 rfl) rfl ?_
              refine z_goto (tgt := 77) C (z_d dtX8_count_1 0 rfl) (by decide) ?_
              exact ih_77 (i + 1) _ _ (by omega) (by rw [zSum, hs2]; (try dsimp only); omega) (by omega)
            · refine z_iconst C (z_d dtX8_count_0 33 rfl) ?_
              refine z_goto (tgt := 114) C (z_d dtX8_count_0 34 rfl) (by decide) ?_
              refine z_iadd C (z_d dtX8_count_0 36 rfl) ?_
              refine z_iadd C (z_d dtX8_count_0 37 rfl) ?_
              refine z_istore_n2 C (z_d dtX8_count_0 38 rfl) rfl ?_
              refine z_iinc3 C (z_d dtX8_count_0 39 rfl) rfl ?_
              refine z_goto (tgt := 77) C (z_d dtX8_count_1 0 rfl) (by decide) ?_
              exact ih_77 (i + 1) _ _ (by omega) (by rw [zSum, hs2]; (try dsimp only); omega) (by omega)
          · refine z_iconst C (z_d dtX8_count_0 25 rfl) ?_
            refine z_goto (tgt := 100) C (z_d dtX8_count_0 26 rfl) (by decide) ?_
            refine z_aload_n C (z_d dtX8_count_0 28 rfl) rfl ?_
            refine gf_X8_13 C (z_d dtX8_count_0 29 rfl) ?_
            refine z_iload_n C (z_d dtX8_count_0 30 rfl) rfl ?_
            refine al_M2 C (z_d dtX8_count_0 31 rfl) (by omega) ?_
            refine z_if_eq (tgt := 113) C (z_d dtX8_count_0 32 rfl) (by decide) (by omega) (fun h_106 => ?_) (fun h_106 => ?_)
            · refine z_iconst C (z_d dtX8_count_0 35 rfl) ?_
              refine z_iadd C (z_d dtX8_count_0 36 rfl) ?_
              refine z_iadd C (z_d dtX8_count_0 37 rfl) ?_
              refine z_istore_n2 C (z_d dtX8_count_0 38 rfl) rfl ?_
              refine z_iinc3 C (z_d dtX8_count_0 39 rfl) rfl ?_
              refine z_goto (tgt := 77) C (z_d dtX8_count_1 0 rfl) (by decide) ?_
              exact ih_77 (i + 1) _ _ (by omega) (by rw [zSum, hs2]; (try dsimp only); omega) (by omega)
            · refine z_iconst C (z_d dtX8_count_0 33 rfl) ?_
              refine z_goto (tgt := 114) C (z_d dtX8_count_0 34 rfl) (by decide) ?_
              refine z_iadd C (z_d dtX8_count_0 36 rfl) ?_
              refine z_iadd C (z_d dtX8_count_0 37 rfl) ?_
              refine z_istore_n2 C (z_d dtX8_count_0 38 rfl) rfl ?_
              refine z_iinc3 C (z_d dtX8_count_0 39 rfl) rfl ?_
              refine z_goto (tgt := 77) C (z_d dtX8_count_1 0 rfl) (by decide) ?_
              exact ih_77 (i + 1) _ _ (by omega) (by rw [zSum, hs2]; (try dsimp only); omega) (by omega)
    exact lp_77 _ 0 _ _ (by omega) rfl (Nat.lt_succ_self _)
  · refine z_tableIn (tgt := 125) C (z_d dtX8_count_0 3 rfl) (by omega) (by omega) (by omega) rfl (by decide) ?_
    refine z_iconst C (z_d dtX8_count_1 3 rfl) ?_
    refine z_istore_n3 C (z_d dtX8_count_1 4 rfl) rfl ?_
    have lp_127 : ∀ (N_127 : Nat) (i : Nat) (c s : Int), (c = i ∧ i ≤ 36) → (s = zSum (σ 6) i) → 36 - i < N_127 → Gd K 0 0 127 [some (.ref (ad 0)), some (.int (zI 4)), some (.int (zI s)), some (.int (zI c))] [] (wM ad (z_t K) σ) := by
      intro N_127
      induction N_127 with
      | zero => intro i c s hi hs2 hm_127; exact absurd hm_127 (Nat.not_lt_zero _)
      | succ N_127 ih_127 =>
        intro i c s hi hs2 hm_127
        obtain ⟨rfl, hi⟩ := hi
        have h6i := h6 i
        refine z_iload_n C (z_d dtX8_count_1 5 rfl) rfl ?_
        refine z_bipush C (z_d dtX8_count_1 6 rfl) zb_36 ?_
        refine z_icmp_ge (tgt := 156) C (z_d dtX8_count_1 7 rfl) (by decide) (by omega) (fun h_130 => ?_) (fun h_130 => ?_)
        · refine z_iload_n C (z_d dtX8_count_1 21 rfl) rfl ?_
          exact ret _ _ _ _ (z_d dtX8_count_1 22 rfl) (⟨rfl, by rw [hs2, show i = 36 by omega]; rfl⟩) rfl
        · refine z_iload_n C (z_d dtX8_count_1 8 rfl) rfl ?_
          refine z_aload_n C (z_d dtX8_count_1 9 rfl) rfl ?_
          refine gf_X8_16 C (z_d dtX8_count_1 10 rfl) ?_
          refine z_iload_n C (z_d dtX8_count_1 11 rfl) rfl ?_
          refine al_M3 C (z_d dtX8_count_1 12 rfl) (by omega) ?_
          refine z_if_eq (tgt := 147) C (z_d dtX8_count_1 13 rfl) (by decide) (by omega) (fun h_140 => ?_) (fun h_140 => ?_)
          · refine z_iconst C (z_d dtX8_count_1 16 rfl) ?_
            refine z_iadd C (z_d dtX8_count_1 17 rfl) ?_
            refine z_istore_n2 C (z_d dtX8_count_1 18 rfl) rfl ?_
            refine z_iinc3 C (z_d dtX8_count_1 19 rfl) rfl ?_
            refine z_goto (tgt := 127) C (z_d dtX8_count_1 20 rfl) (by decide) ?_
            exact ih_127 (i + 1) _ _ (by omega) (by rw [zSum, hs2]; omega) (by omega)
          · refine z_iconst C (z_d dtX8_count_1 14 rfl) ?_
            refine z_goto (tgt := 148) C (z_d dtX8_count_1 15 rfl) (by decide) ?_
            refine z_iadd C (z_d dtX8_count_1 17 rfl) ?_
            refine z_istore_n2 C (z_d dtX8_count_1 18 rfl) rfl ?_
            refine z_iinc3 C (z_d dtX8_count_1 19 rfl) rfl ?_
            refine z_goto (tgt := 127) C (z_d dtX8_count_1 20 rfl) (by decide) ?_
            exact ih_127 (i + 1) _ _ (by omega) (by rw [zSum, hs2]; omega) (by omega)
    exact lp_127 _ 0 _ _ (by omega) rfl (Nat.lt_succ_self _)
  · refine z_tableIn (tgt := 158) C (z_d dtX8_count_0 3 rfl) (by omega) (by omega) (by omega) rfl (by decide) ?_
    refine z_aload_n C (z_d dtX8_count_1 23 rfl) rfl ?_
    refine gf_X8_99 C (z_d dtX8_count_1 24 rfl) ?_
    exact ret _ _ _ _ (z_d dtX8_count_1 25 rfl) (⟨rfl, rfl⟩) rfl
  · refine z_tableIn (tgt := 163) C (z_d dtX8_count_0 3 rfl) (by omega) (by omega) (by omega) rfl (by decide) ?_
    refine z_aload_n C (z_d dtX8_count_1 26 rfl) rfl ?_
    refine gf_X8_196 C (z_d dtX8_count_1 27 rfl) ?_
    exact ret _ _ _ _ (z_d dtX8_count_1 28 rfl) (⟨rfl, rfl⟩) rfl
  · refine z_tableIn (tgt := 168) C (z_d dtX8_count_0 3 rfl) (by omega) (by omega) (by omega) rfl (by decide) ?_
    refine z_aload_n C (z_d dtX8_count_1 29 rfl) rfl ?_
    refine gf_X8_19 C (z_d dtX8_count_1 30 rfl) ?_
    exact ret _ _ _ _ (z_d dtX8_count_1 31 rfl) (⟨rfl, rfl⟩) rfl
  · refine z_tableIn (tgt := 173) C (z_d dtX8_count_0 3 rfl) (by omega) (by omega) (by omega) rfl (by decide) ?_
    refine z_aload_n C (z_d dtX8_count_1 32 rfl) rfl ?_
    refine gf_X8_58 C (z_d dtX8_count_1 33 rfl) ?_
    exact ret _ _ _ _ (z_d dtX8_count_1 34 rfl) (⟨rfl, rfl⟩) rfl
  · refine z_tableIn (tgt := 178) C (z_d dtX8_count_0 3 rfl) (by omega) (by omega) (by omega) rfl (by decide) ?_
    refine z_iconst C (z_d dtX8_count_1 35 rfl) ?_
    refine z_istore_n3 C (z_d dtX8_count_1 36 rfl) rfl ?_
    have lp_180 : ∀ (N_180 : Nat) (i : Nat) (c s : Int), (c = i ∧ i ≤ 8) → (s = zDp (σ 7) i) → 8 - i < N_180 → Gd K 0 0 180 [some (.ref (ad 0)), some (.int (zI 9)), some (.int (zI s)), some (.int (zI c))] [] (wM ad (z_t K) σ) := by
      intro N_180
      induction N_180 with
      | zero => intro i c s hi hs2 hm_180; exact absurd hm_180 (Nat.not_lt_zero _)
      | succ N_180 ih_180 =>
        intro i c s hi hs2 hm_180
        obtain ⟨rfl, hi⟩ := hi
        have h7i := h7 i
        refine z_iload_n C (z_d dtX8_count_1 37 rfl) rfl ?_
        refine z_bipush C (z_d dtX8_count_1 38 rfl) zb_8 ?_
        refine z_icmp_ge (tgt := 211) C (z_d dtX8_count_1 39 rfl) (by decide) (by omega) (fun h_183 => ?_) (fun h_183 => ?_)
        · refine z_iload_n C (z_d dtX8_count_2 15 rfl) rfl ?_
          exact ret _ _ _ _ (z_d dtX8_count_2 16 rfl) (⟨rfl, by rw [hs2, show i = 8 by omega]; exact zDp_8 h7⟩) rfl
        · refine z_iload_n C (z_d dtX8_count_2 0 rfl) rfl ?_
          refine z_aload_n C (z_d dtX8_count_2 1 rfl) rfl ?_
          refine gf_X8_23 C (z_d dtX8_count_2 2 rfl) ?_
          refine z_iload_n C (z_d dtX8_count_2 3 rfl) rfl ?_
          refine al_M4 C (z_d dtX8_count_2 4 rfl) (by omega) ?_
          refine z_if_eq (tgt := 202) C (z_d dtX8_count_2 5 rfl) (by decide) (by omega) (fun h_193 => ?_) (fun h_193 => ?_)
          · refine z_iconst C (z_d dtX8_count_2 10 rfl) ?_
            refine z_iadd C (z_d dtX8_count_2 11 rfl) ?_
            refine z_istore_n2 C (z_d dtX8_count_2 12 rfl) rfl ?_
            refine z_iinc3 C (z_d dtX8_count_2 13 rfl) rfl ?_
            refine z_goto (tgt := 180) C (z_d dtX8_count_2 14 rfl) (by decide) ?_
            exact ih_180 (i + 1) _ _ (by omega) (by
                    rw [zDp, hs2]
                    first | rw [if_pos (by omega)] | rw [if_neg (by omega)]) (by omega)
          · refine z_iconst C (z_d dtX8_count_2 6 rfl) ?_
            refine z_iload_n C (z_d dtX8_count_2 7 rfl) rfl ?_
            refine z_ishl C (z_d dtX8_count_2 8 rfl) (z_shl (by omega)) ?_
            refine z_goto (tgt := 203) C (z_d dtX8_count_2 9 rfl) (by decide) ?_
            refine z_iadd C (z_d dtX8_count_2 11 rfl) ?_
            refine z_istore_n2 C (z_d dtX8_count_2 12 rfl) rfl ?_
            refine z_iinc3 C (z_d dtX8_count_2 13 rfl) rfl ?_
            refine z_goto (tgt := 180) C (z_d dtX8_count_2 14 rfl) (by decide) ?_
            exact ih_180 (i + 1) _ _ (by omega) (by
                    rw [zDp, hs2]
                    first | rw [if_pos (by omega)] | rw [if_neg (by omega)]) (by omega)
    exact lp_180 _ 0 _ _ (by omega) rfl (Nat.lt_succ_self _)
  · refine z_tableIn (tgt := 213) C (z_d dtX8_count_0 3 rfl) (by omega) (by omega) (by omega) rfl (by decide) ?_
    refine z_iconst C (z_d dtX8_count_2 17 rfl) ?_
    refine z_istore_n3 C (z_d dtX8_count_2 18 rfl) rfl ?_
    have lp_215 : ∀ (N_215 : Nat) (i : Nat) (c s : Int), (c = i ∧ i ≤ 20) → (s = zSo (σ 10) i) → 20 - i < N_215 → Gd K 0 0 215 [some (.ref (ad 0)), some (.int (zI 10)), some (.int (zI s)), some (.int (zI c))] [] (wM ad (z_t K) σ) := by
      intro N_215
      induction N_215 with
      | zero => intro i c s hi hs2 hm_215; exact absurd hm_215 (Nat.not_lt_zero _)
      | succ N_215 ih_215 =>
        intro i c s hi hs2 hm_215
        obtain ⟨rfl, hi⟩ := hi
        have hwk := oW1 i
        refine z_iload_n C (z_d dtX8_count_2 19 rfl) rfl ?_
        refine z_bipush C (z_d dtX8_count_2 20 rfl) zb_20 ?_
        refine z_icmp_ge (tgt := 245) C (z_d dtX8_count_2 21 rfl) (by decide) (by omega) (fun h_218 => ?_) (fun h_218 => ?_)
        · refine z_iload_n C (z_d dtX8_count_2 36 rfl) rfl ?_
          exact ret _ _ _ _ (z_d dtX8_count_2 37 rfl) (⟨rfl, by rw [hs2, show i = 20 by omega]; rfl⟩) rfl
        · refine z_iload_n C (z_d dtX8_count_2 22 rfl) rfl ?_
          refine z_aload_n C (z_d dtX8_count_2 23 rfl) rfl ?_
          refine gf_X8_33 C (z_d dtX8_count_2 24 rfl) ?_
          refine z_iload_n C (z_d dtX8_count_2 25 rfl) rfl ?_
          refine al_M7 C (z_d dtX8_count_2 26 rfl) (by omega) ?_
          refine z_iconst C (z_d dtX8_count_2 27 rfl) ?_
          refine z_icmp_eq (tgt := 236) C (z_d dtX8_count_2 28 rfl) (by decide) (by omega) (fun h_229 => ?_) (fun h_229 => ?_)
          · refine z_iconst C (z_d dtX8_count_2 31 rfl) ?_
            refine z_iadd C (z_d dtX8_count_2 32 rfl) ?_
            refine z_istore_n2 C (z_d dtX8_count_2 33 rfl) rfl ?_
            refine z_iinc3 C (z_d dtX8_count_2 34 rfl) rfl ?_
            refine z_goto (tgt := 215) C (z_d dtX8_count_2 35 rfl) (by decide) ?_
            exact ih_215 (i + 1) _ _ (by omega) (by
                    rw [zSo, hs2]
                    first | rw [if_pos (by omega)] | rw [if_neg (by omega)]) (by omega)
          · refine z_iconst C (z_d dtX8_count_2 29 rfl) ?_
            refine z_goto (tgt := 237) C (z_d dtX8_count_2 30 rfl) (by decide) ?_
            refine z_iadd C (z_d dtX8_count_2 32 rfl) ?_
            refine z_istore_n2 C (z_d dtX8_count_2 33 rfl) rfl ?_
            refine z_iinc3 C (z_d dtX8_count_2 34 rfl) rfl ?_
            refine z_goto (tgt := 215) C (z_d dtX8_count_2 35 rfl) (by decide) ?_
            exact ih_215 (i + 1) _ _ (by omega) (by
                    rw [zSo, hs2]
                    first | rw [if_pos (by omega)] | rw [if_neg (by omega)]) (by omega)
    exact lp_215 _ 0 _ _ (by omega) rfl (Nat.lt_succ_self _)
  · refine z_tableOut (tgt := 247) C (z_d dtX8_count_0 3 rfl) (by omega) (by omega) (by decide) ?_
    refine z_bipush C (z_d dtX8_count_2 38 rfl) zb_m2 ?_
    exact ret _ _ _ _ (z_d dtX8_count_2 39 rfl) (⟨rfl, by unfold zCt; repeat (rw [if_neg (by omega)])⟩) rfl

set_option maxRecDepth 100000 in
set_option maxHeartbeats 4000000 in
theorem k_X8_digest {l : Launch} {D : va_G} {t : Nat → ClassId} {ad : Nat → Nat} {σ : zMem}  (ok : okM σ) : z_Cl l D t yX8_digest cX8_digest 7 2 46 0 0 [.ref (ad 0)] (wM ad t σ) (fun r w => w = wM ad t σ ∧ r = zD3 σ 8) := by
  refine z_Cl_of (by decide +kernel) [some (.ref (ad 0)), none, none, none, none, none, none] rfl rfl (Nat.le_of_ble_eq_true rfl) fun K hl hD ht hR hnm C ret => ?_
  subst hl; subst hD; subst ht
  have ok2 := ok
  obtain ⟨⟨hw, h60, hs, h4, h5, h6, h7⟩, hmp, ⟨h9, hsum⟩, oW1, ⟨hle, hgi, hga⟩, oT1, ⟨h16, h17, h18, hit⟩⟩ := ok2
  have hN := zHw_N hw
  have hW := hw; unfold zHw at hW
  have hwh := zHw_wh hw
  have hn : σ 60 0 = ((zN σ).toNat : Int) ∧ 1 ≤ (zN σ).toNat ∧ (zN σ).toNat ≤ 72 := by omega
  have h9n : ∀ c : Int, 0 ≤ c → c < ((zN σ).toNat : Int) → 0 ≤ σ 9 c ∧ σ 9 c ≤ 1000000 := fun c a b => h9 c a (by omega)
  have hcb := zCt_m ok
  refine z_ldc2 C gk_RX8_203 (z_d dtX8_digest_0 0 rfl) ?_
  refine z_lstore_n1 C (z_d dtX8_digest_0 1 rfl) rfl ?_
  refine z_iconst C (z_d dtX8_digest_0 2 rfl) ?_
  refine z_istore_n3 C (z_d dtX8_digest_0 3 rfl) rfl ?_
  have lp_6 : ∀ (N_6 : Nat) (i : Nat) (k h : Int), (k = i ∧ i ≤ 11) → (h = zD1 σ i) → 11 - i < N_6 → Gd K 0 0 6 [some (.ref (ad 0)), some (.long (zL h)), none, some (.int (zI k)), none, none, none] [] (wM ad (z_t K) σ) := by
    intro N_6
    induction N_6 with
    | zero => intro i k h hi hh hm_6; exact absurd hm_6 (Nat.not_lt_zero _)
    | succ N_6 ih_6 =>
      intro i k h hi hh hm_6
      obtain ⟨rfl, hi⟩ := hi
      have hci := hcb i
      refine z_iload_n C (z_d dtX8_digest_0 4 rfl) rfl ?_
      refine z_bipush C (z_d dtX8_digest_0 5 rfl) zb_11 ?_
      refine z_icmp_ge (tgt := 41) C (z_d dtX8_digest_0 6 rfl) (by decide) (by omega) (fun h_9 => ?_) (fun h_9 => ?_)
      · refine z_iconst C (z_d dtX8_digest_0 23 rfl) ?_
        refine z_istore_n3 C (z_d dtX8_digest_0 24 rfl) rfl ?_
        have lp_43 : ∀ (N_43 : Nat) (i2 : Nat) (c h2 : Int), (c = i2 ∧ i2 ≤ (zN σ).toNat) → (h2 = zD2 σ i2) → (zN σ).toNat - i2 < N_43 → Gd K 0 0 43 [some (.ref (ad 0)), some (.long (zL h2)), none, some (.int (zI c)), none, none, none] [] (wM ad (z_t K) σ) := by
          intro N_43
          induction N_43 with
          | zero => intro i2 c h2 hi2 hh2 hm_43; exact absurd hm_43 (Nat.not_lt_zero _)
          | succ N_43 ih_43 =>
            intro i2 c h2 hi2 hh2 hm_43
            obtain ⟨rfl, hi2⟩ := hi2
            have h9i := fun q : (i2 : Int) < zN σ => h9 i2 (by omega) (by omega)
            refine z_iload_n C (z_d dtX8_digest_0 25 rfl) rfl ?_
            refine z_aload_n C (z_d dtX8_digest_0 26 rfl) rfl ?_
            refine gf_X8_83 C (z_d dtX8_digest_0 27 rfl) ?_
            refine z_icmp_ge (tgt := 71) C (z_d dtX8_digest_0 28 rfl) (by decide) (by omega) (fun h_48 => ?_) (fun h_48 => ?_)
            · refine z_iconst C (z_d dtX8_digest_1 1 rfl) ?_
              refine z_istore_n3 C (z_d dtX8_digest_1 2 rfl) rfl ?_
              have lp_73 : ∀ (N_73 : Nat) (i3 : Nat) (k h3 : Int), (k = i3 ∧ i3 ≤ 8) → (h3 = zD3 σ i3) → 8 - i3 < N_73 → Gd K 0 0 73 [some (.ref (ad 0)), some (.long (zL h3)), none, some (.int (zI k)), none, none, none] [] (wM ad (z_t K) σ) := by
                intro N_73
                induction N_73 with
                | zero => intro i3 k h3 hi3 hh3 hm_73; exact absurd hm_73 (Nat.not_lt_zero _)
                | succ N_73 ih_73 =>
                  intro i3 k h3 hi3 hh3 hm_73
                  obtain ⟨rfl, hi3⟩ := hi3
                  refine z_iload_n C (z_d dtX8_digest_1 3 rfl) rfl ?_
                  refine z_bipush C (z_d dtX8_digest_1 4 rfl) zb_8 ?_
                  refine z_icmp_ge (tgt := 146) C (z_d dtX8_digest_1 5 rfl) (by decide) (by omega) (fun h_76 => ?_) (fun h_76 => ?_)
                  · refine z_lload_n C (z_d dtX8_digest_2 0 rfl) rfl ?_
                    exact ret _ _ _ _ (z_d dtX8_digest_2 1 rfl) (⟨rfl, by rw [hh3, show i3 = 8 by omega]⟩)
                  · refine z_iconst C (z_d dtX8_digest_1 6 rfl) ?_
                    refine z_istore4 C (z_d dtX8_digest_1 7 rfl) rfl ?_
                    have lp_82 : ∀ (N_82 : Nat) (i4 : Nat) (c h4 : Int), (c = i4 ∧ i4 ≤ (zN σ).toNat) → (h4 = zD4 σ (zD3 σ i3) i3 i4) → (zN σ).toNat - i4 < N_82 → Gd K 0 0 82 [some (.ref (ad 0)), some (.long (zL h4)), none, some (.int (zI (i3 : Int))), some (.int (zI c)), none, none] [] (wM ad (z_t K) σ) := by
                      intro N_82
                      induction N_82 with
                      | zero => intro i4 c h4 hi4 hh4 hm_82; exact absurd hm_82 (Nat.not_lt_zero _)
                      | succ N_82 ih_82 =>
                        intro i4 c h4 hi4 hh4 hm_82
                        obtain ⟨rfl, hi4⟩ := hi4
                        refine z_iload C (z_d dtX8_digest_1 8 rfl) rfl ?_
                        refine z_aload_n C (z_d dtX8_digest_1 9 rfl) rfl ?_
                        refine gf_X8_83 C (z_d dtX8_digest_1 10 rfl) ?_
                        refine z_icmp_ge (tgt := 140) C (z_d dtX8_digest_1 11 rfl) (by decide) (by omega) (fun h_88 => ?_) (fun h_88 => ?_)
                        · refine z_iinc3 C (z_d dtX8_digest_1 38 rfl) rfl ?_
                          refine z_goto (tgt := 73) C (z_d dtX8_digest_1 39 rfl) (by decide) ?_
                          refine z_drop4 ?_
                          exact ih_73 (i3 + 1) _ _ (by omega) (by rw [zD3, hh4, show i4 = (zN σ).toNat by omega]) (by omega)
                        · refine z_iconst C (z_d dtX8_digest_1 12 rfl) ?_
                          refine z_istore5 C (z_d dtX8_digest_1 13 rfl) rfl ?_
                          refine z_iconst C (z_d dtX8_digest_1 14 rfl) ?_
                          refine z_istore6 C (z_d dtX8_digest_1 15 rfl) rfl ?_
                          have lp_97 : ∀ (N_97 : Nat) (i5 : Nat) (v s : Int), (v = (i5 : Int) - 1 ∧ i5 ≤ 11) → (s = zWa σ i3 i4 i5) → 11 - i5 < N_97 → Gd K 0 0 97 [some (.ref (ad 0)), some (.long (zL h4)), none, some (.int (zI (i3 : Int))), some (.int (zI (i4 : Int))), some (.int (zI s)), some (.int (zI v))] [] (wM ad (z_t K) σ) := by
                            intro N_97
                            induction N_97 with
                            | zero => intro i5 v s hi5 hs5 hm_97; exact absurd hm_97 (Nat.not_lt_zero _)
                            | succ N_97 ih_97 =>
                              intro i5 v s hi5 hs5 hm_97
                              obtain ⟨rfl, hi5⟩ := hi5
                              have hwa := zWa_b hmp i3 i4 i5
                              refine z_iload C (z_d dtX8_digest_1 16 rfl) rfl ?_
                              refine z_bipush C (z_d dtX8_digest_1 17 rfl) zb_10 ?_
                              refine z_icmp_ge (tgt := 124) C (z_d dtX8_digest_1 18 rfl) (by decide) (by omega) (fun h_101 => ?_) (fun h_101 => ?_)
                              · refine z_ldc2 C gk_RX8_205 (z_d dtX8_digest_1 29 rfl) ?_
                                refine z_lload_n C (z_d dtX8_digest_1 30 rfl) rfl ?_
                                refine z_lmul C (z_d dtX8_digest_1 31 rfl) ?_
                                refine z_iload C (z_d dtX8_digest_1 32 rfl) rfl ?_
                                refine z_i2l C (z_d dtX8_digest_1 33 rfl) (by omega) ?_
                                refine z_ladd C (z_d dtX8_digest_1 34 rfl) ?_
                                refine z_lstore_n1 C (z_d dtX8_digest_1 35 rfl) rfl ?_
                                refine z_iinc4 C (z_d dtX8_digest_1 36 rfl) rfl ?_
                                refine z_goto (tgt := 82) C (z_d dtX8_digest_1 37 rfl) (by decide) ?_
                                refine z_drop5 ?_
                                refine z_drop6 ?_
                                exact ih_82 (i4 + 1) _ _ (by omega) (by rw [zD4, hh4, hs5, show i5 = 11 by omega]) (by omega)
                              · refine z_iload C (z_d dtX8_digest_1 19 rfl) rfl ?_
                                refine z_aload_n C (z_d dtX8_digest_1 20 rfl) rfl ?_
                                refine z_iload_n C (z_d dtX8_digest_1 21 rfl) rfl ?_
                                refine z_iload C (z_d dtX8_digest_1 22 rfl) rfl ?_
                                refine z_iload C (z_d dtX8_digest_1 23 rfl) rfl ?_
                                refine z_callV C (z_d dtX8_digest_1 24 rfl) (k_X8_weightOf  (by omega) (by omega) (by omega)) cal_X8_weightOf gw_18_8 rfl 0 8 rfl rfl rfl rfl hR ⟨rfl, rfl, rfl, rfl⟩ rfl (fun r_112 w_112 h_112 => ?_)
                                obtain ⟨rfl, rfl⟩ := h_112
                                refine z_iadd C (z_d dtX8_digest_1 25 rfl) ?_
                                refine z_istore5 C (z_d dtX8_digest_1 26 rfl) rfl ?_
                                refine z_iinc6 C (z_d dtX8_digest_1 27 rfl) rfl ?_
                                refine z_goto (tgt := 97) C (z_d dtX8_digest_1 28 rfl) (by decide) ?_
                                exact ih_97 (i5 + 1) _ _ (by omega) (by rw [zWa, hs5]) (by omega)
                          exact lp_97 _ 0 _ _ (by omega) rfl (Nat.lt_succ_self _)
                    exact lp_82 _ 0 _ _ (by omega) (by rw [hh3]; rfl) (Nat.lt_succ_self _)
              exact lp_73 _ 0 _ _ (by omega) (by rw [hh2, show i2 = (zN σ).toNat by omega]; rfl) (Nat.lt_succ_self _)
            · refine z_ldc2 C gk_RX8_205 (z_d dtX8_digest_0 29 rfl) ?_
              refine z_lload_n C (z_d dtX8_digest_0 30 rfl) rfl ?_
              refine z_lmul C (z_d dtX8_digest_0 31 rfl) ?_
              refine z_aload_n C (z_d dtX8_digest_0 32 rfl) rfl ?_
              refine gf_X8_30 C (z_d dtX8_digest_0 33 rfl) ?_
              refine z_iload_n C (z_d dtX8_digest_0 34 rfl) rfl ?_
              refine al_M6 C (z_d dtX8_digest_0 35 rfl) (by omega) ?_
              refine z_i2l C (z_d dtX8_digest_0 36 rfl) (by omega) ?_
              refine z_ladd C (z_d dtX8_digest_0 37 rfl) ?_
              refine z_lstore_n1 C (z_d dtX8_digest_0 38 rfl) rfl ?_
              refine z_iinc3 C (z_d dtX8_digest_0 39 rfl) rfl ?_
              refine z_goto (tgt := 43) C (z_d dtX8_digest_1 0 rfl) (by decide) ?_
              exact ih_43 (i2 + 1) _ _ (by omega) (by rw [zD2, hh2]) (by omega)
        exact lp_43 _ 0 _ _ (by omega) (by rw [hh, show i = 11 by omega]; rfl) (Nat.lt_succ_self _)
      · refine z_iload_n C (z_d dtX8_digest_0 7 rfl) rfl ?_
        refine z_bipush C (z_d dtX8_digest_0 8 rfl) zb_6 ?_
        refine z_icmp_ne (tgt := 22) C (z_d dtX8_digest_0 9 rfl) (by decide) (by omega) (fun h_15 => ?_) (fun h_15 => ?_)
        · refine z_ldc2 C gk_RX8_205 (z_d dtX8_digest_0 12 rfl) ?_
          refine z_lload_n C (z_d dtX8_digest_0 13 rfl) rfl ?_
          refine z_lmul C (z_d dtX8_digest_0 14 rfl) ?_
          refine z_aload_n C (z_d dtX8_digest_0 15 rfl) rfl ?_
          refine z_iload_n C (z_d dtX8_digest_0 16 rfl) rfl ?_
          refine z_callV C (z_d dtX8_digest_0 17 rfl) (k_X8_count  (by first | assumption | omega) (by first | assumption | omega)) cal_X8_count gw_37_8 rfl 0 8 rfl rfl rfl rfl hR ⟨rfl, rfl, rfl, rfl⟩ rfl (fun r_29 w_29 h_29 => ?_)
          obtain ⟨rfl, rfl⟩ := h_29
          refine z_i2l C (z_d dtX8_digest_0 18 rfl) (by omega) ?_
          refine z_ladd C (z_d dtX8_digest_0 19 rfl) ?_
          refine z_lstore_n1 C (z_d dtX8_digest_0 20 rfl) rfl ?_
          refine z_iinc3 C (z_d dtX8_digest_0 21 rfl) rfl ?_
          refine z_goto (tgt := 6) C (z_d dtX8_digest_0 22 rfl) (by decide) ?_
          exact ih_6 (i + 1) _ _ (by omega) (by rw [zD1, hh]; first | rw [if_neg (by omega)] | rw [if_pos (by omega)]) (by omega)
        · refine z_lload_n C (z_d dtX8_digest_0 10 rfl) rfl ?_
          refine z_goto (tgt := 34) C (z_d dtX8_digest_0 11 rfl) (by decide) ?_
          refine z_lstore_n1 C (z_d dtX8_digest_0 20 rfl) rfl ?_
          refine z_iinc3 C (z_d dtX8_digest_0 21 rfl) rfl ?_
          refine z_goto (tgt := 6) C (z_d dtX8_digest_0 22 rfl) (by decide) ?_
          exact ih_6 (i + 1) _ _ (by omega) (by rw [zD1, hh]; first | rw [if_neg (by omega)] | rw [if_pos (by omega)]) (by omega)
  exact lp_6 _ 0 _ _ (by omega) rfl (Nat.lt_succ_self _)

set_option maxRecDepth 100000 in
set_option maxHeartbeats 4000000 in
theorem k_X8_building {l : Launch} {D : va_G} {t : Nat → ClassId} {ad : Nat → Nat} {σ : zMem} {f x y : Int} (hf : -2147483648 ≤ f ∧ f < 2147483648) (hx : -2147483648 ≤ x ∧ x < 2147483648) (hy : -2147483648 ≤ y ∧ y < 2147483648) : z_Ci l D t yX8_building cX8_building 5 .int 2 46 0 0 [.ref (ad 0), .int (zI f), .int (zI x), .int (zI y)] (wM ad t σ) (fun r w => ∃ σ', w = wM ad t σ' ∧ ((¬ ((1 ≤ f ∧ f ≤ 3) ∧ (1 ≤ x ∧ x ≤ 6) ∧ (1 ≤ y ∧ y ≤ 6) ∧ f * x * y ≤ 72) ∧ r = -2 ∧ σ' = σ) ∨ (((1 ≤ f ∧ f ≤ 3) ∧ (1 ≤ x ∧ x ≤ 6) ∧ (1 ≤ y ∧ y ≤ 6) ∧ f * x * y ≤ 72) ∧ r = f * x * y ∧ zE σ' σ [0, 1, 2, 4, 5, 6, 8, 9, 10, 12, 60, 62, 63] ∧ σ' 0 = zC f ∧ σ' 1 = zC x ∧ σ' 2 = zC y ∧ σ' 4 = zC 0 ∧ σ' 5 = zC 0 ∧ σ' 6 = zC 0 ∧ σ' 8 = zC 0 ∧ σ' 10 = zC (-1) ∧ σ' 12 = zC 0 ∧ σ' 60 = zC (f * x * y) ∧ ∀ c, 0 ≤ c → c < f * x * y → σ' 9 c = zWh (zC 1) (f * x * y).toNat c))) := by
  refine z_Ci_of (by decide +kernel) [some (.ref (ad 0)), some (.int (zI f)), some (.int (zI x)), some (.int (zI y)), none] rfl rfl (Nat.le_of_ble_eq_true rfl) fun K hl hD ht hR hnm C ret => ?_
  subst hl; subst hD; subst ht
  refine z_iload_n C (z_d dtX8_building_0 0 rfl) rfl ?_
  refine z_iconst C (z_d dtX8_building_0 1 rfl) ?_
  refine z_iconst C (z_d dtX8_building_0 2 rfl) ?_
  refine z_callS C (z_d dtX8_building_0 3 rfl) (k_X8_in  (by first | assumption | omega) (by first | assumption | omega) (by first | assumption | omega)) cal_X8_in gw_8_19 rfl rfl hR ⟨rfl, rfl, rfl, rfl⟩ rfl (fun r_3 w_3 h_3 => ?_)
  obtain ⟨rfl, h_3⟩ := h_3
  refine z_if_eq (tgt := 39) C (z_d dtX8_building_0 4 rfl) (by decide) (by omega) (fun h_6 => ?_) (fun h_6 => ?_)
  · refine z_bipush C (z_d dtX8_building_0 22 rfl) zb_m2 ?_
    exact ret _ _ _ _ (z_d dtX8_building_0 23 rfl) (⟨σ, rfl, Or.inl ⟨by omega, rfl, rfl⟩⟩) rfl
  · refine z_iload_n C (z_d dtX8_building_0 5 rfl) rfl ?_
    refine z_iconst C (z_d dtX8_building_0 6 rfl) ?_
    refine z_bipush C (z_d dtX8_building_0 7 rfl) zb_6 ?_
    refine z_callS C (z_d dtX8_building_0 8 rfl) (k_X8_in  (by first | assumption | omega) (by first | assumption | omega) (by first | assumption | omega)) cal_X8_in gw_8_19 rfl rfl hR ⟨rfl, rfl, rfl, rfl⟩ rfl (fun r_13 w_13 h_13 => ?_)
    obtain ⟨rfl, h_13⟩ := h_13
    refine z_if_eq (tgt := 39) C (z_d dtX8_building_0 9 rfl) (by decide) (by omega) (fun h_16 => ?_) (fun h_16 => ?_)
    · refine z_bipush C (z_d dtX8_building_0 22 rfl) zb_m2 ?_
      exact ret _ _ _ _ (z_d dtX8_building_0 23 rfl) (⟨σ, rfl, Or.inl ⟨by omega, rfl, rfl⟩⟩) rfl
    · refine z_iload_n C (z_d dtX8_building_0 10 rfl) rfl ?_
      refine z_iconst C (z_d dtX8_building_0 11 rfl) ?_
      refine z_bipush C (z_d dtX8_building_0 12 rfl) zb_6 ?_
      refine z_callS C (z_d dtX8_building_0 13 rfl) (k_X8_in  (by first | assumption | omega) (by first | assumption | omega) (by first | assumption | omega)) cal_X8_in gw_8_19 rfl rfl hR ⟨rfl, rfl, rfl, rfl⟩ rfl (fun r_23 w_23 h_23 => ?_)
      obtain ⟨rfl, h_23⟩ := h_23
      refine z_if_eq (tgt := 39) C (z_d dtX8_building_0 14 rfl) (by decide) (by omega) (fun h_26 => ?_) (fun h_26 => ?_)
      · refine z_bipush C (z_d dtX8_building_0 22 rfl) zb_m2 ?_
        exact ret _ _ _ _ (z_d dtX8_building_0 23 rfl) (⟨σ, rfl, Or.inl ⟨by omega, rfl, rfl⟩⟩) rfl
      · have hp1 := Int.mul_le_mul (show f ≤ 3 by omega) (show x ≤ 6 by omega) (by omega) (by omega)
        have hp0 := Int.mul_pos (show 0 < f by omega) (show 0 < x by omega)
        have hp2 := Int.mul_le_mul hp1 (show y ≤ 6 by omega) (by omega) (by omega)
        have hp3 := Int.mul_pos hp0 (show 0 < y by omega)
        refine z_iload_n C (z_d dtX8_building_0 15 rfl) rfl ?_
        refine z_iload_n C (z_d dtX8_building_0 16 rfl) rfl ?_
        refine z_imul C (z_d dtX8_building_0 17 rfl) ?_
        refine z_iload_n C (z_d dtX8_building_0 18 rfl) rfl ?_
        refine z_imul C (z_d dtX8_building_0 19 rfl) ?_
        refine z_bipush C (z_d dtX8_building_0 20 rfl) zb_72 ?_
        refine z_icmp_le (tgt := 42) C (z_d dtX8_building_0 21 rfl) (by decide) (by omega) (fun h_36 => ?_) (fun h_36 => ?_)
        · refine z_aload_n C (z_d dtX8_building_0 24 rfl) rfl ?_
          refine z_iload_n C (z_d dtX8_building_0 25 rfl) rfl ?_
          refine pf_X8_90 C (z_d dtX8_building_0 26 rfl) ?_
          refine z_aload_n C (z_d dtX8_building_0 27 rfl) rfl ?_
          refine z_iload_n C (z_d dtX8_building_0 28 rfl) rfl ?_
          refine pf_X8_93 C (z_d dtX8_building_0 29 rfl) ?_
          refine z_aload_n C (z_d dtX8_building_0 30 rfl) rfl ?_
          refine z_iload_n C (z_d dtX8_building_0 31 rfl) rfl ?_
          refine pf_X8_96 C (z_d dtX8_building_0 32 rfl) ?_
          refine z_aload_n C (z_d dtX8_building_0 33 rfl) rfl ?_
          refine z_iload_n C (z_d dtX8_building_0 34 rfl) rfl ?_
          refine z_iload_n C (z_d dtX8_building_0 35 rfl) rfl ?_
          refine z_imul C (z_d dtX8_building_0 36 rfl) ?_
          refine z_iload_n C (z_d dtX8_building_0 37 rfl) rfl ?_
          refine z_imul C (z_d dtX8_building_0 38 rfl) ?_
          refine pf_X8_83 C (z_d dtX8_building_0 39 rfl) ?_
          generalize hμ0 : zS (zS (zS (zS σ 0 (zC f)) 1 (zC x)) 2 (zC y)) 60 (zC (f * x * y)) = μ0
          have a0 : zE μ0 σ [0, 1, 2, 60] := by rw [← hμ0]; exact zE_set (zE_set (zE_set (zE_set zE_rf (by decide)) (by decide)) (by decide)) (by decide)
          have q0 : μ0 0 = zC f := by rw [← hμ0]; rfl
          have q1 : μ0 1 = zC x := by rw [← hμ0]; rfl
          have q2 : μ0 2 = zC y := by rw [← hμ0]; rfl
          have q60 : μ0 60 = zC (f * x * y) := by rw [← hμ0]; rfl
          refine z_iconst C (z_d dtX8_building_1 0 rfl) ?_
          refine z_istore4 C (z_d dtX8_building_1 1 rfl) rfl ?_
          have lp_69 : ∀ (N_69 : Nat) (i1 : Nat) (c : Int) (μa : zMem), (c = i1 ∧ i1 ≤ 108) → (zE μa μ0 [4, 5]) → (∀ j : Int, 0 ≤ j → j < i1 → μa 4 j = 0 ∧ μa 5 j = 0) → 108 - i1 < N_69 → Gd K 0 0 69 [some (.ref (ad 0)), some (.int (zI f)), some (.int (zI x)), some (.int (zI y)), some (.int (zI c))] [] (wM ad (z_t K) μa) := by
            intro N_69
            induction N_69 with
            | zero => intro i1 c μa hi1 hEi1 hmi1 hm_69; exact absurd hm_69 (Nat.not_lt_zero _)
            | succ N_69 ih_69 =>
              intro i1 c μa hi1 hEi1 hmi1 hm_69
              obtain ⟨rfl, hi1⟩ := hi1
              refine z_iload C (z_d dtX8_building_1 2 rfl) rfl ?_
              refine z_bipush C (z_d dtX8_building_1 3 rfl) zb_108 ?_
              refine z_icmp_ge (tgt := 98) C (z_d dtX8_building_1 4 rfl) (by decide) (by omega) (fun h_73 => ?_) (fun h_73 => ?_)
              · refine zx_M1 (zC 0) (fun j a b => (hmi1 j a (by omega)).1) ?_
                refine zx_M2 (zC 0) (fun j a b => (hmi1 j a (by omega)).2) ?_
                have a1 : zE (zS (zS μa 4 (zC 0)) 5 (zC 0)) μ0 [4, 5] := zE_set (zE_set hEi1 (by decide)) (by decide)
                generalize hμ1 : zS (zS μa 4 (zC 0)) 5 (zC 0) = μ1 at a1 ⊢
                have q4 : μ1 4 = zC 0 := by rw [← hμ1]; rfl
                have q5 : μ1 5 = zC 0 := by rw [← hμ1]; rfl
                refine z_iconst C (z_d dtX8_building_1 17 rfl) ?_
                refine z_istore4 C (z_d dtX8_building_1 18 rfl) rfl ?_
                have lp_101 : ∀ (N_101 : Nat) (i2 : Nat) (c : Int) (μb : zMem), (c = i2 ∧ i2 ≤ 36) → (zE μb μ1 [6]) → (∀ j : Int, 0 ≤ j → j < i2 → μb 6 j = 0) → 36 - i2 < N_101 → Gd K 0 0 101 [some (.ref (ad 0)), some (.int (zI f)), some (.int (zI x)), some (.int (zI y)), some (.int (zI c))] [] (wM ad (z_t K) μb) := by
                  intro N_101
                  induction N_101 with
                  | zero => intro i2 c μb hi2 hEi2 hmi2 hm_101; exact absurd hm_101 (Nat.not_lt_zero _)
                  | succ N_101 ih_101 =>
                    intro i2 c μb hi2 hEi2 hmi2 hm_101
                    obtain ⟨rfl, hi2⟩ := hi2
                    refine z_iload C (z_d dtX8_building_1 19 rfl) rfl ?_
                    refine z_bipush C (z_d dtX8_building_1 20 rfl) zb_36 ?_
                    refine z_icmp_ge (tgt := 122) C (z_d dtX8_building_1 21 rfl) (by decide) (by omega) (fun h_105 => ?_) (fun h_105 => ?_)
                    · refine zx_M3 (zC 0) (fun j a b => hmi2 j a (by omega)) ?_
                      have a2 : zE (zS μb 6 (zC 0)) μ1 [6] := zE_set hEi2 (by decide)
                      generalize hμ2 : zS μb 6 (zC 0) = μ2 at a2 ⊢
                      have q6 : μ2 6 = zC 0 := by rw [← hμ2]; rfl
                      refine z_iconst C (z_d dtX8_building_1 29 rfl) ?_
                      refine z_istore4 C (z_d dtX8_building_1 30 rfl) rfl ?_
                      have lp_125 : ∀ (N_125 : Nat) (i3 : Nat) (c : Int) (μc : zMem), (c = i3 ∧ i3 ≤ 6336) → (zE μc μ2 [8]) → (∀ j : Int, 0 ≤ j → j < i3 → μc 8 j = 0) → 6336 - i3 < N_125 → Gd K 0 0 125 [some (.ref (ad 0)), some (.int (zI f)), some (.int (zI x)), some (.int (zI y)), some (.int (zI c))] [] (wM ad (z_t K) μc) := by
                        intro N_125
                        induction N_125 with
                        | zero => intro i3 c μc hi3 hEi3 hmi3 hm_125; exact absurd hm_125 (Nat.not_lt_zero _)
                        | succ N_125 ih_125 =>
                          intro i3 c μc hi3 hEi3 hmi3 hm_125
                          obtain ⟨rfl, hi3⟩ := hi3
                          refine z_iload C (z_d dtX8_building_1 31 rfl) rfl ?_
                          refine z_sipush C (z_d dtX8_building_1 32 rfl) zs_6336 ?_
                          refine z_icmp_ge (tgt := 147) C (z_d dtX8_building_1 33 rfl) (by decide) (by omega) (fun h_130 => ?_) (fun h_130 => ?_)
                          · refine zx_M5 (zC 0) (fun j a b => hmi3 j a (by omega)) ?_
                            have a3 : zE (zS μc 8 (zC 0)) μ2 [8] := zE_set hEi3 (by decide)
                            generalize hμ3 : zS μc 8 (zC 0) = μ3 at a3 ⊢
                            have q8 : μ3 8 = zC 0 := by rw [← hμ3]; rfl
                            refine z_iconst C (z_d dtX8_building_2 1 rfl) ?_
                            refine z_istore4 C (z_d dtX8_building_2 2 rfl) rfl ?_
                            have lp_150 : ∀ (N_150 : Nat) (i4 : Nat) (c : Int) (μd : zMem), (c = i4 ∧ i4 ≤ 20) → (zE μd μ3 [10]) → (∀ j : Int, 0 ≤ j → j < i4 → μd 10 j = -1) → 20 - i4 < N_150 → Gd K 0 0 150 [some (.ref (ad 0)), some (.int (zI f)), some (.int (zI x)), some (.int (zI y)), some (.int (zI c))] [] (wM ad (z_t K) μd) := by
                              intro N_150
                              induction N_150 with
                              | zero => intro i4 c μd hi4 hEi4 hmi4 hm_150; exact absurd hm_150 (Nat.not_lt_zero _)
                              | succ N_150 ih_150 =>
                                intro i4 c μd hi4 hEi4 hmi4 hm_150
                                obtain ⟨rfl, hi4⟩ := hi4
                                refine z_iload C (z_d dtX8_building_2 3 rfl) rfl ?_
                                refine z_bipush C (z_d dtX8_building_2 4 rfl) zb_20 ?_
                                refine z_icmp_ge (tgt := 171) C (z_d dtX8_building_2 5 rfl) (by decide) (by omega) (fun h_154 => ?_) (fun h_154 => ?_)
                                · refine zx_M7 (zC (-1)) (fun j a b => hmi4 j a (by omega)) ?_
                                  have a4 : zE (zS μd 10 (zC (-1))) μ3 [10] := zE_set hEi4 (by decide)
                                  generalize hμ4 : zS μd 10 (zC (-1)) = μ4 at a4 ⊢
                                  have q10 : μ4 10 = zC (-1) := by rw [← hμ4]; rfl
                                  refine z_aload_n C (z_d dtX8_building_2 13 rfl) rfl ?_
                                  refine z_iconst C (z_d dtX8_building_2 14 rfl) ?_
                                  refine pf_X8_99 C (z_d dtX8_building_2 15 rfl) ?_
                                  have a5 : zE (zS μ4 12 (zC 0)) μ4 [12] := zE_set zE_rf (by decide)
                                  generalize hμ5 : zS μ4 12 (zC 0) = μ5 at a5 ⊢
                                  have q12 : μ5 12 = zC 0 := by rw [← hμ5]; rfl
                                  have t4 : zE μ5 μ3 [10, 12] := zE_tr (zE_mo a5 (by decide)) (zE_mo a4 (by decide))
                                  have t3 : zE μ5 μ2 [8, 10, 12] := zE_tr (zE_mo t4 (by decide)) (zE_mo a3 (by decide))
                                  have t2 : zE μ5 μ1 [6, 8, 10, 12] := zE_tr (zE_mo t3 (by decide)) (zE_mo a2 (by decide))
                                  have t1 : zE μ5 μ0 [4, 5, 6, 8, 10, 12] := zE_tr (zE_mo t2 (by decide)) (zE_mo a1 (by decide))
                                  have t0 : zE μ5 σ [0, 1, 2, 4, 5, 6, 8, 10, 12, 60] := zE_tr (zE_mo t1 (by decide)) (zE_mo a0 (by decide))
                                  have e60 : μ5 60 = zC (f * x * y) := (t1 60 (by decide)).trans q60
                                  refine z_aload_n C (z_d dtX8_building_2 16 rfl) rfl ?_
                                  refine z_callV C (z_d dtX8_building_2 17 rfl) (k_X8_alike (n := (f * x * y).toNat) (by rw [e60]; unfold zC; omega)) cal_X8_alike gw_8_22 rfl 0 8 rfl rfl rfl rfl hR ⟨rfl, rfl, rfl, rfl⟩ rfl (fun r_177 w_177 h_177 => ?_)
                                  obtain ⟨ν, rfl, hE6, h9, hr⟩ := h_177
                                  have e61 : ν 60 = zC (f * x * y) := (hE6 60 (by decide)).trans e60
                                  have hr2 : -2147483648 ≤ r_177 ∧ r_177 < 2147483648 := by
                                    have p := zWh_ok (W := zC 1) (n := (f * x * y).toNat) (by omega) (fun c _ _ => by unfold zC; omega) (by
                                      have := zSum_b (F := zC 1) (a := 1) (b := 1) (f * x * y).toNat (fun c _ _ => ⟨Int.le_refl _, Int.le_refl _⟩)
                                      omega)
                                    have := p.1 (((f * x * y).toNat : Int) - 1) (by omega) (by omega)
                                    omega
                                  refine z_istore4 C (z_d dtX8_building_2 18 rfl) rfl ?_
                                  refine z_aload_n C (z_d dtX8_building_2 19 rfl) rfl ?_
                                  refine gf_X8_83 C (z_d dtX8_building_2 20 rfl) ?_
                                  exact ret _ _ _ _ (z_d dtX8_building_2 21 rfl) (⟨ν, rfl, Or.inr ⟨by omega, by rw [e61]; rfl, zE_tr (zE_mo hE6 (by decide)) (zE_mo t0 (by decide)), (hE6 0 (by decide)).trans ((t1 0 (by decide)).trans q0), (hE6 1 (by decide)).trans ((t1 1 (by decide)).trans q1), (hE6 2 (by decide)).trans ((t1 2 (by decide)).trans q2), (hE6 4 (by decide)).trans ((t2 4 (by decide)).trans q4), (hE6 5 (by decide)).trans ((t2 5 (by decide)).trans q5), (hE6 6 (by decide)).trans ((t3 6 (by decide)).trans q6), (hE6 8 (by decide)).trans ((t4 8 (by decide)).trans q8), (hE6 10 (by decide)).trans ((a5 10 (by decide)).trans q10), (hE6 12 (by decide)).trans q12, e61, fun c a b => h9 c a (by omega)⟩⟩) rfl
                                · refine z_aload_n C (z_d dtX8_building_2 6 rfl) rfl ?_
                                  refine gf_X8_33 C (z_d dtX8_building_2 7 rfl) ?_
                                  refine z_iload C (z_d dtX8_building_2 8 rfl) rfl ?_
                                  refine z_iconst C (z_d dtX8_building_2 9 rfl) ?_
                                  refine as_M7 C (z_d dtX8_building_2 10 rfl) (by omega) ?_
                                  refine z_iinc4 C (z_d dtX8_building_2 11 rfl) rfl ?_
                                  refine z_goto (tgt := 150) C (z_d dtX8_building_2 12 rfl) (by decide) ?_
                                  exact ih_150 (i4 + 1) _ _ (by omega) (zE_set hEi4 (by decide)) (fun j a b => by
                                          by_cases e : j = i4
                                          · subst e
                                            exact zU_s _ _ _
                                          · have q := hmi4 j a (by omega)
                                            exact (zU_n e).trans q) (by omega)
                            exact lp_150 _ 0 _ _ (by omega) zE_rf (fun j a b => absurd b (by omega)) (Nat.lt_succ_self _)
                          · refine z_aload_n C (z_d dtX8_building_1 34 rfl) rfl ?_
                            refine gf_X8_26 C (z_d dtX8_building_1 35 rfl) ?_
                            refine z_iload C (z_d dtX8_building_1 36 rfl) rfl ?_
                            refine z_iconst C (z_d dtX8_building_1 37 rfl) ?_
                            refine as_M5 C (z_d dtX8_building_1 38 rfl) (by omega) ?_
                            refine z_iinc4 C (z_d dtX8_building_1 39 rfl) rfl ?_
                            refine z_goto (tgt := 125) C (z_d dtX8_building_2 0 rfl) (by decide) ?_
                            exact ih_125 (i3 + 1) _ _ (by omega) (zE_set hEi3 (by decide)) (fun j a b => by
                                    by_cases e : j = i3
                                    · subst e
                                      exact zU_s _ _ _
                                    · have q := hmi3 j a (by omega)
                                      exact (zU_n e).trans q) (by omega)
                      exact lp_125 _ 0 _ _ (by omega) zE_rf (fun j a b => absurd b (by omega)) (Nat.lt_succ_self _)
                    · refine z_aload_n C (z_d dtX8_building_1 22 rfl) rfl ?_
                      refine gf_X8_16 C (z_d dtX8_building_1 23 rfl) ?_
                      refine z_iload C (z_d dtX8_building_1 24 rfl) rfl ?_
                      refine z_iconst C (z_d dtX8_building_1 25 rfl) ?_
                      refine as_M3 C (z_d dtX8_building_1 26 rfl) (by omega) (by omega) ?_
                      refine z_iinc4 C (z_d dtX8_building_1 27 rfl) rfl ?_
                      refine z_goto (tgt := 101) C (z_d dtX8_building_1 28 rfl) (by decide) ?_
                      exact ih_101 (i2 + 1) _ _ (by omega) (zE_set hEi2 (by decide)) (fun j a b => by
                              by_cases e : j = i2
                              · subst e
                                exact zU_s _ _ _
                              · have q := hmi2 j a (by omega)
                                exact (zU_n e).trans q) (by omega)
                exact lp_101 _ 0 _ _ (by omega) zE_rf (fun j a b => absurd b (by omega)) (Nat.lt_succ_self _)
              · refine z_aload_n C (z_d dtX8_building_1 5 rfl) rfl ?_
                refine gf_X8_7 C (z_d dtX8_building_1 6 rfl) ?_
                refine z_iload C (z_d dtX8_building_1 7 rfl) rfl ?_
                refine z_iconst C (z_d dtX8_building_1 8 rfl) ?_
                refine as_M1 C (z_d dtX8_building_1 9 rfl) (by omega) (by omega) ?_
                refine z_aload_n C (z_d dtX8_building_1 10 rfl) rfl ?_
                refine gf_X8_13 C (z_d dtX8_building_1 11 rfl) ?_
                refine z_iload C (z_d dtX8_building_1 12 rfl) rfl ?_
                refine z_iconst C (z_d dtX8_building_1 13 rfl) ?_
                refine as_M2 C (z_d dtX8_building_1 14 rfl) (by omega) (by omega) ?_
                refine z_iinc4 C (z_d dtX8_building_1 15 rfl) rfl ?_
                refine z_goto (tgt := 69) C (z_d dtX8_building_1 16 rfl) (by decide) ?_
                exact ih_69 (i1 + 1) _ _ (by omega) (zE_set (zE_set hEi1 (by decide)) (by decide)) (fun j a b => by
                        by_cases e : j = i1
                        · subst e
                          exact ⟨zU_s _ _ _, zU_s _ _ _⟩
                        · have q := hmi1 j a (by omega)
                          exact ⟨(zU_n e).trans q.1, (zU_n e).trans q.2⟩) (by omega)
          exact lp_69 _ 0 _ _ (by omega) zE_rf (fun j a b => absurd b (by omega)) (Nat.lt_succ_self _)
        · refine z_bipush C (z_d dtX8_building_0 22 rfl) zb_m2 ?_
          exact ret _ _ _ _ (z_d dtX8_building_0 23 rfl) (⟨σ, rfl, Or.inl ⟨by omega, rfl, rfl⟩⟩) rfl
