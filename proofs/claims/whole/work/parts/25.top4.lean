/-! THE SYSTEM: within, ways, counts, digest -/
def zW1 (σ : zMem) (f y x0 : Int) : Nat → Int
  | 0 => 0
  | n + 1 => zW1 σ f y x0 n + σ 9 ((f * σ 2 0 + y) * σ 1 0 + (x0 + n))
def zW2 (σ : zMem) (f x0 y0 : Int) (m : Nat) : Nat → Int
  | 0 => 0
  | k + 1 => zW2 σ f x0 y0 m k + zW1 σ f (y0 + k) x0 m
theorem zCA_b {σ : zMem} (hw : zHw σ) {f x y : Int} (hf : 0 ≤ f ∧ f < σ 0 0) (hx : 0 ≤ x ∧ x < σ 1 0) (hy : 0 ≤ y ∧ y < σ 2 0) : 0 ≤ (f * σ 2 0 + y) * σ 1 0 + x ∧ (f * σ 2 0 + y) * σ 1 0 + x < zN σ := by
  have hW := hw
  unfold zHw at hW
  have a0 := Int.mul_nonneg hf.1 (show 0 ≤ σ 2 0 by omega)
  have a1 := Int.mul_le_mul_of_nonneg_right (show f + 1 ≤ σ 0 0 by omega) (show 0 ≤ σ 2 0 by omega)
  rw [Int.add_mul, Int.one_mul] at a1
  have a2 := Int.mul_nonneg (show 0 ≤ f * σ 2 0 + y by omega) (show 0 ≤ σ 1 0 by omega)
  have a3 := Int.mul_le_mul_of_nonneg_right (show f * σ 2 0 + y + 1 ≤ σ 0 0 * σ 2 0 by omega) (show 0 ≤ σ 1 0 by omega)
  rw [Int.add_mul, Int.one_mul, Int.mul_assoc (σ 0 0), Int.mul_comm (σ 2 0), ← zN_eq] at a3
  omega
theorem okX_39 {μ σ : zMem} (h : zE μ σ [39, 41]) (ok : okX σ) : okX μ := by
  obtain ⟨⟨a1, a2, a3, a4, a5, a6, a7, a8⟩, ⟨b1, b2⟩, c, ⟨d1, d2, d3⟩, e, ⟨f1, f2, f3, f4⟩, g, ⟨i1, i2, i3, i4, i5⟩⟩ := ok
  have eN := zN_E h (by decide) (by decide) (by decide)
  refine ⟨⟨zHw_E h (by decide) (by decide) (by decide) a1, by rw [h 3 (by decide)]; exact a2, zTb_E h (by decide) (by decide) (by decide) (by decide) (by decide) (by decide) (by decide) (by decide) a3, zBo_E h (by decide) a4, zBo_E h (by decide) a5, zBo_E h (by decide) a6, ?_, ?_⟩, ⟨zBo_E h (by decide) b1, by rw [h 30 (by decide), h 7 (by decide)]; exact b2⟩, ?_, ⟨?_, ?_, ?_⟩, ?_, ⟨?_, ?_, ?_, ?_⟩, ?_, ⟨zBo_E h (by decide) i1, ?_, ?_, ?_, ?_⟩⟩
  · rw [h 31 (by decide), a7]; unfold zWc; rw [eN, h 4 (by decide), h 5 (by decide)]
  · rw [h 32 (by decide), a8]; unfold zLc; rw [h 6 (by decide)]
  · unfold zMp; rw [h 8 (by decide)]; exact c
  · rw [h 36 (by decide), eN]; exact d1
  · rw [eN, h 9 (by decide)]; exact d2
  · rw [eN, h 9 (by decide)]; exact d3
  · unfold oW; rw [eN, h 10 (by decide)]; exact e
  · rw [h 11 (by decide)]; exact f1
  · rw [h 12 (by decide)]; exact f2
  · rw [h 49 (by decide)]; exact f3
  · rw [h 12 (by decide), h 51 (by decide), h 49 (by decide), h 50 (by decide), h 13 (by decide)]
    unfold zIsA
    rw [h 0 (by decide), h 1 (by decide), h 2 (by decide)]
    exact f4
  · unfold oT; rw [h 14 (by decide)]; exact g
  · rw [h 17 (by decide)]; exact i2
  · rw [h 18 (by decide)]; exact i3
  · unfold zIt; rw [h 20 (by decide)]; exact i4
  · rw [h 40 (by decide), h 16 (by decide), h 18 (by decide)]; exact i5
theorem zMr_E {μ σ : zMem} {l : List Nat} (h : zE μ σ l) (h20 : 20 ∉ l := by decide) (z k : Int) : ∀ n : Nat, zMr μ z k n = zMr σ z k n
  | 0 => rfl
  | n + 1 => by rw [zMr, zMr, zMr_E h h20 z k n, zHv_E h h20]
theorem zMu_E {μ σ : zMem} {l : List Nat} (h : zE μ σ l) (h0 : 0 ∉ l := by decide) (h1 : 1 ∉ l := by decide) (h2 : 2 ∉ l := by decide) (h3 : 3 ∉ l := by decide) (h33 : 33 ∉ l := by decide) (h7 : 7 ∉ l := by decide) (h8 : 8 ∉ l := by decide) (h20 : 20 ∉ l := by decide) (z k R : Int) : ∀ n : Nat, zMu μ z k R n = zMu σ z k R n
  | 0 => rfl
  | n + 1 => by
    rw [zMu, zMu, zMu_E h h0 h1 h2 h3 h33 h7 h8 h20 z k R n, zHv_E h h20, zWt_E h h8, zWy_E h h0 h1 h2 h3 h33 h7 h8 h20]
theorem zVf_E {μ σ : zMem} {l : List Nat} (h : zE μ σ l) (h0 : 0 ∉ l := by decide) (h1 : 1 ∉ l := by decide) (h2 : 2 ∉ l := by decide) (h3 : 3 ∉ l := by decide) (h33 : 33 ∉ l := by decide) (h7 : 7 ∉ l := by decide) (h8 : 8 ∉ l := by decide) (h20 : 20 ∉ l := by decide) (z k R : Int) : zVf μ z k R = zVf σ z k R := by
  unfold zVf
  rw [zV_E h h0 h1 h2 h3 h33 h7 h8 h20, zWy_E h h0 h1 h2 h3 h33 h7 h8 h20]
theorem zMvd_E {μ σ : zMem} (h : zE μ σ [39, 41]) (z k : Int) : zMvd μ z k ↔ zMvd σ z k := by
  unfold zMvd
  rw [h 18 (by decide), zVf_E h (by decide) (by decide) (by decide) (by decide) (by decide) (by decide) (by decide) (by decide), zMr_E h (by decide), zMu_E h (by decide) (by decide) (by decide) (by decide) (by decide) (by decide) (by decide) (by decide)]
def zBt (σ : zMem) (z : Int) : Nat → Int
  | 0 => 0
  | k + 1 => zBt σ z k + if σ 7 k = 0 ∧ zMvd σ z k then z_p2 k else 0
theorem zBt_b (σ : zMem) (z : Int) (k : Nat) (hk : k ≤ 8) : 0 ≤ zBt σ z k ∧ (k < 8 → zBt σ z k < z_p2 k) ∧ zBt σ z k < 256 := by
  have s : ∀ j : Nat, 0 ≤ (if σ 7 j = 0 ∧ zMvd σ z j then z_p2 j else 0) ∧ (if σ 7 j = 0 ∧ zMvd σ z j then z_p2 j else 0) ≤ z_p2 j := by
    intro j
    have : 0 ≤ z_p2 j := by unfold z_p2; repeat (split; omega); omega
    split <;> omega
  have p : z_p2 ((0 : Nat) : Int) = 1 ∧ z_p2 ((1 : Nat) : Int) = 2 ∧ z_p2 ((2 : Nat) : Int) = 4 ∧ z_p2 ((3 : Nat) : Int) = 8 ∧ z_p2 ((4 : Nat) : Int) = 16 ∧ z_p2 ((5 : Nat) : Int) = 32 ∧ z_p2 ((6 : Nat) : Int) = 64 ∧ z_p2 ((7 : Nat) : Int) = 128 := by decide +kernel
  obtain ⟨F, hF, hS⟩ : ∃ F : Nat → Int, (∀ j : Nat, 0 ≤ F j ∧ F j ≤ z_p2 j) ∧ ∀ j, zBt σ z (j + 1) = zBt σ z j + F j := ⟨fun j => if σ 7 j = 0 ∧ zMvd σ z j then z_p2 j else 0, s, fun j => rfl⟩
  clear s
  have s0 := hF 0; have s1 := hF 1; have s2 := hF 2; have s3 := hF 3; have s4 := hF 4; have s5 := hF 5; have s6 := hF 6; have s7 := hF 7
  have e0 : zBt σ z 0 = 0 := rfl
  have e1 := hS 0; have e2 := hS 1; have e3 := hS 2; have e4 := hS 3; have e5 := hS 4; have e6 := hS 5; have e7 := hS 6; have e8 := hS 7
  simp only [Nat.zero_add, Nat.reduceAdd] at e1 e2 e3 e4 e5 e6 e7 e8
  rcases (show k = 0 ∨ k = 1 ∨ k = 2 ∨ k = 3 ∨ k = 4 ∨ k = 5 ∨ k = 6 ∨ k = 7 ∨ k = 8 by omega) with rfl | rfl | rfl | rfl | rfl | rfl | rfl | rfl | rfl <;> omega
theorem z_orn {b k : Int} (hk : 0 ≤ k ∧ k < 8) (hb : 0 ≤ b ∧ b < z_p2 k) : zI b ||| zI (z_p2 k) = zI (b + z_p2 k) := by
  have : z_p2 k ≤ 128 := by unfold z_p2; repeat (split; omega); omega
  rw [z_orb (by omega) hk, Int.ediv_eq_zero_of_lt hb.1 hb.2]
  simp
theorem zSv_c {μ σ : zMem} (h8 : μ 8 = σ 8) (h20 : μ 20 = σ 20) (s row c : Int) : ∀ n : Nat, zSv μ s row c n = zSv σ s row c n
  | 0 => h8
  | n + 1 => by
    have e : zHv μ s row n = zHv σ s row n := by unfold zHv; rw [h20]
    rw [zSv, zSv, zSv_c h8 h20 s row c n, e]
def zCt (σ : zMem) (k : Int) : Int := if k = 0 then σ 0 0 else if k = 1 then σ 1 0 else if k = 2 then σ 2 0 else if k = 3 then zWc σ else if k = 4 then zLc σ else if k = 5 then σ 12 0 else if k = 6 then σ 19 0 else if k = 7 then σ 3 0 else if k = 8 then σ 11 0 else if k = 9 then zDb (σ 7) else if k = 10 then zSo (σ 10) 20 else -2
theorem zCt_b {σ : zMem} (ok : okX σ) (k : Int) (h6 : k ≠ 6) : -2147483648 ≤ zCt σ k ∧ zCt σ k < 2147483648 := by
  obtain ⟨⟨a1, a2, a3, a4, a5, a6, a7, a8⟩, ⟨b1, b2⟩, c, d, e, ⟨f1, f2, f3, f4⟩, g, i⟩ := ok
  have w : 0 * ((zN σ).toNat : Int) ≤ zWc σ ∧ zWc σ ≤ 2 * ((zN σ).toNat : Int) := zSum_b _ (fun c _ _ => by have := a4 c; have := a5 c; (try dsimp only); omega)
  have l : 0 * ((36 : Nat) : Int) ≤ zLc σ ∧ zLc σ ≤ 1 * ((36 : Nat) : Int) := zSum_b _ (fun c _ _ => by have := a6 c; omega)
  have hN := zHw_N a1
  have hd := zDb_b b1
  have hso := zSo_b (σ 10) 20
  unfold zHw at a1
  unfold zCt
  repeat (split; omega)
  omega
def zD1 (σ : zMem) : Nat → Int
  | 0 => 17
  | k + 1 => if (k : Int) = 6 then zD1 σ k else 31 * zD1 σ k + zCt σ k
def zD2 (σ : zMem) : Nat → Int
  | 0 => zD1 σ 11
  | c + 1 => 31 * zD2 σ c + σ 9 c
def zD4 (σ : zMem) (h k : Int) : Nat → Int
  | 0 => h
  | c + 1 => 31 * zD4 σ h k c + zWa σ k c 11
def zD3 (σ : zMem) : Nat → Int
  | 0 => zD2 σ (zN σ).toNat
  | k + 1 => zD4 σ (zD3 σ k) k (zN σ).toNat

set_option maxRecDepth 100000 in
set_option maxHeartbeats 4000000 in
theorem k_X7_within {l : Launch} {D : va_G} {t : Nat → ClassId} {ad : Nat → Nat} {σ : zMem} {f x0 x1 y0 y1 : Int} (ok : okX σ) (hf : -2147483648 ≤ f ∧ f < 2147483648) (hx0 : -2147483648 ≤ x0 ∧ x0 < 2147483648) (hx1 : -2147483648 ≤ x1 ∧ x1 < 2147483648) (hy0 : -2147483648 ≤ y0 ∧ y0 < 2147483648) (hy1 : -2147483648 ≤ y1 ∧ y1 < 2147483648) : z_Ci l D t yX7_within cX7_within 9 .int 2 47 0 0 [.ref (ad 0), .int (zI f), .int (zI x0), .int (zI x1), .int (zI y0), .int (zI y1)] (wX ad t σ) (fun r w => w = wX ad t σ ∧ ((¬ zIsA σ f x0 x1 y0 y1 ∧ r = -2) ∨ (zIsA σ f x0 x1 y0 y1 ∧ r = zW2 σ f x0 y0 (x1 - x0 + 1).toNat (y1 - y0 + 1).toNat))) := by
  refine z_Ci_of (by decide +kernel) [some (.ref (ad 0)), some (.int (zI f)), some (.int (zI x0)), some (.int (zI x1)), some (.int (zI y0)), some (.int (zI y1)), none, none, none] rfl rfl (Nat.le_of_ble_eq_true rfl) fun K hl hD ht hR hnm C ret => ?_
  subst hl; subst hD; subst ht
  have ok2 := ok
  obtain ⟨⟨hw, hs, ht, h4, h5, h6, hwc, hlc⟩, ⟨h7, hdd⟩, hmp, oS1, oW1, oA1, oT1, oB1⟩ := ok2
  have hN := zHw_N hw
  have hW := hw; unfold zHw at hW
  refine z_aload_n C (z_d dtX7_within_0 0 rfl) rfl ?_
  refine gf_X7_10 C (z_d dtX7_within_0 1 rfl) ?_
  refine z_iload_n C (z_d dtX7_within_0 2 rfl) rfl ?_
  refine z_iload_n C (z_d dtX7_within_0 3 rfl) rfl ?_
  refine z_iload_n C (z_d dtX7_within_0 4 rfl) rfl ?_
  refine z_iload C (z_d dtX7_within_0 5 rfl) rfl ?_
  refine z_iload C (z_d dtX7_within_0 6 rfl) rfl ?_
  refine z_callV C (z_d dtX7_within_0 7 rfl) (k_X3_hasArea  (by first | assumption | omega) hf hx0 hx1 hy0 hy1) cal_X3_hasArea gw_24_3 rfl 1 3 rfl rfl rfl rfl hR ⟨rfl, rfl, rfl, rfl⟩ rfl (fun r_11 w_11 h_11 => ?_)
  obtain ⟨rfl, h_11⟩ := h_11
  refine z_if_ne (tgt := 20) C (z_d dtX7_within_0 8 rfl) (by decide) (by omega) (fun h_14 => ?_) (fun h_14 => ?_)
  · have hia : zIsA σ f x0 x1 y0 y1 := h_11.elim (fun q => q.2) (fun q => absurd q.1 h_14)
    have hib := hia; unfold zIsA at hib
    refine z_iconst C (z_d dtX7_within_0 11 rfl) ?_
    refine z_istore6 C (z_d dtX7_within_0 12 rfl) rfl ?_
    refine z_iload C (z_d dtX7_within_0 13 rfl) rfl ?_
    refine z_istore7 C (z_d dtX7_within_0 14 rfl) rfl ?_
    have lp_27 : ∀ (N_27 : Nat) (k : Nat) (y s : Int), (y = y0 + k ∧ k ≤ (y1 - y0 + 1).toNat) → (s = zW2 σ f x0 y0 (x1 - x0 + 1).toNat k) → (y1 - y0 + 1).toNat - k < N_27 → Gd K 0 0 27 [some (.ref (ad 0)), some (.int (zI f)), some (.int (zI x0)), some (.int (zI x1)), some (.int (zI y0)), some (.int (zI y1)), some (.int (zI s)), some (.int (zI y)), none] [] (wX ad (z_t K) σ) := by
      intro N_27
      induction N_27 with
      | zero => intro k y s hk hs2 hm_27; exact absurd hm_27 (Nat.not_lt_zero _)
      | succ N_27 ih_27 =>
        intro k y s hk hs2 hm_27
        obtain ⟨rfl, hk⟩ := hk
        refine z_iload C (z_d dtX7_within_0 15 rfl) rfl ?_
        refine z_iload C (z_d dtX7_within_0 16 rfl) rfl ?_
        refine z_icmp_gt (tgt := 79) C (z_d dtX7_within_0 17 rfl) (by decide) (by omega) (fun h_31 => ?_) (fun h_31 => ?_)
        · refine z_iload C (z_d dtX7_within_0 39 rfl) rfl ?_
          exact ret _ _ _ _ (z_d dtX7_within_1 0 rfl) (⟨rfl, Or.inr ⟨hia, by rw [hs2, show k = (y1 - y0 + 1).toNat by omega]⟩⟩) rfl
        · refine z_iload_n C (z_d dtX7_within_0 18 rfl) rfl ?_
          refine z_istore8 C (z_d dtX7_within_0 19 rfl) rfl ?_
          have lp_37 : ∀ (N_37 : Nat) (m : Nat) (x s2 : Int), (x = x0 + m ∧ m ≤ (x1 - x0 + 1).toNat) → (s2 = zW2 σ f x0 y0 (x1 - x0 + 1).toNat k + zW1 σ f (y0 + k) x0 m) → (x1 - x0 + 1).toNat - m < N_37 → Gd K 0 0 37 [some (.ref (ad 0)), some (.int (zI f)), some (.int (zI x0)), some (.int (zI x1)), some (.int (zI y0)), some (.int (zI y1)), some (.int (zI s2)), some (.int (zI (y0 + (k : Int)))), some (.int (zI x))] [] (wX ad (z_t K) σ) := by
            intro N_37
            induction N_37 with
            | zero => intro m x s2 hm hs3 hm_37; exact absurd hm_37 (Nat.not_lt_zero _)
            | succ N_37 ih_37 =>
              intro m x s2 hm hs3 hm_37
              obtain ⟨rfl, hm⟩ := hm
              refine z_iload C (z_d dtX7_within_0 20 rfl) rfl ?_
              refine z_iload_n C (z_d dtX7_within_0 21 rfl) rfl ?_
              refine z_icmp_gt (tgt := 73) C (z_d dtX7_within_0 22 rfl) (by decide) (by omega) (fun h_40 => ?_) (fun h_40 => ?_)
              · refine z_iinc7 C (z_d dtX7_within_0 37 rfl) rfl ?_
                refine z_goto (tgt := 27) C (z_d dtX7_within_0 38 rfl) (by decide) ?_
                refine z_drop8 ?_
                exact ih_27 (k + 1) _ _ (by omega) (by rw [zW2, hs3, show m = (x1 - x0 + 1).toNat by omega]) (by omega)
              · refine z_iload C (z_d dtX7_within_0 23 rfl) rfl ?_
                refine z_aload_n C (z_d dtX7_within_0 24 rfl) rfl ?_
                have hca := zCA_b hw (f := f) (x := x0 + m) (y := y0 + k) (by omega) (by omega) (by omega)
                refine gf_X7_26 C (z_d dtX7_within_0 25 rfl) ?_
                refine z_aload_n C (z_d dtX7_within_0 26 rfl) rfl ?_
                refine gf_X7_10 C (z_d dtX7_within_0 27 rfl) ?_
                refine z_iload_n C (z_d dtX7_within_0 28 rfl) rfl ?_
                refine z_iload C (z_d dtX7_within_0 29 rfl) rfl ?_
                refine z_iload C (z_d dtX7_within_0 30 rfl) rfl ?_
                refine z_callV C (z_d dtX7_within_0 31 rfl) (k_X3_cellAt  ) cal_X3_cellAt gw_24_8 rfl 1 3 rfl rfl rfl rfl hR ⟨rfl, rfl, rfl, rfl⟩ rfl (fun r_58 w_58 h_58 => ?_)
                obtain ⟨rfl, rfl⟩ := h_58
                refine z_callV C (z_d dtX7_within_0 32 rfl) (k_X1_shareOf  (by omega)) cal_X1_shareOf gw_20_0 rfl 3 1 rfl rfl rfl rfl hR ⟨rfl, rfl, rfl, rfl⟩ rfl (fun r_61 w_61 h_61 => ?_)
                obtain ⟨rfl, rfl⟩ := h_61
                refine z_iadd C (z_d dtX7_within_0 33 rfl) ?_
                refine z_istore6 C (z_d dtX7_within_0 34 rfl) rfl ?_
                refine z_iinc8 C (z_d dtX7_within_0 35 rfl) rfl ?_
                refine z_goto (tgt := 37) C (z_d dtX7_within_0 36 rfl) (by decide) ?_
                exact ih_37 (m + 1) _ _ (by omega) (by rw [zW1, hs3]; omega) (by omega)
          exact lp_37 _ 0 _ _ (by omega) (by rw [zW1]; omega) (Nat.lt_succ_self _)
    exact lp_27 _ 0 _ _ (by omega) rfl (Nat.lt_succ_self _)
  · have hia : ¬ zIsA σ f x0 x1 y0 y1 := h_11.elim (fun q => by omega) (fun q => q.2)
    refine z_bipush C (z_d dtX7_within_0 9 rfl) zb_m2 ?_
    exact ret _ _ _ _ (z_d dtX7_within_0 10 rfl) (⟨rfl, Or.inl ⟨hia, rfl⟩⟩) rfl

set_option maxRecDepth 100000 in
set_option maxHeartbeats 4000000 in
theorem k_X7_best {l : Launch} {D : va_G} {t : Nat → ClassId} {ad : Nat → Nat} {σ : zMem} {z : Int} (ok : okX σ) (hz : -2147483648 ≤ z ∧ z < 2147483648) : z_Ci l D t yX7_best cX7_best 3 .int 7 171 0 0 [.ref (ad 0), .int (zI z)] (wX ad t σ) (fun r w => ∃ σ', w = wX ad t σ' ∧ ((¬ (0 ≤ z ∧ z < 4) ∧ r = -2 ∧ σ' = σ) ∨ ((0 ≤ z ∧ z < 4) ∧ ((σ 16 z = 0 ∧ r = -11 ∧ σ' = zS σ 19 (zC 1)) ∨ (σ 16 z = 1 ∧ ((((σ 18 z / 8) = 0 ∨ zVf σ z (-1) (σ 18 z / 8) = -1) ∧ r = -3 ∧ zE σ' σ [39, 41]) ∨ (1 ≤ (σ 18 z / 8) ∧ 0 ≤ r ∧ r = zVf σ z (-1) (σ 18 z / 8) ∧ zE σ' σ [14, 15, 39, 41] ∧ σ' 14 = zC (σ 18 z / 8) ∧ (σ' 15 = fun i => if 0 ≤ i ∧ i < (σ 18 z / 8) then zWy σ z (-1) (σ 18 z / 8) i.toNat else σ 15 i)))))))) := by
  refine z_Ci_of (by decide +kernel) [some (.ref (ad 0)), some (.int (zI z)), none] rfl rfl (Nat.le_of_ble_eq_true rfl) fun K hl hD ht hR hnm C ret => ?_
  subst hl; subst hD; subst ht
  have ok2 := ok
  obtain ⟨⟨hw, hs, ht, h4, h5, h6, hwc, hlc⟩, ⟨h7, hdd⟩, hmp, oS1, oW1, oA1, oT1, oB1⟩ := ok2
  have hN := zHw_N hw
  have hW := hw; unfold zHw at hW
  have hit := oB1.2.2.2.1
  have h16 := oB1.1
  have hff := oB1.2.1
  have hsz := oB_s oB1
  have h40 := oB1.2.2.2.2
  have h16z := h16 z
  have h40z := h40 z
  have hszz := hsz z
  refine z_iload_n C (z_d dtX7_best_0 0 rfl) rfl ?_
  refine z_callS C (z_d dtX7_best_0 1 rfl) (k_X7_isSheet  (by first | assumption | omega)) cal_X7_isSheet gw_15_9 rfl rfl hR ⟨rfl, rfl, rfl, rfl⟩ rfl (fun r_1 w_1 h_1 => ?_)
  obtain ⟨rfl, h_1⟩ := h_1
  refine z_if_ne (tgt := 10) C (z_d dtX7_best_0 2 rfl) (by decide) (by omega) (fun h_4 => ?_) (fun h_4 => ?_)
  · refine z_aload_n C (z_d dtX7_best_0 5 rfl) rfl ?_
    refine z_aload_n C (z_d dtX7_best_0 6 rfl) rfl ?_
    refine gf_X7_46 C (z_d dtX7_best_0 7 rfl) ?_
    refine z_iload_n C (z_d dtX7_best_0 8 rfl) rfl ?_
    refine al_Xsh C (z_d dtX7_best_0 9 rfl) (by omega) ?_
    refine z_callV C (z_d dtX7_best_0 10 rfl) (k_X7_bestScore  (by first | assumption | omega) (by omega)) cal_X7_bestScore gw_25_17 rfl 0 7 rfl rfl rfl rfl hR ⟨rfl, rfl, rfl, rfl⟩ rfl (fun r_17 w_17 h_17 => ?_)
    obtain ⟨σ_17, rfl, h17⟩ := h_17
    have hr17 : -2147483648 ≤ r_17 ∧ r_17 < 2147483648 := by
      rcases h17 with ⟨a, b, g⟩ | ⟨a, b, g | g⟩
      · omega
      · omega
      · have := zV_b hmp hs z (-1) (σ 18 z / 8) (σ 18 z / 8 - 1).toNat (zWy σ z (-1) (σ 18 z / 8) 0)
        have e : r_17 = zV σ z (-1) (σ 18 z / 8) (σ 18 z / 8 - 1).toNat (zWy σ z (-1) (σ 18 z / 8) 0) := g.2.2.1
        have := oB1.2.2.1 z
        omega
    refine z_istore_n2 C (z_d dtX7_best_0 11 rfl) rfl ?_
    refine z_iload_n C (z_d dtX7_best_0 12 rfl) rfl ?_
    refine z_if_lt (tgt := 38) C (z_d dtX7_best_0 13 rfl) (by decide) (by omega) (fun h_22 => ?_) (fun h_22 => ?_)
    · refine z_iload_n C (z_d dtX7_best_0 21 rfl) rfl ?_
      exact ret _ _ _ _ (z_d dtX7_best_0 22 rfl) (by
          first
            | exact ⟨_, rfl, Or.inr ⟨by omega, Or.inr ⟨hth.1, Or.inr ⟨hsc.1, hsc.2.1, hsc.2.2.1, zE_set (zE_set (zE_mo hE17 (by decide)) (by decide)) (by decide), rfl, (funext fun i => by
                show (if 0 ≤ i ∧ i < σ 18 z / 8 then σ_17 39 i else σ_17 15 i) = _
                split
                · rename_i q
                  have := hsc.2.2.2 i.toNat (by omega)
                  rw [Int.toNat_of_nonneg q.1] at this
                  exact this
                · rw [hE17 15 (by decide)])⟩⟩⟩⟩
            | (rcases h17 with ⟨a, b, g⟩ | ⟨a, b, g | g⟩
               · exact ⟨_, rfl, Or.inr ⟨by omega, Or.inl ⟨a, b, g⟩⟩⟩
               · exact ⟨_, rfl, Or.inr ⟨by omega, Or.inr ⟨a, Or.inl ⟨g.1, g.2, b⟩⟩⟩⟩
               · exfalso; omega)) rfl
    · have hsc : 1 ≤ σ 18 z / 8 ∧ 0 ≤ r_17 ∧ r_17 = zVf σ z (-1) (σ 18 z / 8) ∧ ∀ k : Nat, k < σ 18 z / 8 → σ_17 39 k = zWy σ z (-1) (σ 18 z / 8) k := by
        rcases h17 with ⟨a, b, g⟩ | ⟨a, b, g | g⟩
        · omega
        · omega
        · exact g
      have hth : σ 16 z = 1 ∧ zE σ_17 σ [39, 41] := by
        rcases h17 with ⟨a, b, g⟩ | ⟨a, b, g⟩
        · omega
        · exact ⟨a, b⟩
      have hE17 := hth.2
      rw [if_pos hth.1] at h40z
      have e40 : σ_17 40 z = σ 40 z := by rw [hE17 40 (by decide)]
      refine z_aload_n C (z_d dtX7_best_0 14 rfl) rfl ?_
      refine z_aload_n C (z_d dtX7_best_0 15 rfl) rfl ?_
      refine gf_X7_46 C (z_d dtX7_best_0 16 rfl) ?_
      refine z_iload_n C (z_d dtX7_best_0 17 rfl) rfl ?_
      refine al_Xsh C (z_d dtX7_best_0 18 rfl) (by omega) ?_
      refine z_callV C (z_d dtX7_best_0 19 rfl) (k_X5_rows  (by omega) (by rw [e40]; exact hszz)) cal_X5_rows gw_15_16 rfl (22 + _) 5 (wX_sh (by omega)) rfl rfl rfl hR ⟨rfl, rfl, rfl, rfl⟩ rfl (fun r_32 w_32 h_32 => ?_)
      obtain ⟨rfl, rfl⟩ := h_32
      rw [e40, h40z]
      refine z_callVv C (z_d dtX7_best_0 20 rfl) (k_X7_tellWay  (by have := oB1.2.2.1 z; omega)) cal_X7_tellWay gw_27_0 rfl 0 7 rfl rfl rfl rfl hR ⟨rfl, rfl, rfl, rfl⟩ rfl (fun w_35 h_35 => ?_)
      obtain rfl := h_35
      refine z_iload_n C (z_d dtX7_best_0 21 rfl) rfl ?_
      exact ret _ _ _ _ (z_d dtX7_best_0 22 rfl) (by
          first
            | exact ⟨_, rfl, Or.inr ⟨by omega, Or.inr ⟨hth.1, Or.inr ⟨hsc.1, hsc.2.1, hsc.2.2.1, zE_set (zE_set (zE_mo hE17 (by decide)) (by decide)) (by decide), rfl, (funext fun i => by
                show (if 0 ≤ i ∧ i < σ 18 z / 8 then σ_17 39 i else σ_17 15 i) = _
                split
                · rename_i q
                  have := hsc.2.2.2 i.toNat (by omega)
                  rw [Int.toNat_of_nonneg q.1] at this
                  exact this
                · rw [hE17 15 (by decide)])⟩⟩⟩⟩
            | (rcases h17 with ⟨a, b, g⟩ | ⟨a, b, g | g⟩
               · exact ⟨_, rfl, Or.inr ⟨by omega, Or.inl ⟨a, b, g⟩⟩⟩
               · exact ⟨_, rfl, Or.inr ⟨by omega, Or.inr ⟨a, Or.inl ⟨g.1, g.2, b⟩⟩⟩⟩
               · exfalso; omega)) rfl
  · refine z_bipush C (z_d dtX7_best_0 3 rfl) zb_m2 ?_
    exact ret _ _ _ _ (z_d dtX7_best_0 4 rfl) (⟨σ, rfl, Or.inl ⟨by omega, rfl, rfl⟩⟩) rfl

set_option maxRecDepth 100000 in
set_option maxHeartbeats 4000000 in
theorem k_X7_learn {l : Launch} {D : va_G} {t : Nat → ClassId} {ad : Nat → Nat} {σ : zMem} {z : Int} (ok : okX σ) (hz : -2147483648 ≤ z ∧ z < 2147483648) : z_Ci l D t yX7_learn cX7_learn 5 .int 7 171 0 0 [.ref (ad 0), .int (zI z)] (wX ad t σ) (fun r w => ∃ σ', w = wX ad t σ' ∧ ((¬ (0 ≤ z ∧ z < 4) ∧ r = -2 ∧ σ' = σ) ∨ ((0 ≤ z ∧ z < 4) ∧ ((σ 16 z = 0 ∧ r = -11 ∧ σ' = zS σ 19 (zC 1)) ∨ (σ 16 z = 1 ∧ ((((σ 18 z / 8) = 0 ∨ zVf σ z (-1) (σ 18 z / 8) = -1) ∧ r = -3 ∧ zE σ' σ [39, 41]) ∨ (1 ≤ (σ 18 z / 8) ∧ zVf σ z (-1) (σ 18 z / 8) ≠ -1 ∧ r = (σ 18 z / 8) ∧ zE σ' σ [8, 14, 15, 39, 41] ∧ σ' 14 = zC (σ 18 z / 8) ∧ (σ' 15 = fun i => if 0 ≤ i ∧ i < (σ 18 z / 8) then zWy σ z (-1) (σ 18 z / 8) i.toNat else σ 15 i) ∧ σ' 8 = zLm σ z (zWy σ z (-1) (σ 18 z / 8)) (σ 18 z / 8).toNat))))))) := by
  refine z_Ci_of (by decide +kernel) [some (.ref (ad 0)), some (.int (zI z)), none, none, none] rfl rfl (Nat.le_of_ble_eq_true rfl) fun K hl hD ht hR hnm C ret => ?_
  subst hl; subst hD; subst ht
  have ok2 := ok
  obtain ⟨⟨hw, hs, ht, h4, h5, h6, hwc, hlc⟩, ⟨h7, hdd⟩, hmp, oS1, oW1, oA1, oT1, oB1⟩ := ok2
  have hN := zHw_N hw
  have hW := hw; unfold zHw at hW
  have hit := oB1.2.2.2.1
  have h16 := oB1.1
  have hff := oB1.2.1
  have hsz := oB_s oB1
  have h40 := oB1.2.2.2.2
  have h16z := h16 z
  have h40z := h40 z
  have hszz := hsz z
  refine z_iload_n C (z_d dtX7_learn_0 0 rfl) rfl ?_
  refine z_callS C (z_d dtX7_learn_0 1 rfl) (k_X7_isSheet  (by first | assumption | omega)) cal_X7_isSheet gw_15_9 rfl rfl hR ⟨rfl, rfl, rfl, rfl⟩ rfl (fun r_1 w_1 h_1 => ?_)
  obtain ⟨rfl, h_1⟩ := h_1
  refine z_if_ne (tgt := 10) C (z_d dtX7_learn_0 2 rfl) (by decide) (by omega) (fun h_4 => ?_) (fun h_4 => ?_)
  · refine z_aload_n C (z_d dtX7_learn_0 5 rfl) rfl ?_
    refine gf_X7_46 C (z_d dtX7_learn_0 6 rfl) ?_
    refine z_iload_n C (z_d dtX7_learn_0 7 rfl) rfl ?_
    refine al_Xsh C (z_d dtX7_learn_0 8 rfl) (by omega) ?_
    refine z_astore_n2 C (z_d dtX7_learn_0 9 rfl) rfl ?_
    refine z_aload_n C (z_d dtX7_learn_0 10 rfl) rfl ?_
    refine z_aload_n C (z_d dtX7_learn_0 11 rfl) rfl ?_
    refine z_callV C (z_d dtX7_learn_0 12 rfl) (k_X7_bestScore  (by first | assumption | omega) (by omega)) cal_X7_bestScore gw_25_17 rfl 0 7 rfl rfl rfl rfl hR ⟨rfl, rfl, rfl, rfl⟩ rfl (fun r_19 w_19 h_19 => ?_)
    obtain ⟨σ_17, rfl, h17⟩ := h_19
    have hr17 : -2147483648 ≤ r_19 ∧ r_19 < 2147483648 := by
      rcases h17 with ⟨a, b, g⟩ | ⟨a, b, g | g⟩
      · omega
      · omega
      · have := zV_b hmp hs z (-1) (σ 18 z / 8) (σ 18 z / 8 - 1).toNat (zWy σ z (-1) (σ 18 z / 8) 0)
        have e : r_19 = zV σ z (-1) (σ 18 z / 8) (σ 18 z / 8 - 1).toNat (zWy σ z (-1) (σ 18 z / 8) 0) := g.2.2.1
        have := oB1.2.2.1 z
        omega
    refine z_istore_n3 C (z_d dtX7_learn_0 13 rfl) rfl ?_
    refine z_iload_n C (z_d dtX7_learn_0 14 rfl) rfl ?_
    refine z_if_ge (tgt := 29) C (z_d dtX7_learn_0 15 rfl) (by decide) (by omega) (fun h_24 => ?_) (fun h_24 => ?_)
    · have hsc : 1 ≤ σ 18 z / 8 ∧ 0 ≤ r_19 ∧ r_19 = zVf σ z (-1) (σ 18 z / 8) ∧ ∀ k : Nat, k < σ 18 z / 8 → σ_17 39 k = zWy σ z (-1) (σ 18 z / 8) k := by
        rcases h17 with ⟨a, b, g⟩ | ⟨a, b, g | g⟩
        · omega
        · omega
        · exact g
      have hth : σ 16 z = 1 ∧ zE σ_17 σ [39, 41] := by
        rcases h17 with ⟨a, b, g⟩ | ⟨a, b, g⟩
        · omega
        · exact ⟨a, b⟩
      have hE17 := hth.2
      rw [if_pos hth.1] at h40z
      have e40 : σ_17 40 z = σ 40 z := by rw [hE17 40 (by decide)]
      refine z_aload_n C (z_d dtX7_learn_0 18 rfl) rfl ?_
      refine z_aload_n C (z_d dtX7_learn_0 19 rfl) rfl ?_
      refine z_callV C (z_d dtX7_learn_0 20 rfl) (k_X5_rows  (by omega) (by rw [e40]; exact hszz)) cal_X5_rows gw_15_16 rfl (22 + _) 5 (wX_sh (by omega)) rfl rfl rfl hR ⟨rfl, rfl, rfl, rfl⟩ rfl (fun r_31 w_31 h_31 => ?_)
      obtain ⟨rfl, rfl⟩ := h_31
      rw [e40, h40z]
      refine z_callVv C (z_d dtX7_learn_0 21 rfl) (k_X7_tellWay  (by have := oB1.2.2.1 z; omega)) cal_X7_tellWay gw_27_0 rfl 0 7 rfl rfl rfl rfl hR ⟨rfl, rfl, rfl, rfl⟩ rfl (fun w_34 h_34 => ?_)
      obtain rfl := h_34
      have m15 : (zS (zS σ_17 14 (zC (σ 18 z / 8))) 15 (fun i => if 0 ≤ i ∧ i < σ 18 z / 8 then σ_17 39 i else σ_17 15 i)) 15 = fun i => if 0 ≤ i ∧ i < σ 18 z / 8 then zWy σ z (-1) (σ 18 z / 8) i.toNat else σ 15 i := (funext fun i => by
                show (if 0 ≤ i ∧ i < σ 18 z / 8 then σ_17 39 i else σ_17 15 i) = _
                split
                · rename_i q
                  have := hsc.2.2.2 i.toNat (by omega)
                  rw [Int.toNat_of_nonneg q.1] at this
                  exact this
                · rw [hE17 15 (by decide)])
      generalize hμ : zS (zS σ_17 14 (zC (σ 18 z / 8))) 15 (fun i => if 0 ≤ i ∧ i < σ 18 z / 8 then σ_17 39 i else σ_17 15 i) = μ0 at m15 ⊢
      have m14 : μ0 14 = zC (σ 18 z / 8) := by rw [← hμ]; rfl
      have hE0 : zE μ0 σ [14, 15, 39, 41] := by rw [← hμ]; exact zE_set (zE_set (zE_mo hE17 (by decide)) (by decide)) (by decide)
      have hwyb := zWy_b hw ht hs hmp (z := z) (wo := -1) (R := σ 18 z / 8)
      refine z_iconst C (z_d dtX7_learn_0 22 rfl) ?_
      refine z_istore4 C (z_d dtX7_learn_0 23 rfl) rfl ?_
      have lp_40 : ∀ (N_40 : Nat) (i : Nat) (row : Int) (μ : zMem), (row = i ∧ i ≤ σ 18 z / 8) → (zE μ μ0 [8]) → (μ 8 = zLm σ z (zWy σ z (-1) (σ 18 z / 8)) i) → (σ 18 z / 8 - i).toNat < N_40 → Gd K 0 0 40 [some (.ref (ad 0)), some (.int (zI z)), some (.ref (ad (22 + z.toNat))), some (.int (zI r_19)), some (.int (zI row))] [] (wX ad (z_t K) μ) := by
        intro N_40
        induction N_40 with
        | zero => intro i row μ hi hE hm8 hm_40; exact absurd hm_40 (Nat.not_lt_zero _)
        | succ N_40 ih_40 =>
          intro i row μ hi hE hm8 hm_40
          obtain ⟨rfl, hi⟩ := hi
          have hE_ := hE
          have m8 := hm8
          have hEs : zE μ σ [8, 14, 15, 39, 41] := zE_tr (zE_mo hE (by decide)) (zE_mo hE0 (by decide))
          have m14 : μ 14 = zC (σ 18 z / 8) := (hE 14 (by decide)).trans m14
          have m15 : μ 15 = _ := (hE 15 (by decide)).trans m15
          have hE := hEs
          have hyi := hwyb i
          have hszb := oB1.2.2.1 z
          refine z_iload C (z_d dtX7_learn_0 24 rfl) rfl ?_
          refine z_aload_n C (z_d dtX7_learn_0 25 rfl) rfl ?_
          refine gf_X7_55 C (z_d dtX7_learn_0 26 rfl) ?_
          try simp (decide := true) only [zS_s, zS_o, zC, m14, m15]
          refine z_icmp_ge (tgt := 73) C (z_d dtX7_learn_0 27 rfl) (by decide) (by omega) (fun h_46 => ?_) (fun h_46 => ?_)
          · refine z_aload_n C (z_d dtX7_learn_1 0 rfl) rfl ?_
            refine gf_X7_55 C (z_d dtX7_learn_1 1 rfl) ?_
            try simp (decide := true) only [zS_s, zS_o, zC, m14, m15]
            exact ret _ _ _ _ (z_d dtX7_learn_1 2 rfl) (⟨_, rfl, Or.inr ⟨by omega, Or.inr ⟨hth.1, Or.inr ⟨hsc.1, by have := hsc.2; omega, rfl, hE, m14, m15, by rw [hm8, show i = (σ 18 z / 8).toNat by omega]⟩⟩⟩⟩) rfl
          · refine z_aload_n C (z_d dtX7_learn_0 28 rfl) rfl ?_
            refine gf_X7_19 C (z_d dtX7_learn_0 29 rfl) ?_
            refine z_aload_n C (z_d dtX7_learn_0 30 rfl) rfl ?_
            refine z_iload C (z_d dtX7_learn_0 31 rfl) rfl ?_
            refine z_aload_n C (z_d dtX7_learn_0 32 rfl) rfl ?_
            refine gf_X7_51 C (z_d dtX7_learn_0 33 rfl) ?_
            refine z_iload C (z_d dtX7_learn_0 34 rfl) rfl ?_
            refine al_X7 C (z_d dtX7_learn_0 35 rfl) (by omega) ?_
            try simp (decide := true) only [zS_s, zS_o, zC, m14, m15]
            refine z_top (show (if 0 ≤ (i : Int) ∧ (i : Int) < σ 18 z / 8 then zWy σ z (-1) (σ 18 z / 8) ((i : Int)).toNat else σ 15 i) = zWy σ z (-1) (σ 18 z / 8) i by rw [if_pos (by omega), Int.toNat_natCast]) ?_
            refine z_callV C (z_d dtX7_learn_0 36 rfl) (k_X4_addRow  (by omega) (by unfold zIt; rw [hE 20 (by decide)]; exact hit) (by omega) (by omega) (by unfold zMp; rw [m8]; exact zLm_b hmp z _ i)) cal_X4_addRow gw_16_0 rfl 2 4 rfl rfl rfl rfl hR ⟨rfl, rfl, rfl, rfl⟩ rfl (fun r_63 w_63 h_63 => ?_)
            obtain ⟨rfl, rfl⟩ := h_63
            refine z_pop C (z_d dtX7_learn_0 37 rfl) rfl ?_
            refine z_iinc4 C (z_d dtX7_learn_0 38 rfl) rfl ?_
            refine z_goto (tgt := 40) C (z_d dtX7_learn_0 39 rfl) (by decide) ?_
            exact ih_40 (i + 1) _ _ (by omega) (zE_set hE_ (by decide)) (by
                    rw [zS_s, zLm]
                    exact zSv_c (μ := μ) (σ := zS σ 8 (zLm σ z (zWy σ z (-1) (σ 18 z / 8)) i)) m8 (hE 20 (by decide)) _ _ _ 8) (by omega)
      exact lp_40 _ 0 _ _ (by omega) zE_rf (hE0 8 (by decide)) (Nat.lt_succ_self _)
    · refine z_iload_n C (z_d dtX7_learn_0 16 rfl) rfl ?_
      exact ret _ _ _ _ (z_d dtX7_learn_0 17 rfl) (by
          rcases h17 with ⟨a, b, g⟩ | ⟨a, b, g | g⟩
          · exact ⟨_, rfl, Or.inr ⟨by omega, Or.inl ⟨a, b, g⟩⟩⟩
          · exact ⟨_, rfl, Or.inr ⟨by omega, Or.inr ⟨a, Or.inl ⟨g.1, g.2, b⟩⟩⟩⟩
          · exfalso; omega) rfl
  · refine z_bipush C (z_d dtX7_learn_0 3 rfl) zb_m2 ?_
    exact ret _ _ _ _ (z_d dtX7_learn_0 4 rfl) (⟨σ, rfl, Or.inl ⟨by omega, rfl, rfl⟩⟩) rfl

set_option maxRecDepth 100000 in
set_option maxHeartbeats 4000000 in
theorem k_X7_moved {l : Launch} {D : va_G} {t : Nat → ClassId} {ad : Nat → Nat} {σ : zMem} {z : Int} (ok : okX σ) (hz : -2147483648 ≤ z ∧ z < 2147483648) : z_Ci l D t yX7_moved cX7_moved 6 .int 7 175 0 0 [.ref (ad 0), .int (zI z)] (wX ad t σ) (fun r w => ∃ σ', w = wX ad t σ' ∧ ((¬ (0 ≤ z ∧ z < 4) ∧ r = -2 ∧ σ' = σ) ∨ ((0 ≤ z ∧ z < 4) ∧ ((σ 16 z = 0 ∧ r = -11 ∧ σ' = zS σ 19 (zC 1)) ∨ (σ 16 z = 1 ∧ ((((σ 18 z / 8) = 0 ∨ zVf σ z (-1) (σ 18 z / 8) = -1) ∧ r = -3 ∧ zE σ' σ [39, 41]) ∨ (1 ≤ (σ 18 z / 8) ∧ zVf σ z (-1) (σ 18 z / 8) ≠ -1 ∧ r = zBt σ z 8 ∧ zE σ' σ [39, 41]))))))) := by
  refine z_Ci_of (by decide +kernel) [some (.ref (ad 0)), some (.int (zI z)), none, none, none, none] rfl rfl (Nat.le_of_ble_eq_true rfl) fun K hl hD ht hR hnm C ret => ?_
  subst hl; subst hD; subst ht
  have ok2 := ok
  obtain ⟨⟨hw, hs, ht, h4, h5, h6, hwc, hlc⟩, ⟨h7, hdd⟩, hmp, oS1, oW1, oA1, oT1, oB1⟩ := ok2
  have hN := zHw_N hw
  have hW := hw; unfold zHw at hW
  have hit := oB1.2.2.2.1
  have h16 := oB1.1
  have hff := oB1.2.1
  have hsz := oB_s oB1
  have h40 := oB1.2.2.2.2
  have h16z := h16 z
  have h40z := h40 z
  have hszz := hsz z
  refine z_iload_n C (z_d dtX7_moved_0 0 rfl) rfl ?_
  refine z_callS C (z_d dtX7_moved_0 1 rfl) (k_X7_isSheet  (by first | assumption | omega)) cal_X7_isSheet gw_15_9 rfl rfl hR ⟨rfl, rfl, rfl, rfl⟩ rfl (fun r_1 w_1 h_1 => ?_)
  obtain ⟨rfl, h_1⟩ := h_1
  refine z_if_ne (tgt := 10) C (z_d dtX7_moved_0 2 rfl) (by decide) (by omega) (fun h_4 => ?_) (fun h_4 => ?_)
  · refine z_aload_n C (z_d dtX7_moved_0 5 rfl) rfl ?_
    refine gf_X7_46 C (z_d dtX7_moved_0 6 rfl) ?_
    refine z_iload_n C (z_d dtX7_moved_0 7 rfl) rfl ?_
    refine al_Xsh C (z_d dtX7_moved_0 8 rfl) (by omega) ?_
    refine z_astore_n2 C (z_d dtX7_moved_0 9 rfl) rfl ?_
    refine z_aload_n C (z_d dtX7_moved_0 10 rfl) rfl ?_
    refine z_aload_n C (z_d dtX7_moved_0 11 rfl) rfl ?_
    refine z_callV C (z_d dtX7_moved_0 12 rfl) (k_X7_bestScore  (by first | assumption | omega) (by omega)) cal_X7_bestScore gw_25_17 rfl 0 7 rfl rfl rfl rfl hR ⟨rfl, rfl, rfl, rfl⟩ rfl (fun r_19 w_19 h_19 => ?_)
    obtain ⟨σ_17, rfl, h17⟩ := h_19
    have hr17 : -2147483648 ≤ r_19 ∧ r_19 < 2147483648 := by
      rcases h17 with ⟨a, b, g⟩ | ⟨a, b, g | g⟩
      · omega
      · omega
      · have := zV_b hmp hs z (-1) (σ 18 z / 8) (σ 18 z / 8 - 1).toNat (zWy σ z (-1) (σ 18 z / 8) 0)
        have e : r_19 = zV σ z (-1) (σ 18 z / 8) (σ 18 z / 8 - 1).toNat (zWy σ z (-1) (σ 18 z / 8) 0) := g.2.2.1
        have := oB1.2.2.1 z
        omega
    refine z_istore_n3 C (z_d dtX7_moved_0 13 rfl) rfl ?_
    refine z_iload_n C (z_d dtX7_moved_0 14 rfl) rfl ?_
    refine z_if_ge (tgt := 29) C (z_d dtX7_moved_0 15 rfl) (by decide) (by omega) (fun h_24 => ?_) (fun h_24 => ?_)
    · have hsc : 1 ≤ σ 18 z / 8 ∧ 0 ≤ r_19 ∧ r_19 = zVf σ z (-1) (σ 18 z / 8) ∧ ∀ k : Nat, k < σ 18 z / 8 → σ_17 39 k = zWy σ z (-1) (σ 18 z / 8) k := by
        rcases h17 with ⟨a, b, g⟩ | ⟨a, b, g | g⟩
        · omega
        · omega
        · exact g
      have hth : σ 16 z = 1 ∧ zE σ_17 σ [39, 41] := by
        rcases h17 with ⟨a, b, g⟩ | ⟨a, b, g⟩
        · omega
        · exact ⟨a, b⟩
      have hE17 := hth.2
      rw [if_pos hth.1] at h40z
      have e40 : σ_17 40 z = σ 40 z := by rw [hE17 40 (by decide)]
      refine z_iconst C (z_d dtX7_moved_0 18 rfl) ?_
      refine z_istore4 C (z_d dtX7_moved_0 19 rfl) rfl ?_
      refine z_iconst C (z_d dtX7_moved_0 20 rfl) ?_
      refine z_istore5 C (z_d dtX7_moved_0 21 rfl) rfl ?_
      have lp_35 : ∀ (N_35 : Nat) (i : Nat) (k b : Int) (μ : zMem), (k = i ∧ i ≤ 8) → (zE μ σ [39, 41]) → (b = zBt σ z i) → 8 - i < N_35 → Gd K 0 0 35 [some (.ref (ad 0)), some (.int (zI z)), some (.ref (ad (22 + z.toNat))), some (.int (zI r_19)), some (.int (zI b)), some (.int (zI k))] [] (wX ad (z_t K) μ) := by
        intro N_35
        induction N_35 with
        | zero => intro i k b μ hi hE hb hm_35; exact absurd hm_35 (Nat.not_lt_zero _)
        | succ N_35 ih_35 =>
          intro i k b μ hi hE hb hm_35
          obtain ⟨rfl, hi⟩ := hi
          have e7 := hE 7 (by decide)
          have h7i := h7 i
          have hbb := zBt_b σ z i hi
          refine z_iload C (z_d dtX7_moved_0 22 rfl) rfl ?_
          refine z_bipush C (z_d dtX7_moved_0 23 rfl) zb_8 ?_
          refine z_icmp_ge (tgt := 79) C (z_d dtX7_moved_0 24 rfl) (by decide) (by omega) (fun h_39 => ?_) (fun h_39 => ?_)
          · refine z_iload C (z_d dtX7_moved_1 3 rfl) rfl ?_
            exact ret _ _ _ _ (z_d dtX7_moved_1 4 rfl) (⟨_, rfl, Or.inr ⟨by omega, Or.inr ⟨hth.1, Or.inr ⟨hsc.1, by have := hsc.2; omega, by rw [hb, show i = 8 by omega], hE⟩⟩⟩⟩) rfl
          · refine z_aload_n C (z_d dtX7_moved_0 25 rfl) rfl ?_
            refine gf_X7_19 C (z_d dtX7_moved_0 26 rfl) ?_
            refine z_iload C (z_d dtX7_moved_0 27 rfl) rfl ?_
            refine z_callV C (z_d dtX7_moved_0 28 rfl) (k_X4_isDead  (by omega) (by rw [hE 30 (by decide), hE 7 (by decide)]; exact hdd) (zBo_E hE (by decide) h7)) cal_X4_isDead gw_28_18 rfl 2 4 rfl rfl rfl rfl hR ⟨rfl, rfl, rfl, rfl⟩ rfl (fun r_48 w_48 h_48 => ?_)
            obtain ⟨rfl, h_48⟩ := h_48
            rw [e7] at h_48
            have hr48 : r_48 = 0 ∨ r_48 = 1 := by omega
            refine z_if_ne (tgt := 73) C (z_d dtX7_moved_0 29 rfl) (by decide) (by omega) (fun h_51 => ?_) (fun h_51 => ?_)
            · refine z_iinc5 C (z_d dtX7_moved_1 1 rfl) rfl ?_
              refine z_goto (tgt := 35) C (z_d dtX7_moved_1 2 rfl) (by decide) ?_
              exact ih_35 (i + 1) _ _ _ (by omega) (by first | exact hE58 | exact hE) (by
                      rw [zBt, hb]
                      first
                        | (rw [if_neg (fun q => by omega)]; omega)
                        | (rw [if_neg (fun q => h_58.elim (fun p => by omega) (fun p => p.2 q.2))]; omega)
                        | rw [if_pos ⟨by omega, h_58.elim (fun p => p.2) (fun p => by omega)⟩]) (by omega)
            · refine z_aload_n C (z_d dtX7_moved_0 30 rfl) rfl ?_
              refine z_aload_n C (z_d dtX7_moved_0 31 rfl) rfl ?_
              refine z_iload C (z_d dtX7_moved_0 32 rfl) rfl ?_
              refine z_callV C (z_d dtX7_moved_0 33 rfl) (k_X7_isMoved  (okX_39 hE ok) (by omega) (by omega) (by rw [hE 16 (by decide)]; exact hth.1)) cal_X7_isMoved gw_28_19 rfl 0 7 rfl rfl rfl rfl hR ⟨rfl, rfl, rfl, rfl⟩ rfl (fun r_58 w_58 h_58 => ?_)
              obtain ⟨σ_58, rfl, hE_58, h_58⟩ := h_58
              have hE58 := zE_tr hE_58 hE
              rw [zMvd_E hE] at h_58
              have hr58 : r_58 = 0 ∨ r_58 = 1 := h_58.elim (fun q => Or.inr q.1) (fun q => Or.inl q.1)
              refine z_if_eq (tgt := 73) C (z_d dtX7_moved_0 34 rfl) (by decide) (by omega) (fun h_61 => ?_) (fun h_61 => ?_)
              · refine z_iinc5 C (z_d dtX7_moved_1 1 rfl) rfl ?_
                refine z_goto (tgt := 35) C (z_d dtX7_moved_1 2 rfl) (by decide) ?_
                exact ih_35 (i + 1) _ _ _ (by omega) (by first | exact hE58 | exact hE) (by
                        rw [zBt, hb]
                        first
                          | (rw [if_neg (fun q => by omega)]; omega)
                          | (rw [if_neg (fun q => h_58.elim (fun p => by omega) (fun p => p.2 q.2))]; omega)
                          | rw [if_pos ⟨by omega, h_58.elim (fun p => p.2) (fun p => by omega)⟩]) (by omega)
              · refine z_iload C (z_d dtX7_moved_0 35 rfl) rfl ?_
                refine z_iconst C (z_d dtX7_moved_0 36 rfl) ?_
                refine z_iload C (z_d dtX7_moved_0 37 rfl) rfl ?_
                refine z_ishl C (z_d dtX7_moved_0 38 rfl) (z_shl (by omega)) ?_
                refine z_ior C (z_d dtX7_moved_0 39 rfl) (z_orn (by omega) (by rw [hb]; omega)) ?_
                refine z_istore4 C (z_d dtX7_moved_1 0 rfl) rfl ?_
                refine z_iinc5 C (z_d dtX7_moved_1 1 rfl) rfl ?_
                refine z_goto (tgt := 35) C (z_d dtX7_moved_1 2 rfl) (by decide) ?_
                exact ih_35 (i + 1) _ _ _ (by omega) (by first | exact hE58 | exact hE) (by
                        rw [zBt, hb]
                        first
                          | (rw [if_neg (fun q => by omega)]; omega)
                          | (rw [if_neg (fun q => h_58.elim (fun p => by omega) (fun p => p.2 q.2))]; omega)
                          | rw [if_pos ⟨by omega, h_58.elim (fun p => p.2) (fun p => by omega)⟩]) (by omega)
      exact lp_35 _ 0 _ _ _ (by omega) hE17 rfl (Nat.lt_succ_self _)
    · refine z_iload_n C (z_d dtX7_moved_0 16 rfl) rfl ?_
      exact ret _ _ _ _ (z_d dtX7_moved_0 17 rfl) (by
          rcases h17 with ⟨a, b, g⟩ | ⟨a, b, g | g⟩
          · exact ⟨_, rfl, Or.inr ⟨by omega, Or.inl ⟨a, b, g⟩⟩⟩
          · exact ⟨_, rfl, Or.inr ⟨by omega, Or.inr ⟨a, Or.inl ⟨g.1, g.2, b⟩⟩⟩⟩
          · exfalso; omega) rfl
  · refine z_bipush C (z_d dtX7_moved_0 3 rfl) zb_m2 ?_
    exact ret _ _ _ _ (z_d dtX7_moved_0 4 rfl) (⟨σ, rfl, Or.inl ⟨by omega, rfl, rfl⟩⟩) rfl

set_option maxRecDepth 100000 in
set_option maxHeartbeats 4000000 in
theorem k_X7_count {l : Launch} {D : va_G} {t : Nat → ClassId} {ad : Nat → Nat} {σ : zMem} {k : Int} (ok : okX σ) (hk : -2147483648 ≤ k ∧ k < 2147483648) : z_Ci l D t yX7_count cX7_count 2 .int 1 22 0 0 [.ref (ad 0), .int (zI k)] (wX ad t σ) (fun r w => w = wX ad t σ ∧ r = zCt σ k) := by
  refine z_Ci_of (by decide +kernel) [some (.ref (ad 0)), some (.int (zI k))] rfl rfl (Nat.le_of_ble_eq_true rfl) fun K hl hD ht hR hnm C ret => ?_
  subst hl; subst hD; subst ht
  have ok2 := ok
  obtain ⟨⟨hw, hs, ht, h4, h5, h6, hwc, hlc⟩, ⟨h7, hdd⟩, hmp, oS1, oW1, oA1, oT1, oB1⟩ := ok2
  have hN := zHw_N hw
  have hW := hw; unfold zHw at hW
  refine z_iload_n C (z_d dtX7_count_0 0 rfl) rfl ?_
  rcases (show k = 0 ∨ k = 1 ∨ k = 2 ∨ k = 3 ∨ k = 4 ∨ k = 5 ∨ k = 6 ∨ k = 7 ∨ k = 8 ∨ k = 9 ∨ k = 10 ∨ (k < 0 ∨ 10 < k) by omega) with rfl | rfl | rfl | rfl | rfl | rfl | rfl | rfl | rfl | rfl | rfl | hk2
  · refine z_tableIn (tgt := 60) C (z_d dtX7_count_0 1 rfl) (by omega) (by omega) (by omega) rfl (by decide) ?_
    refine z_aload_n C (z_d dtX7_count_0 2 rfl) rfl ?_
    refine gf_X7_10 C (z_d dtX7_count_0 3 rfl) ?_
    refine gf_X7_238 C (z_d dtX7_count_0 4 rfl) ?_
    exact ret _ _ _ _ (z_d dtX7_count_0 5 rfl) (⟨rfl, rfl⟩) rfl
  · refine z_tableIn (tgt := 68) C (z_d dtX7_count_0 1 rfl) (by omega) (by omega) (by omega) rfl (by decide) ?_
    refine z_aload_n C (z_d dtX7_count_0 6 rfl) rfl ?_
    refine gf_X7_10 C (z_d dtX7_count_0 7 rfl) ?_
    refine gf_X7_241 C (z_d dtX7_count_0 8 rfl) ?_
    exact ret _ _ _ _ (z_d dtX7_count_0 9 rfl) (⟨rfl, rfl⟩) rfl
  · refine z_tableIn (tgt := 76) C (z_d dtX7_count_0 1 rfl) (by omega) (by omega) (by omega) rfl (by decide) ?_
    refine z_aload_n C (z_d dtX7_count_0 10 rfl) rfl ?_
    refine gf_X7_10 C (z_d dtX7_count_0 11 rfl) ?_
    refine gf_X7_244 C (z_d dtX7_count_0 12 rfl) ?_
    exact ret _ _ _ _ (z_d dtX7_count_0 13 rfl) (⟨rfl, rfl⟩) rfl
  · refine z_tableIn (tgt := 84) C (z_d dtX7_count_0 1 rfl) (by omega) (by omega) (by omega) rfl (by decide) ?_
    refine z_aload_n C (z_d dtX7_count_0 14 rfl) rfl ?_
    refine gf_X7_10 C (z_d dtX7_count_0 15 rfl) ?_
    refine gf_X7_247 C (z_d dtX7_count_0 16 rfl) ?_
    exact ret _ _ _ _ (z_d dtX7_count_0 17 rfl) (⟨rfl, hwc⟩) rfl
  · refine z_tableIn (tgt := 92) C (z_d dtX7_count_0 1 rfl) (by omega) (by omega) (by omega) rfl (by decide) ?_
    refine z_aload_n C (z_d dtX7_count_0 18 rfl) rfl ?_
    refine gf_X7_10 C (z_d dtX7_count_0 19 rfl) ?_
    refine gf_X7_250 C (z_d dtX7_count_0 20 rfl) ?_
    exact ret _ _ _ _ (z_d dtX7_count_0 21 rfl) (⟨rfl, hlc⟩) rfl
  · refine z_tableIn (tgt := 100) C (z_d dtX7_count_0 1 rfl) (by omega) (by omega) (by omega) rfl (by decide) ?_
    refine z_aload_n C (z_d dtX7_count_0 22 rfl) rfl ?_
    refine gf_X7_40 C (z_d dtX7_count_0 23 rfl) ?_
    refine gf_X7_253 C (z_d dtX7_count_0 24 rfl) ?_
    exact ret _ _ _ _ (z_d dtX7_count_0 25 rfl) (⟨rfl, rfl⟩) rfl
  · refine z_tableIn (tgt := 108) C (z_d dtX7_count_0 1 rfl) (by omega) (by omega) (by omega) rfl (by decide) ?_
    refine z_aload_n C (z_d dtX7_count_0 26 rfl) rfl ?_
    refine gf_X7_59 C (z_d dtX7_count_0 27 rfl) ?_
    exact ret _ _ _ _ (z_d dtX7_count_0 28 rfl) (⟨rfl, rfl⟩) rfl
  · refine z_tableIn (tgt := 113) C (z_d dtX7_count_0 1 rfl) (by omega) (by omega) (by omega) rfl (by decide) ?_
    refine z_aload_n C (z_d dtX7_count_0 29 rfl) rfl ?_
    refine gf_X7_10 C (z_d dtX7_count_0 30 rfl) ?_
    refine gf_X7_256 C (z_d dtX7_count_0 31 rfl) ?_
    exact ret _ _ _ _ (z_d dtX7_count_0 32 rfl) (⟨rfl, rfl⟩) rfl
  · refine z_tableIn (tgt := 121) C (z_d dtX7_count_0 1 rfl) (by omega) (by omega) (by omega) rfl (by decide) ?_
    refine z_aload_n C (z_d dtX7_count_0 33 rfl) rfl ?_
    refine gf_X7_40 C (z_d dtX7_count_0 34 rfl) ?_
    refine gf_X7_259 C (z_d dtX7_count_0 35 rfl) ?_
    exact ret _ _ _ _ (z_d dtX7_count_0 36 rfl) (⟨rfl, rfl⟩) rfl
  · refine z_tableIn (tgt := 129) C (z_d dtX7_count_0 1 rfl) (by omega) (by omega) (by omega) rfl (by decide) ?_
    refine z_aload_n C (z_d dtX7_count_0 37 rfl) rfl ?_
    refine gf_X7_19 C (z_d dtX7_count_0 38 rfl) ?_
    refine gf_X7_262 C (z_d dtX7_count_0 39 rfl) ?_
    exact ret _ _ _ _ (z_d dtX7_count_1 0 rfl) (⟨rfl, hdd⟩) rfl
  · refine z_tableIn (tgt := 137) C (z_d dtX7_count_0 1 rfl) (by omega) (by omega) (by omega) rfl (by decide) ?_
    refine z_aload_n C (z_d dtX7_count_1 1 rfl) rfl ?_
    refine gf_X7_40 C (z_d dtX7_count_1 2 rfl) ?_
    refine z_callV C (z_d dtX7_count_1 3 rfl) (k_X2_somewhere  (fun i => by have := oW1 i; omega)) cal_X2_somewhere gw_36_7 rfl 5 2 rfl rfl rfl rfl hR ⟨rfl, rfl, rfl, rfl⟩ rfl (fun r_141 w_141 h_141 => ?_)
    obtain ⟨rfl, rfl⟩ := h_141
    exact ret _ _ _ _ (z_d dtX7_count_1 4 rfl) (⟨rfl, rfl⟩) rfl
  · refine z_tableOut (tgt := 145) C (z_d dtX7_count_0 1 rfl) (by omega) (by omega) (by decide) ?_
    refine z_bipush C (z_d dtX7_count_1 5 rfl) zb_m2 ?_
    exact ret _ _ _ _ (z_d dtX7_count_1 6 rfl) (⟨rfl, by unfold zCt; repeat (rw [if_neg (by omega)])⟩) rfl

set_option maxRecDepth 100000 in
set_option maxHeartbeats 4000000 in
theorem k_X7_digest {l : Launch} {D : va_G} {t : Nat → ClassId} {ad : Nat → Nat} {σ : zMem}  (ok : okX σ) : z_Cl l D t yX7_digest cX7_digest 6 3 69 0 0 [.ref (ad 0)] (wX ad t σ) (fun r w => w = wX ad t σ ∧ r = zD3 σ 8) := by
  refine z_Cl_of (by decide +kernel) [some (.ref (ad 0)), none, none, none, none, none] rfl rfl (Nat.le_of_ble_eq_true rfl) fun K hl hD ht hR hnm C ret => ?_
  subst hl; subst hD; subst ht
  have ok2 := ok
  obtain ⟨⟨hw, hs, ht, h4, h5, h6, hwc, hlc⟩, ⟨h7, hdd⟩, hmp, oS1, oW1, oA1, oT1, oB1⟩ := ok2
  have hN := zHw_N hw
  have hW := hw; unfold zHw at hW
  have hn := oS_n oS1 hw
  have h9 := oS_9 oS1 hw
  have hcb := zCt_b ok
  refine z_ldc2 C gk_RX7_268 (z_d dtX7_digest_0 0 rfl) ?_
  refine z_lstore_n1 C (z_d dtX7_digest_0 1 rfl) rfl ?_
  refine z_iconst C (z_d dtX7_digest_0 2 rfl) ?_
  refine z_istore_n3 C (z_d dtX7_digest_0 3 rfl) rfl ?_
  have lp_6 : ∀ (N_6 : Nat) (i : Nat) (k h : Int), (k = i ∧ i ≤ 11) → (h = zD1 σ i) → 11 - i < N_6 → Gd K 0 0 6 [some (.ref (ad 0)), some (.long (zL h)), none, some (.int (zI k)), none, none] [] (wX ad (z_t K) σ) := by
    intro N_6
    induction N_6 with
    | zero => intro i k h hi hh hm_6; exact absurd hm_6 (Nat.not_lt_zero _)
    | succ N_6 ih_6 =>
      intro i k h hi hh hm_6
      obtain ⟨rfl, hi⟩ := hi
      have hci := hcb i
      refine z_iload_n C (z_d dtX7_digest_0 4 rfl) rfl ?_
      refine z_bipush C (z_d dtX7_digest_0 5 rfl) zb_10 ?_
      refine z_icmp_gt (tgt := 37) C (z_d dtX7_digest_0 6 rfl) (by decide) (by omega) (fun h_9 => ?_) (fun h_9 => ?_)
      · refine z_aload_n C (z_d dtX7_digest_0 21 rfl) rfl ?_
        refine gf_X7_10 C (z_d dtX7_digest_0 22 rfl) ?_
        refine z_callV C (z_d dtX7_digest_0 23 rfl) (k_X3_cells  ) cal_X3_cells gw_6_9 rfl 1 3 rfl rfl rfl rfl hR ⟨rfl, rfl, rfl, rfl⟩ rfl (fun r_41 w_41 h_41 => ?_)
        obtain ⟨rfl, rfl⟩ := h_41
        refine z_istore_n3 C (z_d dtX7_digest_0 24 rfl) rfl ?_
        refine z_iconst C (z_d dtX7_digest_0 25 rfl) ?_
        refine z_istore4 C (z_d dtX7_digest_0 26 rfl) rfl ?_
        have lp_48 : ∀ (N_48 : Nat) (i2 : Nat) (c h2 : Int), (c = i2 ∧ i2 ≤ (zN σ).toNat) → (h2 = zD2 σ i2) → (zN σ).toNat - i2 < N_48 → Gd K 0 0 48 [some (.ref (ad 0)), some (.long (zL h2)), none, some (.int (zI (zN σ))), some (.int (zI c)), none] [] (wX ad (z_t K) σ) := by
          intro N_48
          induction N_48 with
          | zero => intro i2 c h2 hi2 hh2 hm_48; exact absurd hm_48 (Nat.not_lt_zero _)
          | succ N_48 ih_48 =>
            intro i2 c h2 hi2 hh2 hm_48
            obtain ⟨rfl, hi2⟩ := hi2
            have h9i := fun q : (i2 : Int) < zN σ => h9 i2 (by omega) (by omega)
            refine z_iload C (z_d dtX7_digest_0 27 rfl) rfl ?_
            refine z_iload_n C (z_d dtX7_digest_0 28 rfl) rfl ?_
            refine z_icmp_ge (tgt := 77) C (z_d dtX7_digest_0 29 rfl) (by decide) (by omega) (fun h_51 => ?_) (fun h_51 => ?_)
            · refine z_iconst C (z_d dtX7_digest_1 2 rfl) ?_
              refine z_istore4 C (z_d dtX7_digest_1 3 rfl) rfl ?_
              have lp_80 : ∀ (N_80 : Nat) (i3 : Nat) (k h3 : Int), (k = i3 ∧ i3 ≤ 8) → (h3 = zD3 σ i3) → 8 - i3 < N_80 → Gd K 0 0 80 [some (.ref (ad 0)), some (.long (zL h3)), none, some (.int (zI (zN σ))), some (.int (zI k)), none] [] (wX ad (z_t K) σ) := by
                intro N_80
                induction N_80 with
                | zero => intro i3 k h3 hi3 hh3 hm_80; exact absurd hm_80 (Nat.not_lt_zero _)
                | succ N_80 ih_80 =>
                  intro i3 k h3 hi3 hh3 hm_80
                  obtain ⟨rfl, hi3⟩ := hi3
                  refine z_iload C (z_d dtX7_digest_1 4 rfl) rfl ?_
                  refine z_bipush C (z_d dtX7_digest_1 5 rfl) zb_8 ?_
                  refine z_icmp_ge (tgt := 127) C (z_d dtX7_digest_1 6 rfl) (by decide) (by omega) (fun h_84 => ?_) (fun h_84 => ?_)
                  · refine z_lload_n C (z_d dtX7_digest_1 27 rfl) rfl ?_
                    exact ret _ _ _ _ (z_d dtX7_digest_1 28 rfl) (⟨rfl, by rw [hh3, show i3 = 8 by omega]⟩)
                  · refine z_iconst C (z_d dtX7_digest_1 7 rfl) ?_
                    refine z_istore5 C (z_d dtX7_digest_1 8 rfl) rfl ?_
                    have lp_90 : ∀ (N_90 : Nat) (i4 : Nat) (c h4 : Int), (c = i4 ∧ i4 ≤ (zN σ).toNat) → (h4 = zD4 σ (zD3 σ i3) i3 i4) → (zN σ).toNat - i4 < N_90 → Gd K 0 0 90 [some (.ref (ad 0)), some (.long (zL h4)), none, some (.int (zI (zN σ))), some (.int (zI (i3 : Int))), some (.int (zI c))] [] (wX ad (z_t K) σ) := by
                      intro N_90
                      induction N_90 with
                      | zero => intro i4 c h4 hi4 hh4 hm_90; exact absurd hm_90 (Nat.not_lt_zero _)
                      | succ N_90 ih_90 =>
                        intro i4 c h4 hi4 hh4 hm_90
                        obtain ⟨rfl, hi4⟩ := hi4
                        have hwa := zWa_b hmp i3 i4 11
                        refine z_iload C (z_d dtX7_digest_1 9 rfl) rfl ?_
                        refine z_iload_n C (z_d dtX7_digest_1 10 rfl) rfl ?_
                        refine z_icmp_ge (tgt := 121) C (z_d dtX7_digest_1 11 rfl) (by decide) (by omega) (fun h_93 => ?_) (fun h_93 => ?_)
                        · refine z_iinc4 C (z_d dtX7_digest_1 25 rfl) rfl ?_
                          refine z_goto (tgt := 80) C (z_d dtX7_digest_1 26 rfl) (by decide) ?_
                          refine z_drop5 ?_
                          exact ih_80 (i3 + 1) _ _ (by omega) (by rw [zD3, hh4, show i4 = (zN σ).toNat by omega]) (by omega)
                        · refine z_ldc2 C gk_RX7_270 (z_d dtX7_digest_1 12 rfl) ?_
                          refine z_lload_n C (z_d dtX7_digest_1 13 rfl) rfl ?_
                          refine z_lmul C (z_d dtX7_digest_1 14 rfl) ?_
                          refine z_aload_n C (z_d dtX7_digest_1 15 rfl) rfl ?_
                          refine gf_X7_19 C (z_d dtX7_digest_1 16 rfl) ?_
                          refine z_iload C (z_d dtX7_digest_1 17 rfl) rfl ?_
                          refine z_iload C (z_d dtX7_digest_1 18 rfl) rfl ?_
                          refine z_callV C (z_d dtX7_digest_1 19 rfl) (k_X4_weightOfAll  (by omega) (by omega)) cal_X4_weightOfAll gw_36_22 rfl 2 4 rfl rfl rfl rfl hR ⟨rfl, rfl, rfl, rfl⟩ rfl (fun r_109 w_109 h_109 => ?_)
                          obtain ⟨rfl, rfl⟩ := h_109
                          refine z_i2l C (z_d dtX7_digest_1 20 rfl) (by omega) ?_
                          refine z_ladd C (z_d dtX7_digest_1 21 rfl) ?_
                          refine z_lstore_n1 C (z_d dtX7_digest_1 22 rfl) rfl ?_
                          refine z_iinc5 C (z_d dtX7_digest_1 23 rfl) rfl ?_
                          refine z_goto (tgt := 90) C (z_d dtX7_digest_1 24 rfl) (by decide) ?_
                          exact ih_90 (i4 + 1) _ _ (by omega) (by rw [zD4, hh4]) (by omega)
                    exact lp_90 _ 0 _ _ (by omega) (by rw [hh3]; rfl) (Nat.lt_succ_self _)
              exact lp_80 _ 0 _ _ (by omega) (by rw [hh2, show i2 = (zN σ).toNat by omega]; rfl) (Nat.lt_succ_self _)
            · refine z_ldc2 C gk_RX7_270 (z_d dtX7_digest_0 30 rfl) ?_
              refine z_lload_n C (z_d dtX7_digest_0 31 rfl) rfl ?_
              refine z_lmul C (z_d dtX7_digest_0 32 rfl) ?_
              refine z_aload_n C (z_d dtX7_digest_0 33 rfl) rfl ?_
              refine gf_X7_26 C (z_d dtX7_digest_0 34 rfl) ?_
              refine z_iload C (z_d dtX7_digest_0 35 rfl) rfl ?_
              refine z_callV C (z_d dtX7_digest_0 36 rfl) (k_X1_shareOf  (by omega)) cal_X1_shareOf gw_20_0 rfl 3 1 rfl rfl rfl rfl hR ⟨rfl, rfl, rfl, rfl⟩ rfl (fun r_65 w_65 h_65 => ?_)
              obtain ⟨rfl, rfl⟩ := h_65
              refine z_i2l C (z_d dtX7_digest_0 37 rfl) (by omega) ?_
              refine z_ladd C (z_d dtX7_digest_0 38 rfl) ?_
              refine z_lstore_n1 C (z_d dtX7_digest_0 39 rfl) rfl ?_
              refine z_iinc4 C (z_d dtX7_digest_1 0 rfl) rfl ?_
              refine z_goto (tgt := 48) C (z_d dtX7_digest_1 1 rfl) (by decide) ?_
              exact ih_48 (i2 + 1) _ _ (by omega) (by rw [zD2, hh2]) (by omega)
        exact lp_48 _ 0 _ _ (by omega) (by rw [hh, show i = 11 by omega]; rfl) (Nat.lt_succ_self _)
      · refine z_iload_n C (z_d dtX7_digest_0 7 rfl) rfl ?_
        refine z_bipush C (z_d dtX7_digest_0 8 rfl) zb_6 ?_
        refine z_icmp_eq (tgt := 31) C (z_d dtX7_digest_0 9 rfl) (by decide) (by omega) (fun h_15 => ?_) (fun h_15 => ?_)
        · refine z_iinc3 C (z_d dtX7_digest_0 19 rfl) rfl ?_
          refine z_goto (tgt := 6) C (z_d dtX7_digest_0 20 rfl) (by decide) ?_
          exact ih_6 (i + 1) _ _ (by omega) (by rw [zD1, hh]; first | rw [if_neg (by omega)] | rw [if_pos (by omega)]) (by omega)
        · refine z_ldc2 C gk_RX7_270 (z_d dtX7_digest_0 10 rfl) ?_
          refine z_lload_n C (z_d dtX7_digest_0 11 rfl) rfl ?_
          refine z_lmul C (z_d dtX7_digest_0 12 rfl) ?_
          refine z_aload_n C (z_d dtX7_digest_0 13 rfl) rfl ?_
          refine z_iload_n C (z_d dtX7_digest_0 14 rfl) rfl ?_
          refine z_callV C (z_d dtX7_digest_0 15 rfl) (k_X7_count  (by first | assumption | omega) (by first | assumption | omega)) cal_X7_count gw_36_21 rfl 0 7 rfl rfl rfl rfl hR ⟨rfl, rfl, rfl, rfl⟩ rfl (fun r_25 w_25 h_25 => ?_)
          obtain ⟨rfl, rfl⟩ := h_25
          refine z_i2l C (z_d dtX7_digest_0 16 rfl) (by omega) ?_
          refine z_ladd C (z_d dtX7_digest_0 17 rfl) ?_
          refine z_lstore_n1 C (z_d dtX7_digest_0 18 rfl) rfl ?_
          refine z_iinc3 C (z_d dtX7_digest_0 19 rfl) rfl ?_
          refine z_goto (tgt := 6) C (z_d dtX7_digest_0 20 rfl) (by decide) ?_
          exact ih_6 (i + 1) _ _ (by omega) (by rw [zD1, hh]; first | rw [if_neg (by omega)] | rw [if_pos (by omega)]) (by omega)
  exact lp_6 _ 0 _ _ (by omega) rfl (Nat.lt_succ_self _)
