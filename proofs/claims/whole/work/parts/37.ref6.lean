/-! THE REFERENCE: the fewest cells with a share -/
def zIns (F : Int → Int) (a x : Int) : Int → Int := fun j => if j < a then F j else if j = a then x else F (j - 1)
theorem zIns_sum (g : Int → Int) (F : Int → Int) (x : Int) (a : Nat) : ∀ d : Nat, zSum (fun j => g (zIns F a x j)) (a + d + 1) = zSum (fun j => g (F j)) (a + d) + g x
  | 0 => by
    show zSum (fun j => g (zIns F a x j)) (a + 1) = zSum (fun j => g (F j)) a + g x
    rw [zSum]
    rw [zSum_cg (F := fun j => g (zIns F a x j)) (G := fun j => g (F j)) a (fun c _ h => by (try dsimp only); unfold zIns; rw [if_pos h])]
    (try dsimp only)
    unfold zIns
    rw [if_neg (by omega), if_pos rfl]
  | d + 1 => by
    have e : zIns F a x ((a + d + 1 : Nat) : Int) = F ((a + d : Nat) : Int) := by
      unfold zIns
      rw [if_neg (by omega), if_neg (by omega), show ((a + d + 1 : Nat) : Int) - 1 = ((a + d : Nat) : Int) by omega]
    rw [show a + (d + 1) + 1 = (a + d + 1) + 1 by omega, show a + (d + 1) = (a + d) + 1 by omega, zSum, zIns_sum g F x a d, zSum]
    (try dsimp only)
    rw [e]
    omega
theorem zIns_ok {F G : Int → Int} {c : Nat} {a x : Int} (ha : 0 ≤ a ∧ a ≤ c) (hd : ∀ i j : Int, 0 ≤ i → i ≤ j → j < c → F j ≤ F i) (hlt : ∀ j, a ≤ j → j < c → F j < x) (hge : a = 0 ∨ x ≤ F (a - 1)) (hG : ∀ j, 0 ≤ j → j < ((c + 1 : Nat) : Int) → G j = zIns F a x j) : (∀ i j : Int, 0 ≤ i → i ≤ j → j < ((c + 1 : Nat) : Int) → G j ≤ G i) ∧ ∀ g : Int → Int, zSum (fun j => g (G j)) (c + 1) = zSum (fun j => g (F j)) c + g x := by
  constructor
  · intro i j h0 h1 h2
    rw [hG i h0 (by omega), hG j (by omega) h2]
    unfold zIns
    by_cases p1 : j < a
    · rw [if_pos p1, if_pos (by omega)]
      exact hd i j h0 h1 (by omega)
    · rw [if_neg p1]
      by_cases p2 : j = a
      · rw [if_pos p2]
        by_cases p3 : i < a
        · rw [if_pos p3]
          have := hge.resolve_left (by omega)
          have := hd i (a - 1) h0 (by omega) (by omega)
          omega
        · rw [if_neg p3, if_pos (by omega)]
          exact Int.le_refl _
      · rw [if_neg p2]
        by_cases p3 : i < a
        · rw [if_pos p3]
          exact hd i (j - 1) h0 (by omega) (by omega)
        · rw [if_neg p3]
          by_cases p4 : i = a
          · rw [if_pos p4]
            have := hlt (j - 1) (by omega) (by omega)
            omega
          · rw [if_neg p4]
            exact hd (i - 1) (j - 1) (by omega) (by omega) (by omega)
  · intro g
    rw [zSum_cg (F := fun j => g (G j)) (G := fun j => g (zIns F a x j)) (c + 1) (fun j h0 h1 => by (try dsimp only); rw [hG j h0 h1])]
    have := zIns_sum g F x a.toNat (c - a.toNat)
    rw [Int.toNat_of_nonneg ha.1, show a.toNat + (c - a.toNat) = c by omega] at this
    exact this
def zCg (F : Int → Int) (v : Int) (n : Nat) : Int := zSum (fun j => if v ≤ F j then 1 else 0) n
theorem zCg_1 {S : Int → Int} {n : Nat} (hd : ∀ i j : Int, 0 ≤ i → i ≤ j → j < n → S j ≤ S i) {k : Nat} (hk : k < n) {v : Int} (h : v ≤ S k) : ∀ m : Nat, m ≤ n → (m ≤ k + 1 → zCg S v m = m) ∧ (k + 1 ≤ m → (k : Int) + 1 ≤ zCg S v m)
  | 0, _ => ⟨fun _ => rfl, fun q => absurd q (by omega)⟩
  | m + 1, hm => by
    have i := zCg_1 hd hk h m (by omega)
    have e : zCg S v (m + 1) = zCg S v m + if v ≤ S m then 1 else 0 := rfl
    constructor
    · intro q
      have := hd m k (by omega) (by omega) (by omega)
      rw [e, i.1 (by omega), if_pos (by omega)]
      push_cast
      rfl
    · intro q
      by_cases p : k + 1 ≤ m
      · have := i.2 p
        rw [e]
        split <;> omega
      · have := hd m k (by omega) (by omega) (by omega)
        rw [e, i.1 (by omega), if_pos (by omega)]
        omega
theorem zCg_2 {S : Int → Int} {n : Nat} (hd : ∀ i j : Int, 0 ≤ i → i ≤ j → j < n → S j ≤ S i) {k : Nat} (hk : k < n) {v : Int} (h : S k < v) : ∀ m : Nat, m ≤ n → zCg S v m ≤ m ∧ zCg S v m ≤ k
  | 0, _ => ⟨Int.le_refl _, by show (0 : Int) ≤ k; omega⟩
  | m + 1, hm => by
    have i := zCg_2 hd hk h m (by omega)
    have e : zCg S v (m + 1) = zCg S v m + if v ≤ S m then 1 else 0 := rfl
    rw [e]
    by_cases p : k ≤ m
    · have := hd k m (by omega) (by omega) (by omega)
      rw [if_neg (by omega)]
      omega
    · split <;> (constructor <;> (try push_cast) <;> omega)
theorem zCg_M {F : Int → Int} {n : Nat} (v : Int) : (F (zMx F n) < v → zCg F v n = 0) ∧ (1 ≤ n → v ≤ F (zMx F n) → 1 ≤ zCg F v n) := by
  constructor
  · intro h
    have e := zSum_cg (F := fun j => if v ≤ F j then (1 : Int) else 0) (G := zC 0) n (fun c a b => by
      have := zMx_max (F := F) n c a b
      (try dsimp only)
      rw [if_neg (by omega)]
      rfl)
    have := zSum_b (F := zC 0) (a := 0) (b := 0) n (fun _ _ _ => ⟨Int.le_refl _, Int.le_refl _⟩)
    show zSum _ n = 0
    omega
  · intro h1 h
    have hx := zMx_b F n
    have := zSum_le (F := fun j => if v ≤ F j then (1 : Int) else 0) n (fun c _ _ => by (try dsimp only); split <;> omega) (zMx F n) hx.1 (hx.2 h1)
    (try dsimp only at this)
    rw [if_pos h] at this
    exact this
theorem zTk_c {R : Int → Int} {n : Nat} (hn : 1 ≤ n) {v : Int} (hv : 1 ≤ v) : ∀ k : Nat, zCg (zTk R n k).2 v n = max (zCg R v n - k) 0
  | 0 => by
    have : 0 ≤ zCg R v n := zSum_p n (fun c _ _ => by (try dsimp only); split <;> omega)
    show zCg R v n = _
    omega
  | k + 1 => by
    have i := zTk_c (R := R) hn hv k
    have m := zCg_M (F := (zTk R n k).2) (n := n) v
    have hx := zMx_b (zTk R n k).2 n
    have e : zCg (zTk R n (k + 1)).2 v n = zSum (zU (fun j => if v ≤ (zTk R n k).2 j then (1 : Int) else 0) (zMx (zTk R n k).2 n) 0) n := by
      refine zSum_cg n (fun c _ _ => ?_)
      show (if v ≤ zU (zTk R n k).2 (zMx (zTk R n k).2 n) 0 c then (1 : Int) else 0) = _
      unfold zU
      split
      · rw [if_neg (by omega)]
      · rfl
    rw [e, zSum_U n hx.1 (hx.2 hn)]
    have i2 : zSum (fun j => if v ≤ (zTk R n k).2 j then (1 : Int) else 0) n = max (zCg R v n - k) 0 := i
    have i3 : zSum (fun j => if v ≤ (zTk R n k).2 j then (1 : Int) else 0) n = zCg (zTk R n k).2 v n := rfl
    by_cases q : v ≤ (zTk R n k).2 (zMx (zTk R n k).2 n)
    · have := m.2 hn q
      rw [if_pos q]
      omega
    · have := m.1 (by omega)
      rw [if_neg q]
      omega
theorem zTk_s {R S : Int → Int} {n : Nat} (hn : 1 ≤ n) {b : Int} (hb : 0 ≤ b) (hR : ∀ c : Int, 0 ≤ c → c < n → 0 ≤ R c ∧ R c ≤ b) (hS : ∀ c : Int, 0 ≤ c → c < n → 0 ≤ S c) (hd : ∀ i j : Int, 0 ≤ i → i ≤ j → j < n → S j ≤ S i) (hg : ∀ g : Int → Int, zSum (fun j => g (S j)) n = zSum (fun j => g (R j)) n) : ∀ k : Nat, k ≤ n → (zTk R n k).1 = zSum S k
  | 0, _ => rfl
  | k + 1, hk => by
    have i := zTk_s hn hb hR hS hd hg k (by omega)
    have key : (zTk R n k).2 (zMx (zTk R n k).2 n) = S k := by
      have hx := zMx_b (zTk R n k).2 n
      have b0 := ((zTk_b hn hb hR k).2 _ hx.1 (hx.2 hn)).1
      have s0 := hS k (by omega) (by omega)
      have c1 : ∀ v : Int, zCg S v n = zCg R v n := fun v => hg (fun x => if v ≤ x then 1 else 0)
      rcases Int.lt_trichotomy ((zTk R n k).2 (zMx (zTk R n k).2 n)) (S k) with q | q | q
      · exfalso
        have a1 := (zCg_1 hd (k := k) (by omega) (v := S k) (Int.le_refl _) n (Nat.le_refl _)).2 (by omega)
        have a2 := zTk_c (R := R) hn (v := S k) (by omega) k
        have a3 := (zCg_M (F := (zTk R n k).2) (n := n) (S k)).1 q
        have := c1 (S k)
        omega
      · exact q
      · exfalso
        have a1 := (zCg_2 hd (k := k) (by omega) q n (Nat.le_refl _)).2
        have a2 := zTk_c (R := R) hn (v := (zTk R n k).2 (zMx (zTk R n k).2 n)) (by omega) k
        have a3 := (zCg_M (F := (zTk R n k).2) (n := n) ((zTk R n k).2 (zMx (zTk R n k).2 n))).2 hn (Int.le_refl _)
        have := c1 ((zTk R n k).2 (zMx (zTk R n k).2 n))
        omega
    show (zTk R n k).1 + (zTk R n k).2 (zMx (zTk R n k).2 n) = zSum S k + S k
    rw [i, key]

set_option maxRecDepth 100000 in
set_option maxHeartbeats 4000000 in
theorem k_X8_sure {l : Launch} {D : va_G} {t : Nat → ClassId} {ad : Nat → Nat} {σ : zMem} {q : Int} (ok : okM σ) (hq : -2147483648 ≤ q ∧ q < 2147483648) : z_Ci l D t yX8_sure cX8_sure 4 .int 1 22 0 0 [.ref (ad 0), .int (zI q)] (wM ad t σ) (fun r w => ∃ σ', w = wM ad t σ' ∧ ((¬ (0 ≤ q ∧ q ≤ 1000000) ∧ r = -2 ∧ σ' = σ) ∨ ((0 ≤ q ∧ q ≤ 1000000) ∧ zE σ' σ [64] ∧ ∃ k : Nat, r = k ∧ k ≤ (zN σ).toNat ∧ (∀ j : Nat, j < k → (zTk (σ 9) (zN σ).toNat j).1 < q) ∧ (q ≤ (zTk (σ 9) (zN σ).toNat k).1 ∨ k = (zN σ).toNat)))) := by
  refine z_Ci_of (by decide +kernel) [some (.ref (ad 0)), some (.int (zI q)), none, none] rfl rfl (Nat.le_of_ble_eq_true rfl) fun K hl hD ht hR hnm C ret => ?_
  subst hl; subst hD; subst ht
  have ok2 := ok
  obtain ⟨⟨hw, h60, hs, h4, h5, h6, h7⟩, hmp, ⟨h9, hsum⟩, oW1, ⟨hle, hgi, hga⟩, oT1, ⟨h16, h17, h18, hit⟩⟩ := ok2
  have hN := zHw_N hw
  have hW := hw; unfold zHw at hW
  have hwh := zHw_wh hw
  have hn : σ 60 0 = ((zN σ).toNat : Int) ∧ 1 ≤ (zN σ).toNat ∧ (zN σ).toNat ≤ 72 := by omega
  have h9n : ∀ c : Int, 0 ≤ c → c < ((zN σ).toNat : Int) → 0 ≤ σ 9 c ∧ σ 9 c ≤ 1000000 := fun c a b => h9 c a (by omega)
  refine z_iload_n C (z_d dtX8_sure_0 0 rfl) rfl ?_
  refine z_iconst C (z_d dtX8_sure_0 1 rfl) ?_
  refine z_ldc C gk_RX8_160 (z_d dtX8_sure_0 2 rfl) ?_
  refine z_callS C (z_d dtX8_sure_0 3 rfl) (k_X8_in  (by first | assumption | omega) (by first | assumption | omega) (by first | assumption | omega)) cal_X8_in gw_8_19 rfl rfl hR ⟨rfl, rfl, rfl, rfl⟩ rfl (fun r_4 w_4 h_4 => ?_)
  obtain ⟨rfl, h_4⟩ := h_4
  refine z_if_ne (tgt := 13) C (z_d dtX8_sure_0 4 rfl) (by decide) (by omega) (fun h_7 => ?_) (fun h_7 => ?_)
  · refine z_iconst C (z_d dtX8_sure_0 7 rfl) ?_
    refine z_istore_n2 C (z_d dtX8_sure_0 8 rfl) rfl ?_
    have lp_15 : ∀ (N_15 : Nat) (c : Nat) (cc : Int) (μ : zMem), (cc = c ∧ c ≤ (zN σ).toNat) → (zE μ σ [64]) → (∀ i j : Int, 0 ≤ i → i ≤ j → j < c → μ 64 j ≤ μ 64 i) → (∀ j : Int, 0 ≤ j → j < c → 0 ≤ μ 64 j ∧ μ 64 j ≤ 1000000) → (∀ g : Int → Int, zSum (fun j => g (μ 64 j)) c = zSum (fun j => g (σ 9 j)) c) → (zN σ).toNat - c < N_15 → Gd K 0 0 15 [some (.ref (ad 0)), some (.int (zI q)), some (.int (zI cc)), none] [] (wM ad (z_t K) μ) := by
      intro N_15
      induction N_15 with
      | zero => intro c cc μ hc hE hd hb hg hm_15; exact absurd hm_15 (Nat.not_lt_zero _)
      | succ N_15 ih_15 =>
        intro c cc μ hc hE hd hb hg hm_15
        obtain ⟨rfl, hc⟩ := hc
        have e60 := hE 60 (by decide)
        have e9 := hE 9 (by decide)
        have h9c := fun p : (c : Int) < zN σ => h9 c (by omega) p
        refine z_iload_n C (z_d dtX8_sure_0 9 rfl) rfl ?_
        refine z_aload_n C (z_d dtX8_sure_0 10 rfl) rfl ?_
        refine gf_X8_83 C (z_d dtX8_sure_0 11 rfl) ?_
        try simp (decide := true) only [zS_s, zS_o, zC, e60, e9]
        refine z_icmp_ge (tgt := 84) C (z_d dtX8_sure_0 12 rfl) (by decide) (by omega) (fun h_20 => ?_) (fun h_20 => ?_)
        · have ecn : c = (zN σ).toNat := by omega
          subst ecn
          have hsm : zSum (μ 64) (zN σ).toNat = 1000000 := by
            have := hg (fun x => x)
            (try dsimp only at this)
            exact this.trans hsum
          have htk := zTk_s (R := σ 9) (S := μ 64) hn.2.1 (b := 1000000) (by omega) h9n (fun j a b => (hb j a b).1) hd hg
          refine z_iconst C (z_d dtX8_sure_1 10 rfl) ?_
          refine z_istore_n2 C (z_d dtX8_sure_1 11 rfl) rfl ?_
          refine z_iconst C (z_d dtX8_sure_1 12 rfl) ?_
          refine z_istore_n3 C (z_d dtX8_sure_1 13 rfl) rfl ?_
          have lp_88 : ∀ (N_88 : Nat) (k : Nat) (s kk : Int), (kk = k ∧ k ≤ (zN σ).toNat) → (s = zSum (μ 64) k) → (∀ j : Nat, j < k → zSum (μ 64) j < q) → (zN σ).toNat - k < N_88 → Gd K 0 0 88 [some (.ref (ad 0)), some (.int (zI q)), some (.int (zI kk)), some (.int (zI s))] [] (wM ad (z_t K) μ) := by
            intro N_88
            induction N_88 with
            | zero => intro k s kk hk hs2 hlt2 hm_88; exact absurd hm_88 (Nat.not_lt_zero _)
            | succ N_88 ih_88 =>
              intro k s kk hk hs2 hlt2 hm_88
              obtain ⟨rfl, hk⟩ := hk
              have hsb := zSum_b (F := μ 64) (a := 0) (b := 1000000) k (fun j a b => hb j a (by omega))
              have hkn : s < q → k < (zN σ).toNat := fun p => by
                by_cases e : k = (zN σ).toNat
                · exfalso
                  rw [e, hsm] at hs2
                  omega
                · omega
              have hbk := fun p : s < q => hb k (by omega) (by have := hkn p; omega)
              refine z_iload_n C (z_d dtX8_sure_1 14 rfl) rfl ?_
              refine z_iload_n C (z_d dtX8_sure_1 15 rfl) rfl ?_
              refine z_icmp_ge (tgt := 108) C (z_d dtX8_sure_1 16 rfl) (by decide) (by omega) (fun h_90 => ?_) (fun h_90 => ?_)
              · refine z_iload_n C (z_d dtX8_sure_1 26 rfl) rfl ?_
                exact ret _ _ _ _ (z_d dtX8_sure_1 27 rfl) (⟨_, rfl, Or.inr ⟨by omega, hE, k, rfl, hk, fun j p => by rw [htk j (by omega)]; exact hlt2 j p, Or.inl (by rw [htk k hk]; omega)⟩⟩) rfl
              · refine z_iload_n C (z_d dtX8_sure_1 17 rfl) rfl ?_
                refine z_aload_n C (z_d dtX8_sure_1 18 rfl) rfl ?_
                refine gf_X8_46 C (z_d dtX8_sure_1 19 rfl) ?_
                refine z_iload_n C (z_d dtX8_sure_1 20 rfl) rfl ?_
                refine al_M11 C (z_d dtX8_sure_1 21 rfl) (by omega) ?_
                try simp (decide := true) only [zS_s, zS_o, zC, e60, e9]
                refine z_iadd C (z_d dtX8_sure_1 22 rfl) ?_
                refine z_istore_n3 C (z_d dtX8_sure_1 23 rfl) rfl ?_
                refine z_iinc2 C (z_d dtX8_sure_1 24 rfl) rfl ?_
                refine z_goto (tgt := 88) C (z_d dtX8_sure_1 25 rfl) (by decide) ?_
                exact ih_88 (k + 1) _ _ (by omega) (by rw [zSum, hs2]) (fun j a => by
                        by_cases e : j = k
                        · subst e; omega
                        · exact hlt2 j (by omega)) (by omega)
          exact lp_88 _ 0 _ _ (by omega) rfl (fun j a => absurd a (by omega)) (Nat.lt_succ_self _)
        · refine z_iload_n C (z_d dtX8_sure_0 13 rfl) rfl ?_
          refine z_istore_n3 C (z_d dtX8_sure_0 14 rfl) rfl ?_
          have lp_25 : ∀ (N_25 : Nat) (a : Int) (ν : zMem), (0 ≤ a ∧ a ≤ c) → (zE ν μ [64]) → (∀ j, 0 ≤ j → j < a → ν 64 j = μ 64 j) → (∀ j, a < j → j ≤ c → ν 64 j = μ 64 (j - 1)) → (∀ j, a ≤ j → j < c → μ 64 j < σ 9 c) → a.toNat < N_25 → Gd K 0 0 25 [some (.ref (ad 0)), some (.int (zI q)), some (.int (zI (c : Int))), some (.int (zI a))] [] (wM ad (z_t K) ν) := by
            intro N_25
            induction N_25 with
            | zero => intro a ν ha hE2 hlo hhi hlt hm_25; exact absurd hm_25 (Nat.not_lt_zero _)
            | succ N_25 ih_25 =>
              intro a ν ha hE2 hlo hhi hlt hm_25
              have e60 : ν 60 = σ 60 := (hE2 60 (by decide)).trans e60
              have e9 : ν 9 = σ 9 := (hE2 9 (by decide)).trans e9
              have hla := fun p : 0 < a => hlo (a - 1) (by omega) (by omega)
              have hba := fun p : 0 < a => hb (a - 1) (by omega) (by omega)
              have h9c2 := h9c (by omega)
              have hin := fun (p : a = 0 ∨ σ 9 c ≤ μ 64 (a - 1)) => zIns_ok (F := μ 64) (G := zS ν 64 (zU (ν 64) a (σ 9 c)) 64) ha hd hlt p (fun j h0 h1 => by
                  rw [zS_s]
                  unfold zU zIns
                  by_cases e1 : j = a
                  · rw [if_pos e1, if_neg (by omega), if_pos e1]
                  · rw [if_neg e1]
                    by_cases e2 : j < a
                    · rw [if_pos e2]; exact hlo j h0 e2
                    · rw [if_neg e2, if_neg e1]; exact hhi j (by omega) (by omega))
              refine z_iload_n C (z_d dtX8_sure_0 15 rfl) rfl ?_
              refine z_if_le (tgt := 66) C (z_d dtX8_sure_0 16 rfl) (by decide) (by omega) (fun h_26 => ?_) (fun h_26 => ?_)
              · refine z_aload_n C (z_d dtX8_sure_1 0 rfl) rfl ?_
                refine gf_X8_46 C (z_d dtX8_sure_1 1 rfl) ?_
                refine z_iload_n C (z_d dtX8_sure_1 2 rfl) rfl ?_
                refine z_aload_n C (z_d dtX8_sure_1 3 rfl) rfl ?_
                refine gf_X8_30 C (z_d dtX8_sure_1 4 rfl) ?_
                refine z_iload_n C (z_d dtX8_sure_1 5 rfl) rfl ?_
                refine al_M6 C (z_d dtX8_sure_1 6 rfl) (by omega) ?_
                try simp (decide := true) only [zS_s, zS_o, zC, e60, e9]
                refine as_M11 C (z_d dtX8_sure_1 7 rfl) (by omega) ?_
                refine z_iinc2 C (z_d dtX8_sure_1 8 rfl) rfl ?_
                refine z_goto (tgt := 15) C (z_d dtX8_sure_1 9 rfl) (by decide) ?_
                refine z_drop3 ?_
                exact ih_15 (c + 1) _ _ (by omega) (zE_set (zE_tr (zE_mo hE2 (by decide)) hE) (by decide)) (hin (by omega)).1 (fun j p1 p2 => by
                        rw [zS_s]
                        unfold zU
                        by_cases e1 : j = a
                        · rw [if_pos e1]; exact h9c (by omega)
                        · rw [if_neg e1]
                          by_cases e2 : j < a
                          · rw [hlo j p1 (by omega)]; exact hb j p1 (by omega)
                          · rw [hhi j (by omega) (by omega)]; exact hb (j - 1) (by omega) (by omega)) (fun g => by rw [(hin (by omega)).2 g, hg g, zSum]) (by omega)
              · refine z_aload_n C (z_d dtX8_sure_0 17 rfl) rfl ?_
                refine gf_X8_46 C (z_d dtX8_sure_0 18 rfl) ?_
                refine z_iload_n C (z_d dtX8_sure_0 19 rfl) rfl ?_
                refine z_iconst C (z_d dtX8_sure_0 20 rfl) ?_
                refine z_isub C (z_d dtX8_sure_0 21 rfl) ?_
                refine al_M11 C (z_d dtX8_sure_0 22 rfl) (by omega) ?_
                try simp (decide := true) only [zS_s, zS_o, zC, e60, e9]
                refine z_top (hla (by omega)) ?_
                refine z_aload_n C (z_d dtX8_sure_0 23 rfl) rfl ?_
                refine gf_X8_30 C (z_d dtX8_sure_0 24 rfl) ?_
                refine z_iload_n C (z_d dtX8_sure_0 25 rfl) rfl ?_
                refine al_M6 C (z_d dtX8_sure_0 26 rfl) (by omega) ?_
                try simp (decide := true) only [zS_s, zS_o, zC, e60, e9]
                refine z_icmp_ge (tgt := 66) C (z_d dtX8_sure_0 27 rfl) (by decide) (by omega) (fun h_43 => ?_) (fun h_43 => ?_)
                · refine z_aload_n C (z_d dtX8_sure_1 0 rfl) rfl ?_
                  refine gf_X8_46 C (z_d dtX8_sure_1 1 rfl) ?_
                  refine z_iload_n C (z_d dtX8_sure_1 2 rfl) rfl ?_
                  refine z_aload_n C (z_d dtX8_sure_1 3 rfl) rfl ?_
                  refine gf_X8_30 C (z_d dtX8_sure_1 4 rfl) ?_
                  refine z_iload_n C (z_d dtX8_sure_1 5 rfl) rfl ?_
                  refine al_M6 C (z_d dtX8_sure_1 6 rfl) (by omega) ?_
                  try simp (decide := true) only [zS_s, zS_o, zC, e60, e9]
                  refine as_M11 C (z_d dtX8_sure_1 7 rfl) (by omega) ?_
                  refine z_iinc2 C (z_d dtX8_sure_1 8 rfl) rfl ?_
                  refine z_goto (tgt := 15) C (z_d dtX8_sure_1 9 rfl) (by decide) ?_
                  refine z_drop3 ?_
                  exact ih_15 (c + 1) _ _ (by omega) (zE_set (zE_tr (zE_mo hE2 (by decide)) hE) (by decide)) (hin (by omega)).1 (fun j p1 p2 => by
                          rw [zS_s]
                          unfold zU
                          by_cases e1 : j = a
                          · rw [if_pos e1]; exact h9c (by omega)
                          · rw [if_neg e1]
                            by_cases e2 : j < a
                            · rw [hlo j p1 (by omega)]; exact hb j p1 (by omega)
                            · rw [hhi j (by omega) (by omega)]; exact hb (j - 1) (by omega) (by omega)) (fun g => by rw [(hin (by omega)).2 g, hg g, zSum]) (by omega)
                · refine z_aload_n C (z_d dtX8_sure_0 28 rfl) rfl ?_
                  refine gf_X8_46 C (z_d dtX8_sure_0 29 rfl) ?_
                  refine z_iload_n C (z_d dtX8_sure_0 30 rfl) rfl ?_
                  refine z_aload_n C (z_d dtX8_sure_0 31 rfl) rfl ?_
                  refine gf_X8_46 C (z_d dtX8_sure_0 32 rfl) ?_
                  refine z_iload_n C (z_d dtX8_sure_0 33 rfl) rfl ?_
                  refine z_iconst C (z_d dtX8_sure_0 34 rfl) ?_
                  refine z_isub C (z_d dtX8_sure_0 35 rfl) ?_
                  refine al_M11 C (z_d dtX8_sure_0 36 rfl) (by omega) ?_
                  try simp (decide := true) only [zS_s, zS_o, zC, e60, e9]
                  refine z_top (hla (by omega)) ?_
                  refine as_M11 C (z_d dtX8_sure_0 37 rfl) (by omega) ?_
                  refine z_iinc3 C (z_d dtX8_sure_0 38 rfl) rfl ?_
                  refine z_goto (tgt := 25) C (z_d dtX8_sure_0 39 rfl) (by decide) ?_
                  exact ih_25 _ _ (by omega) (zE_set hE2 (by decide)) (fun j p q => by rw [zS_s, zU_n (by omega)]; exact hlo j p (by omega)) (fun j p q => by
                          rw [zS_s]
                          by_cases e : j = a
                          · subst e; rw [zU_s]
                          · rw [zU_n e]; exact hhi j (by omega) q) (fun j p q => by
                          by_cases e : j = a - 1
                          · subst e; omega
                          · exact hlt j (by omega) q) (by omega)
          exact lp_25 _ _ _ (by omega) zE_rf (fun j _ _ => rfl) (fun j a b => absurd a (by omega)) (fun j a b => absurd a (by omega)) (Nat.lt_succ_self _)
    exact lp_15 _ 0 _ _ (by omega) zE_rf (fun i j a b d => absurd d (by omega)) (fun j a b => absurd b (by omega)) (fun g => rfl) (Nat.lt_succ_self _)
  · refine z_bipush C (z_d dtX8_sure_0 5 rfl) zb_m2 ?_
    exact ret _ _ _ _ (z_d dtX8_sure_0 6 rfl) (⟨σ, rfl, Or.inl ⟨by omega, rfl, rfl⟩⟩) rfl
