/-! THE REFERENCE: ways -/
theorem okM_E {μ σ : zMem} {l : List Nat} (h : zE μ σ l) (hl : ∀ k ∈ l, 61 ≤ k := by decide) (ok : okM σ) : okM μ := by
  have e : ∀ k : Nat, k < 61 → μ k = σ k := fun k hk => h k (fun q => by have := hl k q; omega)
  have eN : zN μ = zN σ := by unfold zN; rw [e 0 (by omega), e 1 (by omega), e 2 (by omega)]
  obtain ⟨⟨a1, a2, a3, a4, a5, a6, a7⟩, b, c, d, ⟨f1, f2, f3⟩, g, ⟨i1, i2, i3, i4⟩⟩ := ok
  refine ⟨⟨?_, ?_, ?_, ?_, ?_, ?_, ?_⟩, ?_, ?_, ?_, ⟨?_, ?_, ?_⟩, ?_, ⟨?_, ?_, ?_, ?_⟩⟩
  · unfold zHw; rw [eN, e 0 (by omega), e 1 (by omega), e 2 (by omega)]; exact a1
  · rw [eN, e 60 (by omega)]; exact a2
  · rw [e 3 (by omega)]; exact a3
  · unfold zBo; rw [e 4 (by omega)]; exact a4
  · unfold zBo; rw [e 5 (by omega)]; exact a5
  · unfold zBo; rw [e 6 (by omega)]; exact a6
  · unfold zBo; rw [e 7 (by omega)]; exact a7
  · unfold zMp; rw [e 8 (by omega)]; exact b
  · rw [eN, e 9 (by omega)]; exact c
  · unfold oW; rw [eN, e 10 (by omega)]; exact d
  · rw [e 11 (by omega)]; exact f1
  · rw [e 12 (by omega)]; exact f2
  · unfold zIsA; rw [e 12 (by omega), e 13 (by omega), e 0 (by omega), e 1 (by omega), e 2 (by omega)]; exact f3
  · unfold oT; rw [e 14 (by omega)]; exact g
  · unfold zBo; rw [e 16 (by omega)]; exact i1
  · rw [e 17 (by omega)]; exact i2
  · rw [e 18 (by omega)]; exact i3
  · unfold zIt; rw [e 20 (by omega)]; exact i4
def zYs (σ : zMem) (V : Int → Int) (c d : Int) : Int := if 0 < zLy σ c d ∧ ¬ V d = -1 then zLy σ c d + V d else -1
def zYb (σ : zMem) (V : Int → Int) (c : Int) : Nat → Int × Int
  | 0 => (-1, -1)
  | n + 1 => if zYs σ V c n > (zYb σ V c n).2 then ((n : Int), zYs σ V c n) else zYb σ V c n
def zYv (σ : zMem) (z wo R : Int) : Nat → Int → Int
  | 0 => fun c => zRw σ z (R - 1) c 0 wo 8
  | k + 1 => fun c => if (zYb σ (zYv σ z wo R k) c (zN σ).toNat).2 = -1 then -1 else (zYb σ (zYv σ z wo R k) c (zN σ).toNat).2 + zRw σ z (R - 1 - ((k : Int) + 1)) c 0 wo 8
def zYw (σ : zMem) (z wo R : Int) : Nat → Int
  | 0 => zMx (zYv σ z wo R (R - 1).toNat) (zN σ).toNat
  | k + 1 => (zYb σ (zYv σ z wo R (R - 1 - ((k : Int) + 1)).toNat) (zYw σ z wo R k) (zN σ).toNat).1
def zYf (σ : zMem) (z wo R : Int) : Int := zYv σ z wo R (R - 1).toNat (zYw σ z wo R 0)
theorem zYs_b {σ : zMem} {V : Int → Int} {b : Int} (hs : 0 ≤ σ 3 0 ∧ σ 3 0 ≤ 9) (hb : -1 ≤ b) (c d : Int) (hV : -1 ≤ V d ∧ V d ≤ b) : -1 ≤ zYs σ V c d ∧ zYs σ V c d ≤ b + 9 := by
  have := zLy_b hs c d
  unfold zYs
  split <;> omega
theorem zYb_b {σ : zMem} {V : Int → Int} {b : Int} (hs : 0 ≤ σ 3 0 ∧ σ 3 0 ≤ 9) (hb : -1 ≤ b) (c : Int) : ∀ n : Nat, (∀ d : Int, 0 ≤ d → d < n → -1 ≤ V d ∧ V d ≤ b) → (-1 ≤ (zYb σ V c n).1 ∧ (zYb σ V c n).1 < n) ∧ (-1 ≤ (zYb σ V c n).2 ∧ (zYb σ V c n).2 ≤ b + 9)
  | 0, _ => by simp only [zYb]; omega
  | n + 1, hV => by
    have i := zYb_b hs hb c n (fun d h0 h1 => hV d h0 (by omega))
    have s := zYs_b hs hb c n (hV n (by omega) (by omega))
    rw [zYb]
    split
    · (try dsimp only); omega
    · omega
theorem zYb_f {σ : zMem} {V : Int → Int} (c : Int) : ∀ n : Nat, (∀ e : Int, 0 ≤ e → e < n → zYs σ V c e ≤ (zYb σ V c n).2) ∧ ((zYb σ V c n).2 = -1 ∨ (-1 < (zYb σ V c n).2 ∧ (0 ≤ (zYb σ V c n).1 ∧ (zYb σ V c n).1 < n) ∧ zYs σ V c (zYb σ V c n).1 = (zYb σ V c n).2 ∧ ∀ e : Int, 0 ≤ e → e < (zYb σ V c n).1 → zYs σ V c e < (zYb σ V c n).2))
  | 0 => ⟨fun e a b => absurd b (by omega), Or.inl rfl⟩
  | n + 1 => by
    have i := zYb_f (σ := σ) (V := V) c n
    rw [zYb]
    by_cases q : zYs σ V c n > (zYb σ V c n).2
    · rw [if_pos q]
      refine ⟨fun e a b => ?_, Or.inr ⟨?_, by (try dsimp only); omega, rfl, fun e a b => ?_⟩⟩
      · by_cases e1 : e = n
        · subst e1; exact Int.le_refl _
        · have := i.1 e a (by omega)
          (try dsimp only)
          omega
      · (try dsimp only)
        rcases i.2 with p | p <;> omega
      · have := i.1 e a b
        (try dsimp only)
        omega
    · rw [if_neg q]
      refine ⟨fun e a b => ?_, i.2.imp id (fun p => ⟨p.1, by omega, p.2.2⟩)⟩
      by_cases e1 : e = n
      · subst e1; omega
      · exact i.1 e a (by omega)
theorem zYv_b {σ : zMem} (hmp : zMp σ) (hs : 0 ≤ σ 3 0 ∧ σ 3 0 ≤ 9) (z wo R : Int) : ∀ (k : Nat) (c : Int), -1 ≤ zYv σ z wo R k c ∧ zYv σ z wo R k c ≤ 3000 * ((k : Int) + 1)
  | 0, c => by
    have a := zRw_b hmp z (R - 1) c 0 wo 8
    simp only [zYv]
    omega
  | k + 1, c => by
    have a := zRw_b hmp z (R - 1 - ((k : Int) + 1)) c 0 wo 8
    have b := zYb_b (V := zYv σ z wo R k) hs (b := 3000 * ((k : Int) + 1)) (by omega) c (zN σ).toNat (fun d _ _ => zYv_b hmp hs z wo R k d)
    simp only [zYv]
    split
    · omega
    · push_cast
      omega
theorem zYv_st {σ : zMem} {z wo R r c b : Int} (hr : 0 ≤ r ∧ r ≤ R - 1) (h : (r = R - 1 ∧ b = 0) ∨ (r < R - 1 ∧ b = (zYb σ (zYv σ z wo R (R - 1 - (r + 1)).toNat) c (zN σ).toNat).2)) : zYv σ z wo R (R - 1 - r).toNat c = if b = -1 then -1 else b + zRw σ z r c 0 wo 8 := by
  rcases h with ⟨h1, h2⟩ | ⟨h1, h2⟩
  · rw [show (R - 1 - r).toNat = 0 by omega, h2, if_neg (by omega), h1]
    show zRw σ z (R - 1) c 0 wo 8 = _
    omega
  · rw [show (R - 1 - r).toNat = (R - 1 - (r + 1)).toNat + 1 by omega]
    simp only [zYv]
    rw [← h2, show R - 1 - (((R - 1 - (r + 1)).toNat : Int) + 1) = r by omega]
/-- the cells of the way: each one a cell that can be gone on from -/
theorem zYw_ok {σ : zMem} (hN : 1 ≤ zN σ) {z wo R : Int} (hR : 1 ≤ R) (hf : ¬ zYf σ z wo R = -1) : ∀ k : Nat, k < R → (0 ≤ zYw σ z wo R k ∧ zYw σ z wo R k < zN σ) ∧ ¬ zYv σ z wo R (R - 1 - k).toNat (zYw σ z wo R k) = -1
  | 0, _ => by
    have := (zMx_f (F := zYv σ z wo R (R - 1).toNat) (n := (zN σ).toNat) (by omega)).1
    refine ⟨?_, ?_⟩
    · rw [zYw]; omega
    · rw [show (R - 1 - ((0 : Nat) : Int)).toNat = (R - 1).toNat by omega]; exact hf
  | k + 1, hk => by
    have i := zYw_ok hN hR hf k (by omega)
    have e : (R - 1 - (k : Int)).toNat = (R - 1 - ((k : Int) + 1)).toNat + 1 := by omega
    have i2 := i.2
    rw [e] at i2
    simp only [zYv] at i2
    have f := zYb_f (σ := σ) (V := zYv σ z wo R (R - 1 - ((k : Int) + 1)).toNat) (zYw σ z wo R k) (zN σ).toNat
    have g : ¬ (zYb σ (zYv σ z wo R (R - 1 - ((k : Int) + 1)).toNat) (zYw σ z wo R k) (zN σ).toNat).2 = -1 := fun q => i2 (by rw [if_pos q])
    have g2 := f.2.resolve_left g
    have e2 : zYw σ z wo R (k + 1) = (zYb σ (zYv σ z wo R (R - 1 - ((k : Int) + 1)).toNat) (zYw σ z wo R k) (zN σ).toNat).1 := rfl
    have e3 : (R - 1 - ((k + 1 : Nat) : Int)).toNat = (R - 1 - ((k : Int) + 1)).toNat := by omega
    rw [e2, e3]
    refine ⟨by omega, fun q => ?_⟩
    have := g2.2.2.1
    unfold zYs at this
    rw [if_neg (fun p => p.2 q)] at this
    omega
theorem zYw_l {σ : zMem} (hN : 1 ≤ zN σ) {z wo R : Int} (hR : 1 ≤ R) (hf : ¬ zYf σ z wo R = -1) (k : Nat) (hk : (k : Int) + 1 < R) : zYv σ z wo R (R - 1 - k).toNat (zYw σ z wo R k) - zRw σ z k (zYw σ z wo R k) 0 wo 8 = (zYb σ (zYv σ z wo R (R - 1 - ((k : Int) + 1)).toNat) (zYw σ z wo R k) (zN σ).toNat).2 ∧ ¬ (zYb σ (zYv σ z wo R (R - 1 - ((k : Int) + 1)).toNat) (zYw σ z wo R k) (zN σ).toNat).2 = -1 := by
  have i2 := (zYw_ok hN hR hf k (by omega)).2
  have s := zYv_st (σ := σ) (z := z) (wo := wo) (R := R) (r := (k : Int)) (c := zYw σ z wo R k) (by omega) (Or.inr ⟨by omega, rfl⟩)
  rw [s] at i2 ⊢
  by_cases q : (zYb σ (zYv σ z wo R (R - 1 - ((k : Int) + 1)).toNat) (zYw σ z wo R k) (zN σ).toNat).2 = -1
  · rw [if_pos q] at i2
    exact absurd rfl i2
  · rw [if_neg q]
    exact ⟨by omega, q⟩
/-- whether there is a way does not ask for the weights -/
theorem zYv_fe (σ : zMem) (z wo wo' R : Int) : ∀ (k : Nat) (c : Int), zMp σ → (0 ≤ σ 3 0 ∧ σ 3 0 ≤ 9) → zYv σ z wo R k c = -1 → zYv σ z wo' R k c = -1
  | 0, c, hmp, _, h => by
    have := zRw_b hmp z (R - 1) c 0 wo 8
    simp only [zYv] at h
    omega
  | k + 1, c, hmp, hs, h => by
    have w := zRw_b hmp z (R - 1 - ((k : Int) + 1)) c 0 wo 8
    have b := zYb_b (V := zYv σ z wo R k) hs (b := 3000 * ((k : Int) + 1)) (by omega) c (zN σ).toNat (fun d _ _ => zYv_b hmp hs z wo R k d)
    have q : (zYb σ (zYv σ z wo R k) c (zN σ).toNat).2 = -1 := by
      simp only [zYv] at h
      by_cases p : (zYb σ (zYv σ z wo R k) c (zN σ).toNat).2 = -1
      · exact p
      · rw [if_neg p] at h
        omega
    have q' : (zYb σ (zYv σ z wo' R k) c (zN σ).toNat).2 = -1 := by
      have f := zYb_f (σ := σ) (V := zYv σ z wo R k) c (zN σ).toNat
      have f' := zYb_f (σ := σ) (V := zYv σ z wo' R k) c (zN σ).toNat
      refine f'.2.elim id (fun p => ?_)
      exfalso
      have s := f.1 _ p.2.1.1 p.2.1.2
      have s' := p.2.2.1
      have v := zYv_b hmp hs z wo R k (zYb σ (zYv σ z wo' R k) c (zN σ).toNat).1
      unfold zYs at s s'
      by_cases r : 0 < zLy σ c (zYb σ (zYv σ z wo' R k) c (zN σ).toNat).1 ∧ ¬ zYv σ z wo' R k (zYb σ (zYv σ z wo' R k) c (zN σ).toNat).1 = -1
      · have nv : ¬ zYv σ z wo R k (zYb σ (zYv σ z wo' R k) c (zN σ).toNat).1 = -1 := fun u => r.2 (zYv_fe σ z wo wo' R k _ hmp hs u)
        rw [if_pos ⟨r.1, nv⟩] at s
        omega
      · rw [if_neg r] at s'
        omega
    simp only [zYv]
    rw [if_pos q']
theorem zYf_fe {σ : zMem} (hN : 1 ≤ zN σ) (hmp : zMp σ) (hs : 0 ≤ σ 3 0 ∧ σ 3 0 ≤ 9) (z wo wo' R : Int) (h : zYf σ z wo R = -1) : zYf σ z wo' R = -1 := by
  have hm := (zMx_f (F := zYv σ z wo R (R - 1).toNat) (n := (zN σ).toNat) (by omega)).2.1
  have hm' := (zMx_f (F := zYv σ z wo' R (R - 1).toNat) (n := (zN σ).toNat) (by omega)).1
  have a := hm _ hm'.1 hm'.2
  have b := zYv_b hmp hs z wo R (R - 1).toNat (zMx (zYv σ z wo' R (R - 1).toNat) (zN σ).toNat)
  have h' : zYv σ z wo R (R - 1).toNat (zMx (zYv σ z wo R (R - 1).toNat) (zN σ).toNat) = -1 := h
  have key := zYv_fe σ z wo wo' R (R - 1).toNat (zMx (zYv σ z wo' R (R - 1).toNat) (zN σ).toNat) hmp hs (by omega)
  exact key
def zMuy (σ : zMem) (z k : Int) (y : Nat → Int) : Nat → Int
  | 0 => 0
  | n + 1 => zMuy σ z k y n + if zH0 (zHv σ z n k) ≠ -2 ∧ zWt σ k (y n) (zH0 (zHv σ z n k)) = 1 then 1 else 0
theorem zMuy_b (σ : zMem) (z k : Int) (y : Nat → Int) : ∀ n : Nat, 0 ≤ zMuy σ z k y n ∧ zMuy σ z k y n ≤ n
  | 0 => by simp [zMuy]
  | n + 1 => by
    have a := zMuy_b σ z k y n
    rw [zMuy]
    split <;> (constructor <;> (try push_cast) <;> omega)
abbrev zYd (σ : zMem) (z k : Int) : Prop := zMr σ z k (σ 18 z / 8).toNat < 2 * zMuy σ z k (zYw σ z k (σ 18 z / 8)) (σ 18 z / 8).toNat
def zYt (σ : zMem) (z : Int) : Nat → Int
  | 0 => 0
  | k + 1 => zYt σ z k + if σ 7 k = 0 ∧ zYd σ z k then z_p2 k else 0
theorem zYt_b (σ : zMem) (z : Int) (k : Nat) (hk : k ≤ 8) : 0 ≤ zYt σ z k ∧ (k < 8 → zYt σ z k < z_p2 k) ∧ zYt σ z k < 256 := by
  have s : ∀ j : Nat, 0 ≤ (if σ 7 j = 0 ∧ zYd σ z j then z_p2 j else 0) ∧ (if σ 7 j = 0 ∧ zYd σ z j then z_p2 j else 0) ≤ z_p2 j := by
    intro j
    have : 0 ≤ z_p2 j := by unfold z_p2; repeat (split; omega); omega
    split <;> omega
  have p : z_p2 ((0 : Nat) : Int) = 1 ∧ z_p2 ((1 : Nat) : Int) = 2 ∧ z_p2 ((2 : Nat) : Int) = 4 ∧ z_p2 ((3 : Nat) : Int) = 8 ∧ z_p2 ((4 : Nat) : Int) = 16 ∧ z_p2 ((5 : Nat) : Int) = 32 ∧ z_p2 ((6 : Nat) : Int) = 64 ∧ z_p2 ((7 : Nat) : Int) = 128 := by decide +kernel
  obtain ⟨F, hF, hS⟩ : ∃ F : Nat → Int, (∀ j : Nat, 0 ≤ F j ∧ F j ≤ z_p2 j) ∧ ∀ j, zYt σ z (j + 1) = zYt σ z j + F j := ⟨fun j => if σ 7 j = 0 ∧ zYd σ z j then z_p2 j else 0, s, fun j => rfl⟩
  clear s
  have s0 := hF 0; have s1 := hF 1; have s2 := hF 2; have s3 := hF 3; have s4 := hF 4; have s5 := hF 5; have s6 := hF 6; have s7 := hF 7
  have e0 : zYt σ z 0 = 0 := rfl
  have e1 := hS 0; have e2 := hS 1; have e3 := hS 2; have e4 := hS 3; have e5 := hS 4; have e6 := hS 5; have e7 := hS 6; have e8 := hS 7
  simp only [Nat.zero_add, Nat.reduceAdd] at e1 e2 e3 e4 e5 e6 e7 e8
  rcases (show k = 0 ∨ k = 1 ∨ k = 2 ∨ k = 3 ∨ k = 4 ∨ k = 5 ∨ k = 6 ∨ k = 7 ∨ k = 8 by omega) with rfl | rfl | rfl | rfl | rfl | rfl | rfl | rfl | rfl <;> omega

set_option maxRecDepth 100000 in
set_option maxHeartbeats 4000000 in
theorem k_X8_walks {l : Launch} {D : va_G} {t : Nat → ClassId} {ad : Nat → Nat} {σ : zMem} {z wo : Int} (ok : okM σ) (hz : 0 ≤ z ∧ z < 4) (hwo : -1 ≤ wo ∧ wo < 8) : z_Ci l D t yX8_walks cX8_walks 9 .int 3 76 0 0 [.ref (ad 0), .int (zI z), .int (zI wo)] (wM ad t σ) (fun r w => ∃ σ', w = wM ad t σ' ∧ ((((σ 18 z / 8) = 0 ∨ zYf σ z wo (σ 18 z / 8) = -1) ∧ r = -1 ∧ zE σ' σ [66]) ∨ (1 ≤ (σ 18 z / 8) ∧ 0 ≤ r ∧ r = zYf σ z wo (σ 18 z / 8) ∧ zE σ' σ [65, 66] ∧ ∀ k : Nat, k < (σ 18 z / 8) → σ' 65 k = zYw σ z wo (σ 18 z / 8) k))) := by
  refine z_Ci_of (by decide +kernel) [some (.ref (ad 0)), some (.int (zI z)), some (.int (zI wo)), none, none, none, none, none, none] rfl rfl (Nat.le_of_ble_eq_true rfl) fun K hl hD ht hR hnm C ret => ?_
  subst hl; subst hD; subst ht
  have ok2 := ok
  obtain ⟨⟨hw, h60, hs, h4, h5, h6, h7⟩, hmp, ⟨h9, hsum⟩, oW1, ⟨hle, hgi, hga⟩, oT1, ⟨h16, h17, h18, hit⟩⟩ := ok2
  have hN := zHw_N hw
  have hW := hw; unfold zHw at hW
  have hwh := zHw_wh hw
  have hn : σ 60 0 = ((zN σ).toNat : Int) ∧ 1 ≤ (zN σ).toNat ∧ (zN σ).toNat ≤ 72 := by omega
  have h9n : ∀ c : Int, 0 ≤ c → c < ((zN σ).toNat : Int) → 0 ≤ σ 9 c ∧ σ 9 c ≤ 1000000 := fun c a b => h9 c a (by omega)
  have hvb := fun (k : Nat) (c : Int) => zYv_b hmp hs z wo (σ 18 z / 8) k c
  have h18z := h18 z
  refine z_aload_n C (z_d dtX8_walks_0 0 rfl) rfl ?_
  refine z_iload_n C (z_d dtX8_walks_0 1 rfl) rfl ?_
  refine z_callV C (z_d dtX8_walks_0 2 rfl) (k_X8_rowsOf  (by first | assumption | omega) (by first | assumption | omega)) cal_X8_rowsOf gw_16_23 rfl 0 8 rfl rfl rfl rfl hR ⟨rfl, rfl, rfl, rfl⟩ rfl (fun r_2 w_2 h_2 => ?_)
  obtain ⟨rfl, rfl⟩ := h_2
  refine z_istore_n3 C (z_d dtX8_walks_0 3 rfl) rfl ?_
  refine z_iload_n C (z_d dtX8_walks_0 4 rfl) rfl ?_
  refine z_iconst C (z_d dtX8_walks_0 5 rfl) ?_
  refine z_isub C (z_d dtX8_walks_0 6 rfl) ?_
  refine z_istore4 C (z_d dtX8_walks_0 7 rfl) rfl ?_
  have lp_11 : ∀ (N_11 : Nat) (r : Int) (μ : zMem), (-1 ≤ r ∧ r ≤ (σ 18 z / 8) - 1) → (zE μ σ [66]) → (∀ r2 c2 : Int, r < r2 → r2 ≤ (σ 18 z / 8) - 1 → 0 ≤ c2 → c2 < zN σ → μ 66 (72 * r2 + c2) = (zYv σ z wo (σ 18 z / 8) ((σ 18 z / 8) - 1 - r2).toNat) c2) → (r + 1).toNat < N_11 → Gd K 0 0 11 [some (.ref (ad 0)), some (.int (zI z)), some (.int (zI wo)), some (.int (zI (σ 18 z / 8))), some (.int (zI r)), none, none, none, none] [] (wM ad (z_t K) μ) := by
    intro N_11
    induction N_11 with
    | zero => intro r μ hr hE hrows hm_11; exact absurd hm_11 (Nat.not_lt_zero _)
    | succ N_11 ih_11 =>
      intro r μ hr hE hrows hm_11
      have e60 : μ 60 = σ 60 := hE 60 (by decide)
      refine z_iload C (z_d dtX8_walks_0 8 rfl) rfl ?_
      refine z_if_lt (tgt := 194) C (z_d dtX8_walks_0 9 rfl) (by decide) (by omega) (fun h_13 => ?_) (fun h_13 => ?_)
      · have hr1 : r = -1 := by omega
        subst hr1
        have hS0f : 1 ≤ (σ 18 z / 8) → ∀ c : Int, 0 ≤ c → c < zN σ → μ 66 c = zYv σ z wo (σ 18 z / 8) ((σ 18 z / 8) - 1).toNat c := fun p c a b => by
          have q := hrows 0 c (by omega) (by omega) a b
          rw [show 72 * 0 + c = c by omega, show (σ 18 z / 8) - 1 - 0 = (σ 18 z / 8) - 1 by omega] at q
          exact q
        refine z_iconst C (z_d dtX8_walks_2 26 rfl) ?_
        refine z_istore4 C (z_d dtX8_walks_2 27 rfl) rfl ?_
        refine z_iconst C (z_d dtX8_walks_2 28 rfl) ?_
        refine z_istore5 C (z_d dtX8_walks_2 29 rfl) rfl ?_
        have lp_200 : ∀ (N_200 : Nat) (c : Nat) (m cc : Int), (cc = c ∧ c ≤ (zN σ).toNat) → (¬ c = 0 → 1 ≤ (σ 18 z / 8)) → (m = if c = 0 then -1 else (zYv σ z wo (σ 18 z / 8) (σ 18 z / 8 - 1).toNat) (zMx (zYv σ z wo (σ 18 z / 8) (σ 18 z / 8 - 1).toNat) c)) → (zN σ).toNat - c < N_200 → Gd K 0 0 200 [some (.ref (ad 0)), some (.int (zI z)), some (.int (zI wo)), some (.int (zI (σ 18 z / 8))), some (.int (zI m)), some (.int (zI cc)), none, none, none] [] (wM ad (z_t K) μ) := by
          intro N_200
          induction N_200 with
          | zero => intro c m cc hc2 hc3 hmm hm_200; exact absurd hm_200 (Nat.not_lt_zero _)
          | succ N_200 ih_200 =>
            intro c m cc hc2 hc3 hmm hm_200
            obtain ⟨rfl, hc2⟩ := hc2
            have hv1 := hvb ((σ 18 z / 8) - 1).toNat c
            have hv2 := hvb ((σ 18 z / 8) - 1).toNat (zMx (zYv σ z wo (σ 18 z / 8) (σ 18 z / 8 - 1).toNat) c)
            have hmb : -1 ≤ m ∧ m ≤ 100000 := by
              split at hmm <;> omega
            have hS0 := fun (cc : Int) (a : 1 ≤ (σ 18 z / 8) ∧ 0 ≤ cc) (b : cc < zN σ) => hS0f a.1 cc a.2 b
            refine z_iload C (z_d dtX8_walks_2 30 rfl) rfl ?_
            refine z_aload_n C (z_d dtX8_walks_2 31 rfl) rfl ?_
            refine gf_X8_83 C (z_d dtX8_walks_2 32 rfl) ?_
            try simp (decide := true) only [zS_s, zS_o, zC, e60]
            refine z_icmp_ge (tgt := 245) C (z_d dtX8_walks_2 33 rfl) (by decide) (by omega) (fun h_206 => ?_) (fun h_206 => ?_)
            · refine z_iload C (z_d dtX8_walks_3 11 rfl) rfl ?_
              refine z_iconst C (z_d dtX8_walks_3 12 rfl) ?_
              refine z_icmp_ne (tgt := 253) C (z_d dtX8_walks_3 13 rfl) (by decide) (by omega) (fun h_248 => ?_) (fun h_248 => ?_)
              · have hR1 : 1 ≤ (σ 18 z / 8) := by
                  by_cases p : c = 0
                  · rw [if_pos p] at hmm; omega
                  · exact hc3 p
                have hmf : m = zYf σ z wo (σ 18 z / 8) := by
                  rw [if_neg (by omega), show c = (zN σ).toNat by omega] at hmm
                  exact hmm
                have hS0 := hS0f hR1
                have hmx := zMx_f (F := zYv σ z wo (σ 18 z / 8) ((σ 18 z / 8) - 1).toNat) (n := (zN σ).toNat) (by omega)
                have ew0 : zYw σ z wo (σ 18 z / 8) 0 = zMx (zYv σ z wo (σ 18 z / 8) ((σ 18 z / 8) - 1).toNat) (zN σ).toNat := rfl
                have hfb : zYf σ z wo (σ 18 z / 8) = zYv σ z wo (σ 18 z / 8) ((σ 18 z / 8) - 1).toNat (zYw σ z wo (σ 18 z / 8) 0) := rfl
                have hnf : ¬ zYf σ z wo (σ 18 z / 8) = -1 := by omega
                refine z_iconst C (z_d dtX8_walks_3 16 rfl) ?_
                refine z_istore5 C (z_d dtX8_walks_3 17 rfl) rfl ?_
                have lp_256 : ∀ (N_256 : Nat) (a : Int), (0 ≤ a ∧ a ≤ zYw σ z wo (σ 18 z / 8) 0) → (zYw σ z wo (σ 18 z / 8) 0 - a).toNat < N_256 → Gd K 0 0 256 [some (.ref (ad 0)), some (.int (zI z)), some (.int (zI wo)), some (.int (zI (σ 18 z / 8))), some (.int (zI m)), some (.int (zI a)), none, none, none] [] (wM ad (z_t K) μ) := by
                  intro N_256
                  induction N_256 with
                  | zero => intro a ha hm_256; exact absurd hm_256 (Nat.not_lt_zero _)
                  | succ N_256 ih_256 =>
                    intro a ha hm_256
                    have hv1 := hvb ((σ 18 z / 8) - 1).toNat a
                    refine z_aload_n C (z_d dtX8_walks_3 18 rfl) rfl ?_
                    refine gf_X8_55 C (z_d dtX8_walks_3 19 rfl) ?_
                    refine z_iload C (z_d dtX8_walks_3 20 rfl) rfl ?_
                    refine al_M14 C (z_d dtX8_walks_3 21 rfl) (by omega) ?_
                    try simp (decide := true) only [zS_s, zS_o, zC, e60]
                    refine z_top (hS0 a (by omega) (by omega)) ?_
                    refine z_iload C (z_d dtX8_walks_3 22 rfl) rfl ?_
                    refine z_icmp_eq (tgt := 274) C (z_d dtX8_walks_3 23 rfl) (by decide) (by omega) (fun h_265 => ?_) (fun h_265 => ?_)
                    · have hav : zYv σ z wo (σ 18 z / 8) ((σ 18 z / 8) - 1).toNat a = m := by omega
                      obtain rfl : a = zYw σ z wo (σ 18 z / 8) 0 := by
                        by_cases p : a = zYw σ z wo (σ 18 z / 8) 0
                        · exact p
                        · have := hmx.2.2 a (by omega) (by omega)
                          exfalso
                          rw [← ew0] at this
                          omega
                      refine z_aload_n C (z_d dtX8_walks_3 26 rfl) rfl ?_
                      refine gf_X8_52 C (z_d dtX8_walks_3 27 rfl) ?_
                      refine z_iconst C (z_d dtX8_walks_3 28 rfl) ?_
                      refine z_iload C (z_d dtX8_walks_3 29 rfl) rfl ?_
                      refine as_M13 C (z_d dtX8_walks_3 30 rfl) (by omega) ?_
                      refine z_iconst C (z_d dtX8_walks_3 31 rfl) ?_
                      refine z_istore6 C (z_d dtX8_walks_3 32 rfl) rfl ?_
                      have lp_285 : ∀ (N_285 : Nat) (i : Nat) (rr at_ : Int) (κ : zMem), (rr = (i : Int) + 1 ∧ (i : Int) + 1 ≤ (σ 18 z / 8)) → (at_ = zYw σ z wo (σ 18 z / 8) i) → (zE κ σ [65, 66]) → (κ 66 = μ 66) → (∀ k : Nat, k ≤ i → κ 65 k = zYw σ z wo (σ 18 z / 8) k) → ((σ 18 z / 8) - i).toNat < N_285 → Gd K 0 0 285 [some (.ref (ad 0)), some (.int (zI z)), some (.int (zI wo)), some (.int (zI (σ 18 z / 8))), some (.int (zI m)), some (.int (zI at_)), some (.int (zI rr)), none, none] [] (wM ad (z_t K) κ) := by
                        intro N_285
                        induction N_285 with
                        | zero => intro i rr at_ κ hi hat hE3 e66 hwk hm_285; exact absurd hm_285 (Nat.not_lt_zero _)
                        | succ N_285 ih_285 =>
                          intro i rr at_ κ hi hat hE3 e66 hwk hm_285
                          obtain ⟨rfl, hi⟩ := hi
                          subst hat
                          have okc := okM_E hE3 (by decide) ok
                          obtain ⟨⟨hwc, h60c, hsc, h4c, h5c, h6c, h7c⟩, hmpc, _, _, _, _, ⟨_, _, h18c, hitc⟩⟩ := okc
                          have eNc : zN κ = zN σ := zN_E hE3 (by decide) (by decide) (by decide)
                          have e60 : κ 60 = σ 60 := hE3 60 (by decide)
                          have eYc : ∀ a b, zLy κ a b = zLy σ a b := fun a b => zLy_E hE3 (by decide) (by decide) (by decide) (by decide) (by decide) (by decide) a b
                          have eWc : ∀ r c, zRw κ z r c 0 wo 8 = zRw σ z r c 0 wo 8 := fun r c => zRw_E hE3 (by decide) (by decide) (by decide) z r c 0 wo 8
                          have hyw := zYw_ok (by omega) hR1 hnf i (by omega)
                          have hwl := fun p : (i : Int) + 1 < (σ 18 z / 8) => zYw_l (by omega) hR1 hnf i p
                          have hvi := hvb ((σ 18 z / 8) - 1 - i).toNat (zYw σ z wo (σ 18 z / 8) i)
                          have hwi := zRw_b hmp z i (zYw σ z wo (σ 18 z / 8) i) 0 wo 8
                          have hsr : κ 66 (72 * ((i : Int) + 1 - 1) + zYw σ z wo (σ 18 z / 8) i) = (zYv σ z wo (σ 18 z / 8) ((σ 18 z / 8) - 1 - (i : Int)).toNat) (zYw σ z wo (σ 18 z / 8) i) := by
                            rw [e66, show (i : Int) + 1 - 1 = i by omega]
                            exact hrows i _ (by omega) (by omega) hyw.1.1 hyw.1.2
                          refine z_iload C (z_d dtX8_walks_3 33 rfl) rfl ?_
                          refine z_iload_n C (z_d dtX8_walks_3 34 rfl) rfl ?_
                          refine z_icmp_ge (tgt := 405) C (z_d dtX8_walks_3 35 rfl) (by decide) (by omega) (fun h_288 => ?_) (fun h_288 => ?_)
                          · refine z_iload C (z_d dtX8_walks_5 20 rfl) rfl ?_
                            exact ret _ _ _ _ (z_d dtX8_walks_5 21 rfl) (⟨_, rfl, Or.inr ⟨hR1, by omega, hmf, hE3, fun k hk => hwk k (by omega)⟩⟩) rfl
                          · refine z_aload_n C (z_d dtX8_walks_3 36 rfl) rfl ?_
                            refine gf_X8_55 C (z_d dtX8_walks_3 37 rfl) ?_
                            refine z_bipush C (z_d dtX8_walks_3 38 rfl) zb_72 ?_
                            refine z_iload C (z_d dtX8_walks_3 39 rfl) rfl ?_
                            refine z_iconst C (z_d dtX8_walks_4 0 rfl) ?_
                            refine z_isub C (z_d dtX8_walks_4 1 rfl) ?_
                            refine z_imul C (z_d dtX8_walks_4 2 rfl) ?_
                            refine z_iload C (z_d dtX8_walks_4 3 rfl) rfl ?_
                            refine z_iadd C (z_d dtX8_walks_4 4 rfl) ?_
                            refine al_M14 C (z_d dtX8_walks_4 5 rfl) (by omega) ?_
                            try simp (decide := true) only [zS_s, zS_o, zC, e60]
                            refine z_top hsr ?_
                            refine z_aload_n C (z_d dtX8_walks_4 6 rfl) rfl ?_
                            refine z_iload_n C (z_d dtX8_walks_4 7 rfl) rfl ?_
                            refine z_iload C (z_d dtX8_walks_4 8 rfl) rfl ?_
                            refine z_iconst C (z_d dtX8_walks_4 9 rfl) ?_
                            refine z_isub C (z_d dtX8_walks_4 10 rfl) ?_
                            refine z_iload C (z_d dtX8_walks_4 11 rfl) rfl ?_
                            refine z_iconst C (z_d dtX8_walks_4 12 rfl) ?_
                            refine z_iload_n C (z_d dtX8_walks_4 13 rfl) rfl ?_
                            refine z_callV C (z_d dtX8_walks_4 14 rfl) (k_X8_weights  hz hitc (by omega) (by omega) hmpc h7c (by omega) hwo) cal_X8_weights gw_19_16 rfl 0 8 rfl rfl rfl rfl hR ⟨rfl, rfl, rfl, rfl⟩ rfl (fun r_316 w_316 h_316 => ?_)
                            obtain ⟨rfl, rfl⟩ := h_316
                            rw [eWc, show (i : Int) + 1 - 1 = i by omega]
                            refine z_isub C (z_d dtX8_walks_4 15 rfl) ?_
                            refine z_top (hwl (by omega)).1 ?_
                            refine z_istore7 C (z_d dtX8_walks_4 16 rfl) rfl ?_
                            refine z_iconst C (z_d dtX8_walks_4 17 rfl) ?_
                            refine z_istore8 C (z_d dtX8_walks_4 18 rfl) rfl ?_
                            have lp_325 : ∀ (N_325 : Nat) (d : Int), (0 ≤ d ∧ d ≤ zYw σ z wo (σ 18 z / 8) (i + 1)) → (zYw σ z wo (σ 18 z / 8) (i + 1) - d).toNat < N_325 → Gd K 0 0 325 [some (.ref (ad 0)), some (.int (zI z)), some (.int (zI wo)), some (.int (zI (σ 18 z / 8))), some (.int (zI m)), some (.int (zI (zYw σ z wo (σ 18 z / 8) i))), some (.int (zI ((i : Int) + 1))), some (.int (zI (zYb σ (zYv σ z wo (σ 18 z / 8) ((σ 18 z / 8) - 1 - ((i : Int) + 1)).toNat) (zYw σ z wo (σ 18 z / 8) i) (zN σ).toNat).2)), some (.int (zI d))] [] (wM ad (z_t K) κ) := by
                              intro N_325
                              induction N_325 with
                              | zero => intro d hd2 hm_325; exact absurd hm_325 (Nat.not_lt_zero _)
                              | succ N_325 ih_325 =>
                                intro d hd2 hm_325
                                have hwb := zYw_ok (by omega) hR1 hnf (i + 1) (by omega)
                                have g2 := (zYb_f (σ := σ) (V := (zYv σ z wo (σ 18 z / 8) ((σ 18 z / 8) - 1 - ((i : Int) + 1)).toNat)) (zYw σ z wo (σ 18 z / 8) i) (zN σ).toNat).2.resolve_left (hwl (by omega)).2
                                have ej : zYw σ z wo (σ 18 z / 8) (i + 1) = (zYb σ (zYv σ z wo (σ 18 z / 8) ((σ 18 z / 8) - 1 - ((i : Int) + 1)).toNat) (zYw σ z wo (σ 18 z / 8) i) (zN σ).toNat).1 := rfl
                                rw [← ej] at g2
                                have hyd := zLy_b hs (zYw σ z wo (σ 18 z / 8) i) d
                                have hvd := hvb ((σ 18 z / 8) - 1 - ((i : Int) + 1)).toNat d
                                have hsd : κ 66 (72 * ((i : Int) + 1) + d) = (zYv σ z wo (σ 18 z / 8) ((σ 18 z / 8) - 1 - ((i : Int) + 1)).toNat) d := by
                                  rw [e66]
                                  exact hrows ((i : Int) + 1) d (by omega) (by omega) (by omega) (by omega)
                                have hbb := (zYb_b (V := (zYv σ z wo (σ 18 z / 8) ((σ 18 z / 8) - 1 - ((i : Int) + 1)).toNat)) hs (b := 3000 * (((((σ 18 z / 8) - 1 - ((i : Int) + 1)).toNat : Nat) : Int) + 1)) (by omega) (zYw σ z wo (σ 18 z / 8) i) (zN σ).toNat (fun d _ _ => hvb _ d)).2
                                refine z_aload_n C (z_d dtX8_walks_4 19 rfl) rfl ?_
                                refine z_iload C (z_d dtX8_walks_4 20 rfl) rfl ?_
                                refine z_iload C (z_d dtX8_walks_4 21 rfl) rfl ?_
                                refine z_callV C (z_d dtX8_walks_4 22 rfl) (k_X8_likely  hwc (by rw [eNc]; omega) (by rw [eNc]; omega) h4c h5c h6c hsc) cal_X8_likely gw_13_20 rfl 0 8 rfl rfl rfl rfl hR ⟨rfl, rfl, rfl, rfl⟩ rfl (fun r_330 w_330 h_330 => ?_)
                                obtain ⟨rfl, rfl⟩ := h_330
                                rw [eYc]
                                refine z_if_eq (tgt := 380) C (z_d dtX8_walks_4 23 rfl) (by decide) (by omega) (fun h_333 => ?_) (fun h_333 => ?_)
                                · refine z_iinc8 C (z_d dtX8_walks_5 9 rfl) rfl ?_
                                  refine z_goto (tgt := 325) C (z_d dtX8_walks_5 10 rfl) (by decide) ?_
                                  have hne : ¬ d = zYw σ z wo (σ 18 z / 8) (i + 1) := fun q => by
                                    have s := g2.2.2.1
                                    rw [← q] at s
                                    unfold zYs at s
                                    first
                                      | (rw [if_neg (by omega)] at s; omega)
                                      | (rw [if_pos (by omega)] at s; omega)
                                  exact ih_325 _ (by omega) (by omega)
                                · refine z_aload_n C (z_d dtX8_walks_4 24 rfl) rfl ?_
                                  refine gf_X8_55 C (z_d dtX8_walks_4 25 rfl) ?_
                                  refine z_bipush C (z_d dtX8_walks_4 26 rfl) zb_72 ?_
                                  refine z_iload C (z_d dtX8_walks_4 27 rfl) rfl ?_
                                  refine z_imul C (z_d dtX8_walks_4 28 rfl) ?_
                                  refine z_iload C (z_d dtX8_walks_4 29 rfl) rfl ?_
                                  refine z_iadd C (z_d dtX8_walks_4 30 rfl) ?_
                                  refine al_M14 C (z_d dtX8_walks_4 31 rfl) (by omega) ?_
                                  try simp (decide := true) only [zS_s, zS_o, zC, e60]
                                  refine z_top hsd ?_
                                  refine z_iconst C (z_d dtX8_walks_4 32 rfl) ?_
                                  refine z_icmp_eq (tgt := 380) C (z_d dtX8_walks_4 33 rfl) (by decide) (by omega) (fun h_350 => ?_) (fun h_350 => ?_)
                                  · refine z_iinc8 C (z_d dtX8_walks_5 9 rfl) rfl ?_
                                    refine z_goto (tgt := 325) C (z_d dtX8_walks_5 10 rfl) (by decide) ?_
                                    have hne : ¬ d = zYw σ z wo (σ 18 z / 8) (i + 1) := fun q => by
                                      have s := g2.2.2.1
                                      rw [← q] at s
                                      unfold zYs at s
                                      first
                                        | (rw [if_neg (by omega)] at s; omega)
                                        | (rw [if_pos (by omega)] at s; omega)
                                    exact ih_325 _ (by omega) (by omega)
                                  · refine z_aload_n C (z_d dtX8_walks_4 34 rfl) rfl ?_
                                    refine z_iload C (z_d dtX8_walks_4 35 rfl) rfl ?_
                                    refine z_iload C (z_d dtX8_walks_4 36 rfl) rfl ?_
                                    refine z_callV C (z_d dtX8_walks_4 37 rfl) (k_X8_likely  hwc (by rw [eNc]; omega) (by rw [eNc]; omega) h4c h5c h6c hsc) cal_X8_likely gw_13_20 rfl 0 8 rfl rfl rfl rfl hR ⟨rfl, rfl, rfl, rfl⟩ rfl (fun r_358 w_358 h_358 => ?_)
                                    obtain ⟨rfl, rfl⟩ := h_358
                                    rw [eYc]
                                    refine z_aload_n C (z_d dtX8_walks_4 38 rfl) rfl ?_
                                    refine gf_X8_55 C (z_d dtX8_walks_4 39 rfl) ?_
                                    refine z_bipush C (z_d dtX8_walks_5 0 rfl) zb_72 ?_
                                    refine z_iload C (z_d dtX8_walks_5 1 rfl) rfl ?_
                                    refine z_imul C (z_d dtX8_walks_5 2 rfl) ?_
                                    refine z_iload C (z_d dtX8_walks_5 3 rfl) rfl ?_
                                    refine z_iadd C (z_d dtX8_walks_5 4 rfl) ?_
                                    refine al_M14 C (z_d dtX8_walks_5 5 rfl) (by omega) ?_
                                    try simp (decide := true) only [zS_s, zS_o, zC, e60]
                                    refine z_top hsd ?_
                                    refine z_iadd C (z_d dtX8_walks_5 6 rfl) ?_
                                    refine z_iload C (z_d dtX8_walks_5 7 rfl) rfl ?_
                                    refine z_icmp_eq (tgt := 386) C (z_d dtX8_walks_5 8 rfl) (by decide) (by omega) (fun h_377 => ?_) (fun h_377 => ?_)
                                    · obtain rfl : d = zYw σ z wo (σ 18 z / 8) (i + 1) := by
                                        by_cases p : d = zYw σ z wo (σ 18 z / 8) (i + 1)
                                        · exact p
                                        · exfalso
                                          have s := g2.2.2.2 d (by omega) (by omega)
                                          unfold zYs at s
                                          rw [if_pos (by omega)] at s
                                          omega
                                      refine z_iload C (z_d dtX8_walks_5 11 rfl) rfl ?_
                                      refine z_istore5 C (z_d dtX8_walks_5 12 rfl) rfl ?_
                                      refine z_aload_n C (z_d dtX8_walks_5 13 rfl) rfl ?_
                                      refine gf_X8_52 C (z_d dtX8_walks_5 14 rfl) ?_
                                      refine z_iload C (z_d dtX8_walks_5 15 rfl) rfl ?_
                                      refine z_iload C (z_d dtX8_walks_5 16 rfl) rfl ?_
                                      refine as_M13 C (z_d dtX8_walks_5 17 rfl) (by omega) ?_
                                      refine z_iinc6 C (z_d dtX8_walks_5 18 rfl) rfl ?_
                                      refine z_goto (tgt := 285) C (z_d dtX8_walks_5 19 rfl) (by decide) ?_
                                      refine z_drop7 ?_
                                      refine z_drop8 ?_
                                      exact ih_285 (i + 1) _ _ _ (by omega) rfl (zE_set hE3 (by decide)) ((zS_n (by decide)).trans e66) (fun k hk => by
                                              rw [zS_s]
                                              by_cases e : k = i + 1
                                              · subst e; exact zU_s _ _ _
                                              · rw [zU_n (by omega)]; exact hwk k (by omega)) (by omega)
                                    · refine z_iinc8 C (z_d dtX8_walks_5 9 rfl) rfl ?_
                                      refine z_goto (tgt := 325) C (z_d dtX8_walks_5 10 rfl) (by decide) ?_
                                      have hne : ¬ d = zYw σ z wo (σ 18 z / 8) (i + 1) := fun q => by
                                        have s := g2.2.2.1
                                        rw [← q] at s
                                        unfold zYs at s
                                        first
                                          | (rw [if_neg (by omega)] at s; omega)
                                          | (rw [if_pos (by omega)] at s; omega)
                                      exact ih_325 _ (by omega) (by omega)
                            exact lp_325 _ _ (by have := (zYw_ok (by omega) hR1 hnf (i + 1) (by omega)).1; omega) (Nat.lt_succ_self _)
                      exact lp_285 _ 0 _ _ _ (by omega) rfl (zE_set (zE_mo hE (by decide)) (by decide)) (zS_n (by decide)) (fun k hk => by
                            obtain rfl : k = 0 := by omega
                            rw [zS_s]
                            exact zU_s _ _ _) (Nat.lt_succ_self _)
                    · refine z_iinc5 C (z_d dtX8_walks_3 24 rfl) rfl ?_
                      refine z_goto (tgt := 256) C (z_d dtX8_walks_3 25 rfl) (by decide) ?_
                      have hne : ¬ a = zYw σ z wo (σ 18 z / 8) 0 := fun q => by rw [q] at h_265; omega
                      exact ih_256 _ (by omega) (by omega)
                exact lp_256 _ _ (by omega) (Nat.lt_succ_self _)
              · have hno : (σ 18 z / 8) = 0 ∨ zYf σ z wo (σ 18 z / 8) = -1 := by
                  by_cases p : (σ 18 z / 8) = 0
                  · exact Or.inl p
                  · right
                    show zYv σ z wo (σ 18 z / 8) ((σ 18 z / 8) - 1).toNat (zMx (zYv σ z wo (σ 18 z / 8) ((σ 18 z / 8) - 1).toNat) (zN σ).toNat) = -1
                    rw [if_neg (by omega), show c = (zN σ).toNat by omega] at hmm
                    omega
                refine z_iconst C (z_d dtX8_walks_3 14 rfl) ?_
                exact ret _ _ _ _ (z_d dtX8_walks_3 15 rfl) (⟨_, rfl, Or.inl ⟨hno, rfl, hE⟩⟩) rfl
            · refine z_iload_n C (z_d dtX8_walks_2 34 rfl) rfl ?_
              refine z_if_le (tgt := 245) C (z_d dtX8_walks_2 35 rfl) (by decide) (by omega) (fun h_210 => ?_) (fun h_210 => ?_)
              · refine z_iload C (z_d dtX8_walks_3 11 rfl) rfl ?_
                refine z_iconst C (z_d dtX8_walks_3 12 rfl) ?_
                refine z_icmp_ne (tgt := 253) C (z_d dtX8_walks_3 13 rfl) (by decide) (by omega) (fun h_248 => ?_) (fun h_248 => ?_)
                · have hR1 : 1 ≤ (σ 18 z / 8) := by
                    by_cases p : c = 0
                    · rw [if_pos p] at hmm; omega
                    · exact hc3 p
                  have hmf : m = zYf σ z wo (σ 18 z / 8) := by
                    rw [if_neg (by omega), show c = (zN σ).toNat by omega] at hmm
                    exact hmm
                  have hS0 := hS0f hR1
                  have hmx := zMx_f (F := zYv σ z wo (σ 18 z / 8) ((σ 18 z / 8) - 1).toNat) (n := (zN σ).toNat) (by omega)
                  have ew0 : zYw σ z wo (σ 18 z / 8) 0 = zMx (zYv σ z wo (σ 18 z / 8) ((σ 18 z / 8) - 1).toNat) (zN σ).toNat := rfl
                  have hfb : zYf σ z wo (σ 18 z / 8) = zYv σ z wo (σ 18 z / 8) ((σ 18 z / 8) - 1).toNat (zYw σ z wo (σ 18 z / 8) 0) := rfl
                  have hnf : ¬ zYf σ z wo (σ 18 z / 8) = -1 := by omega
                  refine z_iconst C (z_d dtX8_walks_3 16 rfl) ?_
                  refine z_istore5 C (z_d dtX8_walks_3 17 rfl) rfl ?_
                  have lp_256 : ∀ (N_256 : Nat) (a : Int), (0 ≤ a ∧ a ≤ zYw σ z wo (σ 18 z / 8) 0) → (zYw σ z wo (σ 18 z / 8) 0 - a).toNat < N_256 → Gd K 0 0 256 [some (.ref (ad 0)), some (.int (zI z)), some (.int (zI wo)), some (.int (zI (σ 18 z / 8))), some (.int (zI m)), some (.int (zI a)), none, none, none] [] (wM ad (z_t K) μ) := by
                    intro N_256
                    induction N_256 with
                    | zero => intro a ha hm_256; exact absurd hm_256 (Nat.not_lt_zero _)
                    | succ N_256 ih_256 =>
                      intro a ha hm_256
                      have hv1 := hvb ((σ 18 z / 8) - 1).toNat a
                      refine z_aload_n C (z_d dtX8_walks_3 18 rfl) rfl ?_
                      refine gf_X8_55 C (z_d dtX8_walks_3 19 rfl) ?_
                      refine z_iload C (z_d dtX8_walks_3 20 rfl) rfl ?_
                      refine al_M14 C (z_d dtX8_walks_3 21 rfl) (by omega) ?_
                      try simp (decide := true) only [zS_s, zS_o, zC, e60]
                      refine z_top (hS0 a (by omega) (by omega)) ?_
                      refine z_iload C (z_d dtX8_walks_3 22 rfl) rfl ?_
                      refine z_icmp_eq (tgt := 274) C (z_d dtX8_walks_3 23 rfl) (by decide) (by omega) (fun h_265 => ?_) (fun h_265 => ?_)
                      · have hav : zYv σ z wo (σ 18 z / 8) ((σ 18 z / 8) - 1).toNat a = m := by omega
                        obtain rfl : a = zYw σ z wo (σ 18 z / 8) 0 := by
                          by_cases p : a = zYw σ z wo (σ 18 z / 8) 0
                          · exact p
                          · have := hmx.2.2 a (by omega) (by omega)
                            exfalso
                            rw [← ew0] at this
                            omega
                        refine z_aload_n C (z_d dtX8_walks_3 26 rfl) rfl ?_
                        refine gf_X8_52 C (z_d dtX8_walks_3 27 rfl) ?_
                        refine z_iconst C (z_d dtX8_walks_3 28 rfl) ?_
                        refine z_iload C (z_d dtX8_walks_3 29 rfl) rfl ?_
                        refine as_M13 C (z_d dtX8_walks_3 30 rfl) (by omega) ?_
                        refine z_iconst C (z_d dtX8_walks_3 31 rfl) ?_
                        refine z_istore6 C (z_d dtX8_walks_3 32 rfl) rfl ?_
                        have lp_285 : ∀ (N_285 : Nat) (i : Nat) (rr at_ : Int) (κ : zMem), (rr = (i : Int) + 1 ∧ (i : Int) + 1 ≤ (σ 18 z / 8)) → (at_ = zYw σ z wo (σ 18 z / 8) i) → (zE κ σ [65, 66]) → (κ 66 = μ 66) → (∀ k : Nat, k ≤ i → κ 65 k = zYw σ z wo (σ 18 z / 8) k) → ((σ 18 z / 8) - i).toNat < N_285 → Gd K 0 0 285 [some (.ref (ad 0)), some (.int (zI z)), some (.int (zI wo)), some (.int (zI (σ 18 z / 8))), some (.int (zI m)), some (.int (zI at_)), some (.int (zI rr)), none, none] [] (wM ad (z_t K) κ) := by
                          intro N_285
                          induction N_285 with
                          | zero => intro i rr at_ κ hi hat hE3 e66 hwk hm_285; exact absurd hm_285 (Nat.not_lt_zero _)
                          | succ N_285 ih_285 =>
                            intro i rr at_ κ hi hat hE3 e66 hwk hm_285
                            obtain ⟨rfl, hi⟩ := hi
                            subst hat
                            have okc := okM_E hE3 (by decide) ok
                            obtain ⟨⟨hwc, h60c, hsc, h4c, h5c, h6c, h7c⟩, hmpc, _, _, _, _, ⟨_, _, h18c, hitc⟩⟩ := okc
                            have eNc : zN κ = zN σ := zN_E hE3 (by decide) (by decide) (by decide)
                            have e60 : κ 60 = σ 60 := hE3 60 (by decide)
                            have eYc : ∀ a b, zLy κ a b = zLy σ a b := fun a b => zLy_E hE3 (by decide) (by decide) (by decide) (by decide) (by decide) (by decide) a b
                            have eWc : ∀ r c, zRw κ z r c 0 wo 8 = zRw σ z r c 0 wo 8 := fun r c => zRw_E hE3 (by decide) (by decide) (by decide) z r c 0 wo 8
                            have hyw := zYw_ok (by omega) hR1 hnf i (by omega)
                            have hwl := fun p : (i : Int) + 1 < (σ 18 z / 8) => zYw_l (by omega) hR1 hnf i p
                            have hvi := hvb ((σ 18 z / 8) - 1 - i).toNat (zYw σ z wo (σ 18 z / 8) i)
                            have hwi := zRw_b hmp z i (zYw σ z wo (σ 18 z / 8) i) 0 wo 8
                            have hsr : κ 66 (72 * ((i : Int) + 1 - 1) + zYw σ z wo (σ 18 z / 8) i) = (zYv σ z wo (σ 18 z / 8) ((σ 18 z / 8) - 1 - (i : Int)).toNat) (zYw σ z wo (σ 18 z / 8) i) := by
                              rw [e66, show (i : Int) + 1 - 1 = i by omega]
                              exact hrows i _ (by omega) (by omega) hyw.1.1 hyw.1.2
                            refine z_iload C (z_d dtX8_walks_3 33 rfl) rfl ?_
                            refine z_iload_n C (z_d dtX8_walks_3 34 rfl) rfl ?_
                            refine z_icmp_ge (tgt := 405) C (z_d dtX8_walks_3 35 rfl) (by decide) (by omega) (fun h_288 => ?_) (fun h_288 => ?_)
                            · refine z_iload C (z_d dtX8_walks_5 20 rfl) rfl ?_
                              exact ret _ _ _ _ (z_d dtX8_walks_5 21 rfl) (⟨_, rfl, Or.inr ⟨hR1, by omega, hmf, hE3, fun k hk => hwk k (by omega)⟩⟩) rfl
                            · refine z_aload_n C (z_d dtX8_walks_3 36 rfl) rfl ?_
                              refine gf_X8_55 C (z_d dtX8_walks_3 37 rfl) ?_
                              refine z_bipush C (z_d dtX8_walks_3 38 rfl) zb_72 ?_
                              refine z_iload C (z_d dtX8_walks_3 39 rfl) rfl ?_
                              refine z_iconst C (z_d dtX8_walks_4 0 rfl) ?_
                              refine z_isub C (z_d dtX8_walks_4 1 rfl) ?_
                              refine z_imul C (z_d dtX8_walks_4 2 rfl) ?_
                              refine z_iload C (z_d dtX8_walks_4 3 rfl) rfl ?_
                              refine z_iadd C (z_d dtX8_walks_4 4 rfl) ?_
                              refine al_M14 C (z_d dtX8_walks_4 5 rfl) (by omega) ?_
                              try simp (decide := true) only [zS_s, zS_o, zC, e60]
                              refine z_top hsr ?_
                              refine z_aload_n C (z_d dtX8_walks_4 6 rfl) rfl ?_
                              refine z_iload_n C (z_d dtX8_walks_4 7 rfl) rfl ?_
                              refine z_iload C (z_d dtX8_walks_4 8 rfl) rfl ?_
                              refine z_iconst C (z_d dtX8_walks_4 9 rfl) ?_
                              refine z_isub C (z_d dtX8_walks_4 10 rfl) ?_
                              refine z_iload C (z_d dtX8_walks_4 11 rfl) rfl ?_
                              refine z_iconst C (z_d dtX8_walks_4 12 rfl) ?_
                              refine z_iload_n C (z_d dtX8_walks_4 13 rfl) rfl ?_
                              refine z_callV C (z_d dtX8_walks_4 14 rfl) (k_X8_weights  hz hitc (by omega) (by omega) hmpc h7c (by omega) hwo) cal_X8_weights gw_19_16 rfl 0 8 rfl rfl rfl rfl hR ⟨rfl, rfl, rfl, rfl⟩ rfl (fun r_316 w_316 h_316 => ?_)
                              obtain ⟨rfl, rfl⟩ := h_316
                              rw [eWc, show (i : Int) + 1 - 1 = i by omega]
                              refine z_isub C (z_d dtX8_walks_4 15 rfl) ?_
                              refine z_top (hwl (by omega)).1 ?_
                              refine z_istore7 C (z_d dtX8_walks_4 16 rfl) rfl ?_
                              refine z_iconst C (z_d dtX8_walks_4 17 rfl) ?_
                              refine z_istore8 C (z_d dtX8_walks_4 18 rfl) rfl ?_
                              have lp_325 : ∀ (N_325 : Nat) (d : Int), (0 ≤ d ∧ d ≤ zYw σ z wo (σ 18 z / 8) (i + 1)) → (zYw σ z wo (σ 18 z / 8) (i + 1) - d).toNat < N_325 → Gd K 0 0 325 [some (.ref (ad 0)), some (.int (zI z)), some (.int (zI wo)), some (.int (zI (σ 18 z / 8))), some (.int (zI m)), some (.int (zI (zYw σ z wo (σ 18 z / 8) i))), some (.int (zI ((i : Int) + 1))), some (.int (zI (zYb σ (zYv σ z wo (σ 18 z / 8) ((σ 18 z / 8) - 1 - ((i : Int) + 1)).toNat) (zYw σ z wo (σ 18 z / 8) i) (zN σ).toNat).2)), some (.int (zI d))] [] (wM ad (z_t K) κ) := by
                                intro N_325
                                induction N_325 with
                                | zero => intro d hd2 hm_325; exact absurd hm_325 (Nat.not_lt_zero _)
                                | succ N_325 ih_325 =>
                                  intro d hd2 hm_325
                                  have hwb := zYw_ok (by omega) hR1 hnf (i + 1) (by omega)
                                  have g2 := (zYb_f (σ := σ) (V := (zYv σ z wo (σ 18 z / 8) ((σ 18 z / 8) - 1 - ((i : Int) + 1)).toNat)) (zYw σ z wo (σ 18 z / 8) i) (zN σ).toNat).2.resolve_left (hwl (by omega)).2
                                  have ej : zYw σ z wo (σ 18 z / 8) (i + 1) = (zYb σ (zYv σ z wo (σ 18 z / 8) ((σ 18 z / 8) - 1 - ((i : Int) + 1)).toNat) (zYw σ z wo (σ 18 z / 8) i) (zN σ).toNat).1 := rfl
                                  rw [← ej] at g2
                                  have hyd := zLy_b hs (zYw σ z wo (σ 18 z / 8) i) d
                                  have hvd := hvb ((σ 18 z / 8) - 1 - ((i : Int) + 1)).toNat d
                                  have hsd : κ 66 (72 * ((i : Int) + 1) + d) = (zYv σ z wo (σ 18 z / 8) ((σ 18 z / 8) - 1 - ((i : Int) + 1)).toNat) d := by
                                    rw [e66]
                                    exact hrows ((i : Int) + 1) d (by omega) (by omega) (by omega) (by omega)
                                  have hbb := (zYb_b (V := (zYv σ z wo (σ 18 z / 8) ((σ 18 z / 8) - 1 - ((i : Int) + 1)).toNat)) hs (b := 3000 * (((((σ 18 z / 8) - 1 - ((i : Int) + 1)).toNat : Nat) : Int) + 1)) (by omega) (zYw σ z wo (σ 18 z / 8) i) (zN σ).toNat (fun d _ _ => hvb _ d)).2
                                  refine z_aload_n C (z_d dtX8_walks_4 19 rfl) rfl ?_
                                  refine z_iload C (z_d dtX8_walks_4 20 rfl) rfl ?_
                                  refine z_iload C (z_d dtX8_walks_4 21 rfl) rfl ?_
                                  refine z_callV C (z_d dtX8_walks_4 22 rfl) (k_X8_likely  hwc (by rw [eNc]; omega) (by rw [eNc]; omega) h4c h5c h6c hsc) cal_X8_likely gw_13_20 rfl 0 8 rfl rfl rfl rfl hR ⟨rfl, rfl, rfl, rfl⟩ rfl (fun r_330 w_330 h_330 => ?_)
                                  obtain ⟨rfl, rfl⟩ := h_330
                                  rw [eYc]
                                  refine z_if_eq (tgt := 380) C (z_d dtX8_walks_4 23 rfl) (by decide) (by omega) (fun h_333 => ?_) (fun h_333 => ?_)
                                  · refine z_iinc8 C (z_d dtX8_walks_5 9 rfl) rfl ?_
                                    refine z_goto (tgt := 325) C (z_d dtX8_walks_5 10 rfl) (by decide) ?_
                                    have hne : ¬ d = zYw σ z wo (σ 18 z / 8) (i + 1) := fun q => by
                                      have s := g2.2.2.1
                                      rw [← q] at s
                                      unfold zYs at s
                                      first
                                        | (rw [if_neg (by omega)] at s; omega)
                                        | (rw [if_pos (by omega)] at s; omega)
                                    exact ih_325 _ (by omega) (by omega)
                                  · refine z_aload_n C (z_d dtX8_walks_4 24 rfl) rfl ?_
                                    refine gf_X8_55 C (z_d dtX8_walks_4 25 rfl) ?_
                                    refine z_bipush C (z_d dtX8_walks_4 26 rfl) zb_72 ?_
                                    refine z_iload C (z_d dtX8_walks_4 27 rfl) rfl ?_
                                    refine z_imul C (z_d dtX8_walks_4 28 rfl) ?_
                                    refine z_iload C (z_d dtX8_walks_4 29 rfl) rfl ?_
                                    refine z_iadd C (z_d dtX8_walks_4 30 rfl) ?_
                                    refine al_M14 C (z_d dtX8_walks_4 31 rfl) (by omega) ?_
                                    try simp (decide := true) only [zS_s, zS_o, zC, e60]
                                    refine z_top hsd ?_
                                    refine z_iconst C (z_d dtX8_walks_4 32 rfl) ?_
                                    refine z_icmp_eq (tgt := 380) C (z_d dtX8_walks_4 33 rfl) (by decide) (by omega) (fun h_350 => ?_) (fun h_350 => ?_)
                                    · refine z_iinc8 C (z_d dtX8_walks_5 9 rfl) rfl ?_
                                      refine z_goto (tgt := 325) C (z_d dtX8_walks_5 10 rfl) (by decide) ?_
                                      have hne : ¬ d = zYw σ z wo (σ 18 z / 8) (i + 1) := fun q => by
                                        have s := g2.2.2.1
                                        rw [← q] at s
                                        unfold zYs at s
                                        first
                                          | (rw [if_neg (by omega)] at s; omega)
                                          | (rw [if_pos (by omega)] at s; omega)
                                      exact ih_325 _ (by omega) (by omega)
                                    · refine z_aload_n C (z_d dtX8_walks_4 34 rfl) rfl ?_
                                      refine z_iload C (z_d dtX8_walks_4 35 rfl) rfl ?_
                                      refine z_iload C (z_d dtX8_walks_4 36 rfl) rfl ?_
                                      refine z_callV C (z_d dtX8_walks_4 37 rfl) (k_X8_likely  hwc (by rw [eNc]; omega) (by rw [eNc]; omega) h4c h5c h6c hsc) cal_X8_likely gw_13_20 rfl 0 8 rfl rfl rfl rfl hR ⟨rfl, rfl, rfl, rfl⟩ rfl (fun r_358 w_358 h_358 => ?_)
                                      obtain ⟨rfl, rfl⟩ := h_358
                                      rw [eYc]
                                      refine z_aload_n C (z_d dtX8_walks_4 38 rfl) rfl ?_
                                      refine gf_X8_55 C (z_d dtX8_walks_4 39 rfl) ?_
                                      refine z_bipush C (z_d dtX8_walks_5 0 rfl) zb_72 ?_
                                      refine z_iload C (z_d dtX8_walks_5 1 rfl) rfl ?_
                                      refine z_imul C (z_d dtX8_walks_5 2 rfl) ?_
                                      refine z_iload C (z_d dtX8_walks_5 3 rfl) rfl ?_
                                      refine z_iadd C (z_d dtX8_walks_5 4 rfl) ?_
                                      refine al_M14 C (z_d dtX8_walks_5 5 rfl) (by omega) ?_
                                      try simp (decide := true) only [zS_s, zS_o, zC, e60]
                                      refine z_top hsd ?_
                                      refine z_iadd C (z_d dtX8_walks_5 6 rfl) ?_
                                      refine z_iload C (z_d dtX8_walks_5 7 rfl) rfl ?_
                                      refine z_icmp_eq (tgt := 386) C (z_d dtX8_walks_5 8 rfl) (by decide) (by omega) (fun h_377 => ?_) (fun h_377 => ?_)
                                      · obtain rfl : d = zYw σ z wo (σ 18 z / 8) (i + 1) := by
                                          by_cases p : d = zYw σ z wo (σ 18 z / 8) (i + 1)
                                          · exact p
                                          · exfalso
                                            have s := g2.2.2.2 d (by omega) (by omega)
                                            unfold zYs at s
                                            rw [if_pos (by omega)] at s
                                            omega
                                        refine z_iload C (z_d dtX8_walks_5 11 rfl) rfl ?_
                                        refine z_istore5 C (z_d dtX8_walks_5 12 rfl) rfl ?_
                                        refine z_aload_n C (z_d dtX8_walks_5 13 rfl) rfl ?_
                                        refine gf_X8_52 C (z_d dtX8_walks_5 14 rfl) ?_
                                        refine z_iload C (z_d dtX8_walks_5 15 rfl) rfl ?_
                                        refine z_iload C (z_d dtX8_walks_5 16 rfl) rfl ?_
                                        refine as_M13 C (z_d dtX8_walks_5 17 rfl) (by omega) ?_
                                        refine z_iinc6 C (z_d dtX8_walks_5 18 rfl) rfl ?_
                                        refine z_goto (tgt := 285) C (z_d dtX8_walks_5 19 rfl) (by decide) ?_
                                        refine z_drop7 ?_
                                        refine z_drop8 ?_
                                        exact ih_285 (i + 1) _ _ _ (by omega) rfl (zE_set hE3 (by decide)) ((zS_n (by decide)).trans e66) (fun k hk => by
                                                rw [zS_s]
                                                by_cases e : k = i + 1
                                                · subst e; exact zU_s _ _ _
                                                · rw [zU_n (by omega)]; exact hwk k (by omega)) (by omega)
                                      · refine z_iinc8 C (z_d dtX8_walks_5 9 rfl) rfl ?_
                                        refine z_goto (tgt := 325) C (z_d dtX8_walks_5 10 rfl) (by decide) ?_
                                        have hne : ¬ d = zYw σ z wo (σ 18 z / 8) (i + 1) := fun q => by
                                          have s := g2.2.2.1
                                          rw [← q] at s
                                          unfold zYs at s
                                          first
                                            | (rw [if_neg (by omega)] at s; omega)
                                            | (rw [if_pos (by omega)] at s; omega)
                                        exact ih_325 _ (by omega) (by omega)
                              exact lp_325 _ _ (by have := (zYw_ok (by omega) hR1 hnf (i + 1) (by omega)).1; omega) (Nat.lt_succ_self _)
                        exact lp_285 _ 0 _ _ _ (by omega) rfl (zE_set (zE_mo hE (by decide)) (by decide)) (zS_n (by decide)) (fun k hk => by
                              obtain rfl : k = 0 := by omega
                              rw [zS_s]
                              exact zU_s _ _ _) (Nat.lt_succ_self _)
                      · refine z_iinc5 C (z_d dtX8_walks_3 24 rfl) rfl ?_
                        refine z_goto (tgt := 256) C (z_d dtX8_walks_3 25 rfl) (by decide) ?_
                        have hne : ¬ a = zYw σ z wo (σ 18 z / 8) 0 := fun q => by rw [q] at h_265; omega
                        exact ih_256 _ (by omega) (by omega)
                  exact lp_256 _ _ (by omega) (Nat.lt_succ_self _)
                · have hno : (σ 18 z / 8) = 0 ∨ zYf σ z wo (σ 18 z / 8) = -1 := by
                    by_cases p : (σ 18 z / 8) = 0
                    · exact Or.inl p
                    · right
                      show zYv σ z wo (σ 18 z / 8) ((σ 18 z / 8) - 1).toNat (zMx (zYv σ z wo (σ 18 z / 8) ((σ 18 z / 8) - 1).toNat) (zN σ).toNat) = -1
                      rw [if_neg (by omega), show c = (zN σ).toNat by omega] at hmm
                      omega
                  refine z_iconst C (z_d dtX8_walks_3 14 rfl) ?_
                  exact ret _ _ _ _ (z_d dtX8_walks_3 15 rfl) (⟨_, rfl, Or.inl ⟨hno, rfl, hE⟩⟩) rfl
              · refine z_aload_n C (z_d dtX8_walks_2 36 rfl) rfl ?_
                refine gf_X8_55 C (z_d dtX8_walks_2 37 rfl) ?_
                refine z_iload C (z_d dtX8_walks_2 38 rfl) rfl ?_
                refine al_M14 C (z_d dtX8_walks_2 39 rfl) (by omega) ?_
                try simp (decide := true) only [zS_s, zS_o, zC, e60]
                refine z_top (hS0 c (by omega) (by omega)) ?_
                refine z_iload C (z_d dtX8_walks_3 0 rfl) rfl ?_
                refine z_icmp_le (tgt := 235) C (z_d dtX8_walks_3 1 rfl) (by decide) (by omega) (fun h_222 => ?_) (fun h_222 => ?_)
                · refine z_iload C (z_d dtX8_walks_3 7 rfl) rfl ?_
                  refine z_istore4 C (z_d dtX8_walks_3 8 rfl) rfl ?_
                  refine z_iinc5 C (z_d dtX8_walks_3 9 rfl) rfl ?_
                  refine z_goto (tgt := 200) C (z_d dtX8_walks_3 10 rfl) (by decide) ?_
                  exact ih_200 (c + 1) _ _ (by omega) (fun _ => by omega) (by
                          rw [if_neg (by omega), zMx]
                          by_cases p : c = 0
                          · rw [if_pos p] at hmm
                            subst p
                            rw [show (if (zYv σ z wo (σ 18 z / 8) (σ 18 z / 8 - 1).toNat) ((0 : Nat) : Int) > (zYv σ z wo (σ 18 z / 8) (σ 18 z / 8 - 1).toNat) (zMx (zYv σ z wo (σ 18 z / 8) (σ 18 z / 8 - 1).toNat) 0) then ((0 : Nat) : Int) else zMx (zYv σ z wo (σ 18 z / 8) (σ 18 z / 8 - 1).toNat) 0) = ((0 : Nat) : Int) by split <;> rfl]
                            (try omega)
                          · rw [if_neg p] at hmm
                            first
                              | (rw [if_pos (by omega)])
                              | (rw [if_neg (by omega)]; exact hmm)) (by omega)
                · refine z_aload_n C (z_d dtX8_walks_3 2 rfl) rfl ?_
                  refine gf_X8_55 C (z_d dtX8_walks_3 3 rfl) ?_
                  refine z_iload C (z_d dtX8_walks_3 4 rfl) rfl ?_
                  refine al_M14 C (z_d dtX8_walks_3 5 rfl) (by omega) ?_
                  try simp (decide := true) only [zS_s, zS_o, zC, e60]
                  refine z_top (hS0 c (by omega) (by omega)) ?_
                  refine z_goto (tgt := 237) C (z_d dtX8_walks_3 6 rfl) (by decide) ?_
                  refine z_istore4 C (z_d dtX8_walks_3 8 rfl) rfl ?_
                  refine z_iinc5 C (z_d dtX8_walks_3 9 rfl) rfl ?_
                  refine z_goto (tgt := 200) C (z_d dtX8_walks_3 10 rfl) (by decide) ?_
                  exact ih_200 (c + 1) _ _ (by omega) (fun _ => by omega) (by
                          rw [if_neg (by omega), zMx]
                          by_cases p : c = 0
                          · rw [if_pos p] at hmm
                            subst p
                            rw [show (if (zYv σ z wo (σ 18 z / 8) (σ 18 z / 8 - 1).toNat) ((0 : Nat) : Int) > (zYv σ z wo (σ 18 z / 8) (σ 18 z / 8 - 1).toNat) (zMx (zYv σ z wo (σ 18 z / 8) (σ 18 z / 8 - 1).toNat) 0) then ((0 : Nat) : Int) else zMx (zYv σ z wo (σ 18 z / 8) (σ 18 z / 8 - 1).toNat) 0) = ((0 : Nat) : Int) by split <;> rfl]
                            (try omega)
                          · rw [if_neg p] at hmm
                            first
                              | (rw [if_pos (by omega)])
                              | (rw [if_neg (by omega)]; exact hmm)) (by omega)
        exact lp_200 _ 0 _ _ (by omega) (fun q => absurd rfl q) rfl (Nat.lt_succ_self _)
      · refine z_iconst C (z_d dtX8_walks_0 10 rfl) ?_
        refine z_istore5 C (z_d dtX8_walks_0 11 rfl) rfl ?_
        have lp_19 : ∀ (N_19 : Nat) (c : Int) (ν : zMem), (0 ≤ c ∧ c ≤ zN σ) → (zE ν σ [66]) → (∀ r2 c2 : Int, r < r2 → r2 ≤ (σ 18 z / 8) - 1 → 0 ≤ c2 → c2 < zN σ → ν 66 (72 * r2 + c2) = (zYv σ z wo (σ 18 z / 8) ((σ 18 z / 8) - 1 - r2).toNat) c2) → (∀ j : Int, 0 ≤ j → j < c → ν 66 (72 * r + j) = (zYv σ z wo (σ 18 z / 8) ((σ 18 z / 8) - 1 - r).toNat) j) → (zN σ - c).toNat < N_19 → Gd K 0 0 19 [some (.ref (ad 0)), some (.int (zI z)), some (.int (zI wo)), some (.int (zI (σ 18 z / 8))), some (.int (zI r)), some (.int (zI c)), none, none, none] [] (wM ad (z_t K) ν) := by
          intro N_19
          induction N_19 with
          | zero => intro c ν hc hE2 hrows2 hcur hm_19; exact absurd hm_19 (Nat.not_lt_zero _)
          | succ N_19 ih_19 =>
            intro c ν hc hE2 hrows2 hcur hm_19
            have okb := okM_E hE2 (by decide) ok
            obtain ⟨⟨hwb, h60b, hsb, h4b, h5b, h6b, h7b⟩, hmpb, _, _, _, _, ⟨_, _, h18b, hitb⟩⟩ := okb
            have eNb : zN ν = zN σ := zN_E hE2 (by decide) (by decide) (by decide)
            have e60 : ν 60 = σ 60 := hE2 60 (by decide)
            have eYb : ∀ a b, zLy ν a b = zLy σ a b := fun a b => zLy_E hE2 (by decide) (by decide) (by decide) (by decide) (by decide) (by decide) a b
            have eWb : ∀ r c, zRw ν z r c 0 wo 8 = zRw σ z r c 0 wo 8 := fun r c => zRw_E hE2 (by decide) (by decide) (by decide) z r c 0 wo 8
            refine z_iload C (z_d dtX8_walks_0 12 rfl) rfl ?_
            refine z_aload_n C (z_d dtX8_walks_0 13 rfl) rfl ?_
            refine gf_X8_83 C (z_d dtX8_walks_0 14 rfl) ?_
            try simp (decide := true) only [zS_s, zS_o, zC, e60]
            refine z_icmp_ge (tgt := 188) C (z_d dtX8_walks_0 15 rfl) (by decide) (by omega) (fun h_25 => ?_) (fun h_25 => ?_)
            · refine z_iinc4 C (z_d dtX8_walks_2 24 rfl) rfl ?_
              refine z_goto (tgt := 11) C (z_d dtX8_walks_2 25 rfl) (by decide) ?_
              refine z_drop5 ?_
              exact ih_11 _ _ (by omega) hE2 (fun r2 c2 p1 p2 p3 p4 => by
                      by_cases e : r2 = r
                      · subst e; exact hcur c2 p3 (by omega)
                      · exact hrows2 r2 c2 (by omega) p2 p3 p4) (by omega)
            · refine z_iload C (z_d dtX8_walks_0 16 rfl) rfl ?_
              refine z_iload_n C (z_d dtX8_walks_0 17 rfl) rfl ?_
              refine z_iconst C (z_d dtX8_walks_0 18 rfl) ?_
              refine z_isub C (z_d dtX8_walks_0 19 rfl) ?_
              refine z_icmp_ne (tgt := 40) C (z_d dtX8_walks_0 20 rfl) (by decide) (by omega) (fun h_33 => ?_) (fun h_33 => ?_)
              · refine z_iconst C (z_d dtX8_walks_0 23 rfl) ?_
                refine z_istore6 C (z_d dtX8_walks_0 24 rfl) rfl ?_
                refine z_iconst C (z_d dtX8_walks_0 25 rfl) ?_
                refine z_istore7 C (z_d dtX8_walks_0 26 rfl) rfl ?_
                have lp_46 : ∀ (N_46 : Nat) (d : Nat) (b dd : Int), (dd = d ∧ d ≤ (zN σ).toNat ∧ (r = (σ 18 z / 8) - 1 → d = 0)) → (b = if r = (σ 18 z / 8) - 1 then 0 else (zYb σ (zYv σ z wo (σ 18 z / 8) ((σ 18 z / 8) - 1 - (r + 1)).toNat) c d).2) → (zN σ).toNat - d < N_46 → Gd K 0 0 46 [some (.ref (ad 0)), some (.int (zI z)), some (.int (zI wo)), some (.int (zI (σ 18 z / 8))), some (.int (zI r)), some (.int (zI c)), some (.int (zI b)), some (.int (zI dd)), none] [] (wM ad (z_t K) ν) := by
                  intro N_46
                  induction N_46 with
                  | zero => intro d b dd hd hbb hm_46; exact absurd hm_46 (Nat.not_lt_zero _)
                  | succ N_46 ih_46 =>
                    intro d b dd hd hbb hm_46
                    obtain ⟨rfl, hd, hd0⟩ := hd
                    have hyd := zLy_b hs c d
                    have hVd := hvb ((σ 18 z / 8) - 1 - (r + 1)).toNat d
                    have hbd := zYb_b (V := (zYv σ z wo (σ 18 z / 8) ((σ 18 z / 8) - 1 - (r + 1)).toNat)) hs (b := 3000 * (((((σ 18 z / 8) - 1 - (r + 1)).toNat : Nat) : Int) + 1)) (by omega) c d (fun d _ _ => hvb _ d)
                    have hb9 : -1 ≤ b ∧ b ≤ 100000 := by
                      split at hbb <;> omega
                    have hsc := fun p : r < (σ 18 z / 8) - 1 => hrows2 (r + 1) d (by omega) (by omega) (by omega)
                    have hwr := zRw_b hmp z r c 0 wo 8
                    refine z_iload C (z_d dtX8_walks_0 27 rfl) rfl ?_
                    refine z_aload_n C (z_d dtX8_walks_0 28 rfl) rfl ?_
                    refine gf_X8_83 C (z_d dtX8_walks_0 29 rfl) ?_
                    try simp (decide := true) only [zS_s, zS_o, zC, e60]
                    refine z_icmp_ge (tgt := 145) C (z_d dtX8_walks_0 30 rfl) (by decide) (by omega) (fun h_52 => ?_) (fun h_52 => ?_)
                    · have hst := zYv_st (σ := σ) (z := z) (wo := wo) (R := (σ 18 z / 8)) (r := r) (c := c) (b := b) (by omega) (by
                        by_cases p : r = (σ 18 z / 8) - 1
                        · rw [if_pos p] at hbb; exact Or.inl ⟨p, hbb⟩
                        · rw [if_neg p, show d = (zN σ).toNat by omega] at hbb; exact Or.inr ⟨by omega, hbb⟩)
                      refine z_aload_n C (z_d dtX8_walks_2 0 rfl) rfl ?_
                      refine gf_X8_55 C (z_d dtX8_walks_2 1 rfl) ?_
                      refine z_bipush C (z_d dtX8_walks_2 2 rfl) zb_72 ?_
                      refine z_iload C (z_d dtX8_walks_2 3 rfl) rfl ?_
                      refine z_imul C (z_d dtX8_walks_2 4 rfl) ?_
                      refine z_iload C (z_d dtX8_walks_2 5 rfl) rfl ?_
                      refine z_iadd C (z_d dtX8_walks_2 6 rfl) ?_
                      refine z_iload C (z_d dtX8_walks_2 7 rfl) rfl ?_
                      refine z_iconst C (z_d dtX8_walks_2 8 rfl) ?_
                      refine z_icmp_ne (tgt := 167) C (z_d dtX8_walks_2 9 rfl) (by decide) (by omega) (fun h_160 => ?_) (fun h_160 => ?_)
                      · refine z_iload C (z_d dtX8_walks_2 12 rfl) rfl ?_
                        refine z_aload_n C (z_d dtX8_walks_2 13 rfl) rfl ?_
                        refine z_iload_n C (z_d dtX8_walks_2 14 rfl) rfl ?_
                        refine z_iload C (z_d dtX8_walks_2 15 rfl) rfl ?_
                        refine z_iload C (z_d dtX8_walks_2 16 rfl) rfl ?_
                        refine z_iconst C (z_d dtX8_walks_2 17 rfl) ?_
                        refine z_iload_n C (z_d dtX8_walks_2 18 rfl) rfl ?_
                        refine z_callV C (z_d dtX8_walks_2 19 rfl) (k_X8_weights  hz hitb (by omega) (by omega) hmpb h7b (by omega) hwo) cal_X8_weights gw_19_16 rfl 0 8 rfl rfl rfl rfl hR ⟨rfl, rfl, rfl, rfl⟩ rfl (fun r_177 w_177 h_177 => ?_)
                        obtain ⟨rfl, rfl⟩ := h_177
                        rw [eWb]
                        refine z_iadd C (z_d dtX8_walks_2 20 rfl) ?_
                        refine as_M14 C (z_d dtX8_walks_2 21 rfl) (by omega) ?_
                        refine z_iinc5 C (z_d dtX8_walks_2 22 rfl) rfl ?_
                        refine z_goto (tgt := 19) C (z_d dtX8_walks_2 23 rfl) (by decide) ?_
                        refine z_drop6 ?_
                        refine z_drop7 ?_
                        exact ih_19 _ _ (by omega) (zE_set hE2 (by decide)) (fun r2 c2 p1 p2 p3 p4 => by rw [zS_s, zU_n (by omega)]; exact hrows2 r2 c2 p1 p2 p3 p4) (fun j p1 p2 => by
                                rw [zS_s]
                                by_cases e : j = c
                                · subst e
                                  rw [zU_s, hst]
                                  first | (exfalso; omega) | rw [if_pos (by omega)] | (rw [if_neg (by omega)])
                                · rw [zU_n (by omega)]; exact hcur j p1 (by omega)) (by omega)
                      · refine z_iconst C (z_d dtX8_walks_2 10 rfl) ?_
                        refine z_goto (tgt := 181) C (z_d dtX8_walks_2 11 rfl) (by decide) ?_
                        refine as_M14 C (z_d dtX8_walks_2 21 rfl) (by omega) ?_
                        refine z_iinc5 C (z_d dtX8_walks_2 22 rfl) rfl ?_
                        refine z_goto (tgt := 19) C (z_d dtX8_walks_2 23 rfl) (by decide) ?_
                        refine z_drop6 ?_
                        refine z_drop7 ?_
                        exact ih_19 _ _ (by omega) (zE_set hE2 (by decide)) (fun r2 c2 p1 p2 p3 p4 => by rw [zS_s, zU_n (by omega)]; exact hrows2 r2 c2 p1 p2 p3 p4) (fun j p1 p2 => by
                                rw [zS_s]
                                by_cases e : j = c
                                · subst e
                                  rw [zU_s, hst]
                                  first | (exfalso; omega) | rw [if_pos (by omega)] | (rw [if_neg (by omega)])
                                · rw [zU_n (by omega)]; exact hcur j p1 (by omega)) (by omega)
                    · refine z_iload C (z_d dtX8_walks_0 31 rfl) rfl ?_
                      refine z_iload_n C (z_d dtX8_walks_0 32 rfl) rfl ?_
                      refine z_iconst C (z_d dtX8_walks_0 33 rfl) ?_
                      refine z_isub C (z_d dtX8_walks_0 34 rfl) ?_
                      refine z_icmp_ge (tgt := 145) C (z_d dtX8_walks_0 35 rfl) (by decide) (by omega) (fun h_60 => ?_) (fun h_60 => ?_)
                      · have hst := zYv_st (σ := σ) (z := z) (wo := wo) (R := (σ 18 z / 8)) (r := r) (c := c) (b := b) (by omega) (by
                          by_cases p : r = (σ 18 z / 8) - 1
                          · rw [if_pos p] at hbb; exact Or.inl ⟨p, hbb⟩
                          · rw [if_neg p, show d = (zN σ).toNat by omega] at hbb; exact Or.inr ⟨by omega, hbb⟩)
                        refine z_aload_n C (z_d dtX8_walks_2 0 rfl) rfl ?_
                        refine gf_X8_55 C (z_d dtX8_walks_2 1 rfl) ?_
                        refine z_bipush C (z_d dtX8_walks_2 2 rfl) zb_72 ?_
                        refine z_iload C (z_d dtX8_walks_2 3 rfl) rfl ?_
                        refine z_imul C (z_d dtX8_walks_2 4 rfl) ?_
                        refine z_iload C (z_d dtX8_walks_2 5 rfl) rfl ?_
                        refine z_iadd C (z_d dtX8_walks_2 6 rfl) ?_
                        refine z_iload C (z_d dtX8_walks_2 7 rfl) rfl ?_
                        refine z_iconst C (z_d dtX8_walks_2 8 rfl) ?_
                        refine z_icmp_ne (tgt := 167) C (z_d dtX8_walks_2 9 rfl) (by decide) (by omega) (fun h_160 => ?_) (fun h_160 => ?_)
                        · refine z_iload C (z_d dtX8_walks_2 12 rfl) rfl ?_
                          refine z_aload_n C (z_d dtX8_walks_2 13 rfl) rfl ?_
                          refine z_iload_n C (z_d dtX8_walks_2 14 rfl) rfl ?_
                          refine z_iload C (z_d dtX8_walks_2 15 rfl) rfl ?_
                          refine z_iload C (z_d dtX8_walks_2 16 rfl) rfl ?_
                          refine z_iconst C (z_d dtX8_walks_2 17 rfl) ?_
                          refine z_iload_n C (z_d dtX8_walks_2 18 rfl) rfl ?_
                          refine z_callV C (z_d dtX8_walks_2 19 rfl) (k_X8_weights  hz hitb (by omega) (by omega) hmpb h7b (by omega) hwo) cal_X8_weights gw_19_16 rfl 0 8 rfl rfl rfl rfl hR ⟨rfl, rfl, rfl, rfl⟩ rfl (fun r_177 w_177 h_177 => ?_)
                          obtain ⟨rfl, rfl⟩ := h_177
                          rw [eWb]
                          refine z_iadd C (z_d dtX8_walks_2 20 rfl) ?_
                          refine as_M14 C (z_d dtX8_walks_2 21 rfl) (by omega) ?_
                          refine z_iinc5 C (z_d dtX8_walks_2 22 rfl) rfl ?_
                          refine z_goto (tgt := 19) C (z_d dtX8_walks_2 23 rfl) (by decide) ?_
                          refine z_drop6 ?_
                          refine z_drop7 ?_
                          exact ih_19 _ _ (by omega) (zE_set hE2 (by decide)) (fun r2 c2 p1 p2 p3 p4 => by rw [zS_s, zU_n (by omega)]; exact hrows2 r2 c2 p1 p2 p3 p4) (fun j p1 p2 => by
                                  rw [zS_s]
                                  by_cases e : j = c
                                  · subst e
                                    rw [zU_s, hst]
                                    first | (exfalso; omega) | rw [if_pos (by omega)] | (rw [if_neg (by omega)])
                                  · rw [zU_n (by omega)]; exact hcur j p1 (by omega)) (by omega)
                        · refine z_iconst C (z_d dtX8_walks_2 10 rfl) ?_
                          refine z_goto (tgt := 181) C (z_d dtX8_walks_2 11 rfl) (by decide) ?_
                          refine as_M14 C (z_d dtX8_walks_2 21 rfl) (by omega) ?_
                          refine z_iinc5 C (z_d dtX8_walks_2 22 rfl) rfl ?_
                          refine z_goto (tgt := 19) C (z_d dtX8_walks_2 23 rfl) (by decide) ?_
                          refine z_drop6 ?_
                          refine z_drop7 ?_
                          exact ih_19 _ _ (by omega) (zE_set hE2 (by decide)) (fun r2 c2 p1 p2 p3 p4 => by rw [zS_s, zU_n (by omega)]; exact hrows2 r2 c2 p1 p2 p3 p4) (fun j p1 p2 => by
                                  rw [zS_s]
                                  by_cases e : j = c
                                  · subst e
                                    rw [zU_s, hst]
                                    first | (exfalso; omega) | rw [if_pos (by omega)] | (rw [if_neg (by omega)])
                                  · rw [zU_n (by omega)]; exact hcur j p1 (by omega)) (by omega)
                      · refine z_aload_n C (z_d dtX8_walks_0 36 rfl) rfl ?_
                        refine z_iload C (z_d dtX8_walks_0 37 rfl) rfl ?_
                        refine z_iload C (z_d dtX8_walks_0 38 rfl) rfl ?_
                        refine z_callV C (z_d dtX8_walks_0 39 rfl) (k_X8_likely  hwb (by rw [eNb]; omega) (by rw [eNb]; omega) h4b h5b h6b hsb) cal_X8_likely gw_13_20 rfl 0 8 rfl rfl rfl rfl hR ⟨rfl, rfl, rfl, rfl⟩ rfl (fun r_68 w_68 h_68 => ?_)
                        obtain ⟨rfl, rfl⟩ := h_68
                        rw [eYb]
                        refine z_if_le (tgt := 120) C (z_d dtX8_walks_1 0 rfl) (by decide) (by omega) (fun h_71 => ?_) (fun h_71 => ?_)
                        · refine z_iconst C (z_d dtX8_walks_1 29 rfl) ?_
                          refine z_istore8 C (z_d dtX8_walks_1 30 rfl) rfl ?_
                          refine z_iload C (z_d dtX8_walks_1 31 rfl) rfl ?_
                          refine z_iload C (z_d dtX8_walks_1 32 rfl) rfl ?_
                          refine z_icmp_le (tgt := 135) C (z_d dtX8_walks_1 33 rfl) (by decide) (by omega) (fun h_127 => ?_) (fun h_127 => ?_)
                          · refine z_iload C (z_d dtX8_walks_1 36 rfl) rfl ?_
                            refine z_istore6 C (z_d dtX8_walks_1 37 rfl) rfl ?_
                            refine z_iinc7 C (z_d dtX8_walks_1 38 rfl) rfl ?_
                            refine z_goto (tgt := 46) C (z_d dtX8_walks_1 39 rfl) (by decide) ?_
                            refine z_drop8 ?_
                            exact ih_46 (d + 1) _ _ (by omega) (by
                                    rw [if_neg (by omega)] at hbb ⊢
                                    rw [zYb]
                                    have ey : zYs σ (zYv σ z wo (σ 18 z / 8) ((σ 18 z / 8) - 1 - (r + 1)).toNat) c d = if 0 < zLy σ c d ∧ ¬ (zYv σ z wo (σ 18 z / 8) ((σ 18 z / 8) - 1 - (r + 1)).toNat) d = -1 then zLy σ c d + (zYv σ z wo (σ 18 z / 8) ((σ 18 z / 8) - 1 - (r + 1)).toNat) d else -1 := rfl
                                    first
                                      | rw [if_pos (by omega)] at ey
                                      | rw [if_neg (by omega)] at ey
                                    rw [ey]
                                    first
                                      | rw [if_pos (by omega)]; try omega
                                      | rw [if_neg (by omega)]; try omega) (by omega)
                          · refine z_iload C (z_d dtX8_walks_1 34 rfl) rfl ?_
                            refine z_goto (tgt := 137) C (z_d dtX8_walks_1 35 rfl) (by decide) ?_
                            refine z_istore6 C (z_d dtX8_walks_1 37 rfl) rfl ?_
                            refine z_iinc7 C (z_d dtX8_walks_1 38 rfl) rfl ?_
                            refine z_goto (tgt := 46) C (z_d dtX8_walks_1 39 rfl) (by decide) ?_
                            refine z_drop8 ?_
                            exact ih_46 (d + 1) _ _ (by omega) (by
                                    rw [if_neg (by omega)] at hbb ⊢
                                    rw [zYb]
                                    have ey : zYs σ (zYv σ z wo (σ 18 z / 8) ((σ 18 z / 8) - 1 - (r + 1)).toNat) c d = if 0 < zLy σ c d ∧ ¬ (zYv σ z wo (σ 18 z / 8) ((σ 18 z / 8) - 1 - (r + 1)).toNat) d = -1 then zLy σ c d + (zYv σ z wo (σ 18 z / 8) ((σ 18 z / 8) - 1 - (r + 1)).toNat) d else -1 := rfl
                                    first
                                      | rw [if_pos (by omega)] at ey
                                      | rw [if_neg (by omega)] at ey
                                    rw [ey]
                                    first
                                      | rw [if_pos (by omega)]; try omega
                                      | rw [if_neg (by omega)]; try omega) (by omega)
                        · refine z_aload_n C (z_d dtX8_walks_1 1 rfl) rfl ?_
                          refine gf_X8_55 C (z_d dtX8_walks_1 2 rfl) ?_
                          refine z_bipush C (z_d dtX8_walks_1 3 rfl) zb_72 ?_
                          refine z_iload C (z_d dtX8_walks_1 4 rfl) rfl ?_
                          refine z_iconst C (z_d dtX8_walks_1 5 rfl) ?_
                          refine z_iadd C (z_d dtX8_walks_1 6 rfl) ?_
                          refine z_imul C (z_d dtX8_walks_1 7 rfl) ?_
                          refine z_iload C (z_d dtX8_walks_1 8 rfl) rfl ?_
                          refine z_iadd C (z_d dtX8_walks_1 9 rfl) ?_
                          refine al_M14 C (z_d dtX8_walks_1 10 rfl) (by omega) ?_
                          try simp (decide := true) only [zS_s, zS_o, zC, e60]
                          refine z_top (hsc (by omega) (by omega)) ?_
                          refine z_iconst C (z_d dtX8_walks_1 11 rfl) ?_
                          refine z_icmp_eq (tgt := 120) C (z_d dtX8_walks_1 12 rfl) (by decide) (by omega) (fun h_90 => ?_) (fun h_90 => ?_)
                          · refine z_iconst C (z_d dtX8_walks_1 29 rfl) ?_
                            refine z_istore8 C (z_d dtX8_walks_1 30 rfl) rfl ?_
                            refine z_iload C (z_d dtX8_walks_1 31 rfl) rfl ?_
                            refine z_iload C (z_d dtX8_walks_1 32 rfl) rfl ?_
                            refine z_icmp_le (tgt := 135) C (z_d dtX8_walks_1 33 rfl) (by decide) (by omega) (fun h_127 => ?_) (fun h_127 => ?_)
                            · refine z_iload C (z_d dtX8_walks_1 36 rfl) rfl ?_
                              refine z_istore6 C (z_d dtX8_walks_1 37 rfl) rfl ?_
                              refine z_iinc7 C (z_d dtX8_walks_1 38 rfl) rfl ?_
                              refine z_goto (tgt := 46) C (z_d dtX8_walks_1 39 rfl) (by decide) ?_
                              refine z_drop8 ?_
                              exact ih_46 (d + 1) _ _ (by omega) (by
                                      rw [if_neg (by omega)] at hbb ⊢
                                      rw [zYb]
                                      have ey : zYs σ (zYv σ z wo (σ 18 z / 8) ((σ 18 z / 8) - 1 - (r + 1)).toNat) c d = if 0 < zLy σ c d ∧ ¬ (zYv σ z wo (σ 18 z / 8) ((σ 18 z / 8) - 1 - (r + 1)).toNat) d = -1 then zLy σ c d + (zYv σ z wo (σ 18 z / 8) ((σ 18 z / 8) - 1 - (r + 1)).toNat) d else -1 := rfl
                                      first
                                        | rw [if_pos (by omega)] at ey
                                        | rw [if_neg (by omega)] at ey
                                      rw [ey]
                                      first
                                        | rw [if_pos (by omega)]; try omega
                                        | rw [if_neg (by omega)]; try omega) (by omega)
                            · refine z_iload C (z_d dtX8_walks_1 34 rfl) rfl ?_
                              refine z_goto (tgt := 137) C (z_d dtX8_walks_1 35 rfl) (by decide) ?_
                              refine z_istore6 C (z_d dtX8_walks_1 37 rfl) rfl ?_
                              refine z_iinc7 C (z_d dtX8_walks_1 38 rfl) rfl ?_
                              refine z_goto (tgt := 46) C (z_d dtX8_walks_1 39 rfl) (by decide) ?_
                              refine z_drop8 ?_
                              exact ih_46 (d + 1) _ _ (by omega) (by
                                      rw [if_neg (by omega)] at hbb ⊢
                                      rw [zYb]
                                      have ey : zYs σ (zYv σ z wo (σ 18 z / 8) ((σ 18 z / 8) - 1 - (r + 1)).toNat) c d = if 0 < zLy σ c d ∧ ¬ (zYv σ z wo (σ 18 z / 8) ((σ 18 z / 8) - 1 - (r + 1)).toNat) d = -1 then zLy σ c d + (zYv σ z wo (σ 18 z / 8) ((σ 18 z / 8) - 1 - (r + 1)).toNat) d else -1 := rfl
                                      first
                                        | rw [if_pos (by omega)] at ey
                                        | rw [if_neg (by omega)] at ey
                                      rw [ey]
                                      first
                                        | rw [if_pos (by omega)]; try omega
                                        | rw [if_neg (by omega)]; try omega) (by omega)
                          · refine z_aload_n C (z_d dtX8_walks_1 13 rfl) rfl ?_
                            refine z_iload C (z_d dtX8_walks_1 14 rfl) rfl ?_
                            refine z_iload C (z_d dtX8_walks_1 15 rfl) rfl ?_
                            refine z_callV C (z_d dtX8_walks_1 16 rfl) (k_X8_likely  hwb (by rw [eNb]; omega) (by rw [eNb]; omega) h4b h5b h6b hsb) cal_X8_likely gw_13_20 rfl 0 8 rfl rfl rfl rfl hR ⟨rfl, rfl, rfl, rfl⟩ rfl (fun r_98 w_98 h_98 => ?_)
                            obtain ⟨rfl, rfl⟩ := h_98
                            rw [eYb]
                            refine z_aload_n C (z_d dtX8_walks_1 17 rfl) rfl ?_
                            refine gf_X8_55 C (z_d dtX8_walks_1 18 rfl) ?_
                            refine z_bipush C (z_d dtX8_walks_1 19 rfl) zb_72 ?_
                            refine z_iload C (z_d dtX8_walks_1 20 rfl) rfl ?_
                            refine z_iconst C (z_d dtX8_walks_1 21 rfl) ?_
                            refine z_iadd C (z_d dtX8_walks_1 22 rfl) ?_
                            refine z_imul C (z_d dtX8_walks_1 23 rfl) ?_
                            refine z_iload C (z_d dtX8_walks_1 24 rfl) rfl ?_
                            refine z_iadd C (z_d dtX8_walks_1 25 rfl) ?_
                            refine al_M14 C (z_d dtX8_walks_1 26 rfl) (by omega) ?_
                            try simp (decide := true) only [zS_s, zS_o, zC, e60]
                            refine z_top (hsc (by omega) (by omega)) ?_
                            refine z_iadd C (z_d dtX8_walks_1 27 rfl) ?_
                            refine z_goto (tgt := 121) C (z_d dtX8_walks_1 28 rfl) (by decide) ?_
                            refine z_istore8 C (z_d dtX8_walks_1 30 rfl) rfl ?_
                            refine z_iload C (z_d dtX8_walks_1 31 rfl) rfl ?_
                            refine z_iload C (z_d dtX8_walks_1 32 rfl) rfl ?_
                            refine z_icmp_le (tgt := 135) C (z_d dtX8_walks_1 33 rfl) (by decide) (by omega) (fun h_127 => ?_) (fun h_127 => ?_)
                            · refine z_iload C (z_d dtX8_walks_1 36 rfl) rfl ?_
                              refine z_istore6 C (z_d dtX8_walks_1 37 rfl) rfl ?_
                              refine z_iinc7 C (z_d dtX8_walks_1 38 rfl) rfl ?_
                              refine z_goto (tgt := 46) C (z_d dtX8_walks_1 39 rfl) (by decide) ?_
                              refine z_drop8 ?_
                              exact ih_46 (d + 1) _ _ (by omega) (by
                                      rw [if_neg (by omega)] at hbb ⊢
                                      rw [zYb]
                                      have ey : zYs σ (zYv σ z wo (σ 18 z / 8) ((σ 18 z / 8) - 1 - (r + 1)).toNat) c d = if 0 < zLy σ c d ∧ ¬ (zYv σ z wo (σ 18 z / 8) ((σ 18 z / 8) - 1 - (r + 1)).toNat) d = -1 then zLy σ c d + (zYv σ z wo (σ 18 z / 8) ((σ 18 z / 8) - 1 - (r + 1)).toNat) d else -1 := rfl
                                      first
                                        | rw [if_pos (by omega)] at ey
                                        | rw [if_neg (by omega)] at ey
                                      rw [ey]
                                      first
                                        | rw [if_pos (by omega)]; try omega
                                        | rw [if_neg (by omega)]; try omega) (by omega)
                            · refine z_iload C (z_d dtX8_walks_1 34 rfl) rfl ?_
                              refine z_goto (tgt := 137) C (z_d dtX8_walks_1 35 rfl) (by decide) ?_
                              refine z_istore6 C (z_d dtX8_walks_1 37 rfl) rfl ?_
                              refine z_iinc7 C (z_d dtX8_walks_1 38 rfl) rfl ?_
                              refine z_goto (tgt := 46) C (z_d dtX8_walks_1 39 rfl) (by decide) ?_
                              refine z_drop8 ?_
                              exact ih_46 (d + 1) _ _ (by omega) (by
                                      rw [if_neg (by omega)] at hbb ⊢
                                      rw [zYb]
                                      have ey : zYs σ (zYv σ z wo (σ 18 z / 8) ((σ 18 z / 8) - 1 - (r + 1)).toNat) c d = if 0 < zLy σ c d ∧ ¬ (zYv σ z wo (σ 18 z / 8) ((σ 18 z / 8) - 1 - (r + 1)).toNat) d = -1 then zLy σ c d + (zYv σ z wo (σ 18 z / 8) ((σ 18 z / 8) - 1 - (r + 1)).toNat) d else -1 := rfl
                                      first
                                        | rw [if_pos (by omega)] at ey
                                        | rw [if_neg (by omega)] at ey
                                      rw [ey]
                                      first
                                        | rw [if_pos (by omega)]; try omega
                                        | rw [if_neg (by omega)]; try omega) (by omega)
                exact lp_46 _ 0 _ _ (by omega) (by first | rw [if_pos (by omega)] | (rw [if_neg (by omega)]; rfl) | rw [if_neg (by omega)]) (Nat.lt_succ_self _)
              · refine z_iconst C (z_d dtX8_walks_0 21 rfl) ?_
                refine z_goto (tgt := 41) C (z_d dtX8_walks_0 22 rfl) (by decide) ?_
                refine z_istore6 C (z_d dtX8_walks_0 24 rfl) rfl ?_
                refine z_iconst C (z_d dtX8_walks_0 25 rfl) ?_
                refine z_istore7 C (z_d dtX8_walks_0 26 rfl) rfl ?_
                have lp_46 : ∀ (N_46 : Nat) (d : Nat) (b dd : Int), (dd = d ∧ d ≤ (zN σ).toNat ∧ (r = (σ 18 z / 8) - 1 → d = 0)) → (b = if r = (σ 18 z / 8) - 1 then 0 else (zYb σ (zYv σ z wo (σ 18 z / 8) ((σ 18 z / 8) - 1 - (r + 1)).toNat) c d).2) → (zN σ).toNat - d < N_46 → Gd K 0 0 46 [some (.ref (ad 0)), some (.int (zI z)), some (.int (zI wo)), some (.int (zI (σ 18 z / 8))), some (.int (zI r)), some (.int (zI c)), some (.int (zI b)), some (.int (zI dd)), none] [] (wM ad (z_t K) ν) := by
                  intro N_46
                  induction N_46 with
                  | zero => intro d b dd hd hbb hm_46; exact absurd hm_46 (Nat.not_lt_zero _)
                  | succ N_46 ih_46 =>
                    intro d b dd hd hbb hm_46
                    obtain ⟨rfl, hd, hd0⟩ := hd
                    have hyd := zLy_b hs c d
                    have hVd := hvb ((σ 18 z / 8) - 1 - (r + 1)).toNat d
                    have hbd := zYb_b (V := (zYv σ z wo (σ 18 z / 8) ((σ 18 z / 8) - 1 - (r + 1)).toNat)) hs (b := 3000 * (((((σ 18 z / 8) - 1 - (r + 1)).toNat : Nat) : Int) + 1)) (by omega) c d (fun d _ _ => hvb _ d)
                    have hb9 : -1 ≤ b ∧ b ≤ 100000 := by
                      split at hbb <;> omega
                    have hsc := fun p : r < (σ 18 z / 8) - 1 => hrows2 (r + 1) d (by omega) (by omega) (by omega)
                    have hwr := zRw_b hmp z r c 0 wo 8
                    refine z_iload C (z_d dtX8_walks_0 27 rfl) rfl ?_
                    refine z_aload_n C (z_d dtX8_walks_0 28 rfl) rfl ?_
                    refine gf_X8_83 C (z_d dtX8_walks_0 29 rfl) ?_
                    try simp (decide := true) only [zS_s, zS_o, zC, e60]
                    refine z_icmp_ge (tgt := 145) C (z_d dtX8_walks_0 30 rfl) (by decide) (by omega) (fun h_52 => ?_) (fun h_52 => ?_)
                    · have hst := zYv_st (σ := σ) (z := z) (wo := wo) (R := (σ 18 z / 8)) (r := r) (c := c) (b := b) (by omega) (by
                        by_cases p : r = (σ 18 z / 8) - 1
                        · rw [if_pos p] at hbb; exact Or.inl ⟨p, hbb⟩
                        · rw [if_neg p, show d = (zN σ).toNat by omega] at hbb; exact Or.inr ⟨by omega, hbb⟩)
                      refine z_aload_n C (z_d dtX8_walks_2 0 rfl) rfl ?_
                      refine gf_X8_55 C (z_d dtX8_walks_2 1 rfl) ?_
                      refine z_bipush C (z_d dtX8_walks_2 2 rfl) zb_72 ?_
                      refine z_iload C (z_d dtX8_walks_2 3 rfl) rfl ?_
                      refine z_imul C (z_d dtX8_walks_2 4 rfl) ?_
                      refine z_iload C (z_d dtX8_walks_2 5 rfl) rfl ?_
                      refine z_iadd C (z_d dtX8_walks_2 6 rfl) ?_
                      refine z_iload C (z_d dtX8_walks_2 7 rfl) rfl ?_
                      refine z_iconst C (z_d dtX8_walks_2 8 rfl) ?_
                      refine z_icmp_ne (tgt := 167) C (z_d dtX8_walks_2 9 rfl) (by decide) (by omega) (fun h_160 => ?_) (fun h_160 => ?_)
                      · refine z_iload C (z_d dtX8_walks_2 12 rfl) rfl ?_
                        refine z_aload_n C (z_d dtX8_walks_2 13 rfl) rfl ?_
                        refine z_iload_n C (z_d dtX8_walks_2 14 rfl) rfl ?_
                        refine z_iload C (z_d dtX8_walks_2 15 rfl) rfl ?_
                        refine z_iload C (z_d dtX8_walks_2 16 rfl) rfl ?_
                        refine z_iconst C (z_d dtX8_walks_2 17 rfl) ?_
                        refine z_iload_n C (z_d dtX8_walks_2 18 rfl) rfl ?_
                        refine z_callV C (z_d dtX8_walks_2 19 rfl) (k_X8_weights  hz hitb (by omega) (by omega) hmpb h7b (by omega) hwo) cal_X8_weights gw_19_16 rfl 0 8 rfl rfl rfl rfl hR ⟨rfl, rfl, rfl, rfl⟩ rfl (fun r_177 w_177 h_177 => ?_)
                        obtain ⟨rfl, rfl⟩ := h_177
                        rw [eWb]
                        refine z_iadd C (z_d dtX8_walks_2 20 rfl) ?_
                        refine as_M14 C (z_d dtX8_walks_2 21 rfl) (by omega) ?_
                        refine z_iinc5 C (z_d dtX8_walks_2 22 rfl) rfl ?_
                        refine z_goto (tgt := 19) C (z_d dtX8_walks_2 23 rfl) (by decide) ?_
                        refine z_drop6 ?_
                        refine z_drop7 ?_
                        exact ih_19 _ _ (by omega) (zE_set hE2 (by decide)) (fun r2 c2 p1 p2 p3 p4 => by rw [zS_s, zU_n (by omega)]; exact hrows2 r2 c2 p1 p2 p3 p4) (fun j p1 p2 => by
                                rw [zS_s]
                                by_cases e : j = c
                                · subst e
                                  rw [zU_s, hst]
                                  first | (exfalso; omega) | rw [if_pos (by omega)] | (rw [if_neg (by omega)])
                                · rw [zU_n (by omega)]; exact hcur j p1 (by omega)) (by omega)
                      · refine z_iconst C (z_d dtX8_walks_2 10 rfl) ?_
                        refine z_goto (tgt := 181) C (z_d dtX8_walks_2 11 rfl) (by decide) ?_
                        refine as_M14 C (z_d dtX8_walks_2 21 rfl) (by omega) ?_
                        refine z_iinc5 C (z_d dtX8_walks_2 22 rfl) rfl ?_
                        refine z_goto (tgt := 19) C (z_d dtX8_walks_2 23 rfl) (by decide) ?_
                        refine z_drop6 ?_
                        refine z_drop7 ?_
                        exact ih_19 _ _ (by omega) (zE_set hE2 (by decide)) (fun r2 c2 p1 p2 p3 p4 => by rw [zS_s, zU_n (by omega)]; exact hrows2 r2 c2 p1 p2 p3 p4) (fun j p1 p2 => by
                                rw [zS_s]
                                by_cases e : j = c
                                · subst e
                                  rw [zU_s, hst]
                                  first | (exfalso; omega) | rw [if_pos (by omega)] | (rw [if_neg (by omega)])
                                · rw [zU_n (by omega)]; exact hcur j p1 (by omega)) (by omega)
                    · refine z_iload C (z_d dtX8_walks_0 31 rfl) rfl ?_
                      refine z_iload_n C (z_d dtX8_walks_0 32 rfl) rfl ?_
                      refine z_iconst C (z_d dtX8_walks_0 33 rfl) ?_
                      refine z_isub C (z_d dtX8_walks_0 34 rfl) ?_
                      refine z_icmp_ge (tgt := 145) C (z_d dtX8_walks_0 35 rfl) (by decide) (by omega) (fun h_60 => ?_) (fun h_60 => ?_)
                      · have hst := zYv_st (σ := σ) (z := z) (wo := wo) (R := (σ 18 z / 8)) (r := r) (c := c) (b := b) (by omega) (by
                          by_cases p : r = (σ 18 z / 8) - 1
                          · rw [if_pos p] at hbb; exact Or.inl ⟨p, hbb⟩
                          · rw [if_neg p, show d = (zN σ).toNat by omega] at hbb; exact Or.inr ⟨by omega, hbb⟩)
                        refine z_aload_n C (z_d dtX8_walks_2 0 rfl) rfl ?_
                        refine gf_X8_55 C (z_d dtX8_walks_2 1 rfl) ?_
                        refine z_bipush C (z_d dtX8_walks_2 2 rfl) zb_72 ?_
                        refine z_iload C (z_d dtX8_walks_2 3 rfl) rfl ?_
                        refine z_imul C (z_d dtX8_walks_2 4 rfl) ?_
                        refine z_iload C (z_d dtX8_walks_2 5 rfl) rfl ?_
                        refine z_iadd C (z_d dtX8_walks_2 6 rfl) ?_
                        refine z_iload C (z_d dtX8_walks_2 7 rfl) rfl ?_
                        refine z_iconst C (z_d dtX8_walks_2 8 rfl) ?_
                        refine z_icmp_ne (tgt := 167) C (z_d dtX8_walks_2 9 rfl) (by decide) (by omega) (fun h_160 => ?_) (fun h_160 => ?_)
                        · refine z_iload C (z_d dtX8_walks_2 12 rfl) rfl ?_
                          refine z_aload_n C (z_d dtX8_walks_2 13 rfl) rfl ?_
                          refine z_iload_n C (z_d dtX8_walks_2 14 rfl) rfl ?_
                          refine z_iload C (z_d dtX8_walks_2 15 rfl) rfl ?_
                          refine z_iload C (z_d dtX8_walks_2 16 rfl) rfl ?_
                          refine z_iconst C (z_d dtX8_walks_2 17 rfl) ?_
                          refine z_iload_n C (z_d dtX8_walks_2 18 rfl) rfl ?_
                          refine z_callV C (z_d dtX8_walks_2 19 rfl) (k_X8_weights  hz hitb (by omega) (by omega) hmpb h7b (by omega) hwo) cal_X8_weights gw_19_16 rfl 0 8 rfl rfl rfl rfl hR ⟨rfl, rfl, rfl, rfl⟩ rfl (fun r_177 w_177 h_177 => ?_)
                          obtain ⟨rfl, rfl⟩ := h_177
                          rw [eWb]
                          refine z_iadd C (z_d dtX8_walks_2 20 rfl) ?_
                          refine as_M14 C (z_d dtX8_walks_2 21 rfl) (by omega) ?_
                          refine z_iinc5 C (z_d dtX8_walks_2 22 rfl) rfl ?_
                          refine z_goto (tgt := 19) C (z_d dtX8_walks_2 23 rfl) (by decide) ?_
                          refine z_drop6 ?_
                          refine z_drop7 ?_
                          exact ih_19 _ _ (by omega) (zE_set hE2 (by decide)) (fun r2 c2 p1 p2 p3 p4 => by rw [zS_s, zU_n (by omega)]; exact hrows2 r2 c2 p1 p2 p3 p4) (fun j p1 p2 => by
                                  rw [zS_s]
                                  by_cases e : j = c
                                  · subst e
                                    rw [zU_s, hst]
                                    first | (exfalso; omega) | rw [if_pos (by omega)] | (rw [if_neg (by omega)])
                                  · rw [zU_n (by omega)]; exact hcur j p1 (by omega)) (by omega)
                        · refine z_iconst C (z_d dtX8_walks_2 10 rfl) ?_
                          refine z_goto (tgt := 181) C (z_d dtX8_walks_2 11 rfl) (by decide) ?_
                          refine as_M14 C (z_d dtX8_walks_2 21 rfl) (by omega) ?_
                          refine z_iinc5 C (z_d dtX8_walks_2 22 rfl) rfl ?_
                          refine z_goto (tgt := 19) C (z_d dtX8_walks_2 23 rfl) (by decide) ?_
                          refine z_drop6 ?_
                          refine z_drop7 ?_
                          exact ih_19 _ _ (by omega) (zE_set hE2 (by decide)) (fun r2 c2 p1 p2 p3 p4 => by rw [zS_s, zU_n (by omega)]; exact hrows2 r2 c2 p1 p2 p3 p4) (fun j p1 p2 => by
                                  rw [zS_s]
                                  by_cases e : j = c
                                  · subst e
                                    rw [zU_s, hst]
                                    first | (exfalso; omega) | rw [if_pos (by omega)] | (rw [if_neg (by omega)])
                                  · rw [zU_n (by omega)]; exact hcur j p1 (by omega)) (by omega)
                      · refine z_aload_n C (z_d dtX8_walks_0 36 rfl) rfl ?_
                        refine z_iload C (z_d dtX8_walks_0 37 rfl) rfl ?_
                        refine z_iload C (z_d dtX8_walks_0 38 rfl) rfl ?_
                        refine z_callV C (z_d dtX8_walks_0 39 rfl) (k_X8_likely  hwb (by rw [eNb]; omega) (by rw [eNb]; omega) h4b h5b h6b hsb) cal_X8_likely gw_13_20 rfl 0 8 rfl rfl rfl rfl hR ⟨rfl, rfl, rfl, rfl⟩ rfl (fun r_68 w_68 h_68 => ?_)
                        obtain ⟨rfl, rfl⟩ := h_68
                        rw [eYb]
                        refine z_if_le (tgt := 120) C (z_d dtX8_walks_1 0 rfl) (by decide) (by omega) (fun h_71 => ?_) (fun h_71 => ?_)
                        · refine z_iconst C (z_d dtX8_walks_1 29 rfl) ?_
                          refine z_istore8 C (z_d dtX8_walks_1 30 rfl) rfl ?_
                          refine z_iload C (z_d dtX8_walks_1 31 rfl) rfl ?_
                          refine z_iload C (z_d dtX8_walks_1 32 rfl) rfl ?_
                          refine z_icmp_le (tgt := 135) C (z_d dtX8_walks_1 33 rfl) (by decide) (by omega) (fun h_127 => ?_) (fun h_127 => ?_)
                          · refine z_iload C (z_d dtX8_walks_1 36 rfl) rfl ?_
                            refine z_istore6 C (z_d dtX8_walks_1 37 rfl) rfl ?_
                            refine z_iinc7 C (z_d dtX8_walks_1 38 rfl) rfl ?_
                            refine z_goto (tgt := 46) C (z_d dtX8_walks_1 39 rfl) (by decide) ?_
                            refine z_drop8 ?_
                            exact ih_46 (d + 1) _ _ (by omega) (by
                                    rw [if_neg (by omega)] at hbb ⊢
                                    rw [zYb]
                                    have ey : zYs σ (zYv σ z wo (σ 18 z / 8) ((σ 18 z / 8) - 1 - (r + 1)).toNat) c d = if 0 < zLy σ c d ∧ ¬ (zYv σ z wo (σ 18 z / 8) ((σ 18 z / 8) - 1 - (r + 1)).toNat) d = -1 then zLy σ c d + (zYv σ z wo (σ 18 z / 8) ((σ 18 z / 8) - 1 - (r + 1)).toNat) d else -1 := rfl
                                    first
                                      | rw [if_pos (by omega)] at ey
                                      | rw [if_neg (by omega)] at ey
                                    rw [ey]
                                    first
                                      | rw [if_pos (by omega)]; try omega
                                      | rw [if_neg (by omega)]; try omega) (by omega)
                          · refine z_iload C (z_d dtX8_walks_1 34 rfl) rfl ?_
                            refine z_goto (tgt := 137) C (z_d dtX8_walks_1 35 rfl) (by decide) ?_
                            refine z_istore6 C (z_d dtX8_walks_1 37 rfl) rfl ?_
                            refine z_iinc7 C (z_d dtX8_walks_1 38 rfl) rfl ?_
                            refine z_goto (tgt := 46) C (z_d dtX8_walks_1 39 rfl) (by decide) ?_
                            refine z_drop8 ?_
                            exact ih_46 (d + 1) _ _ (by omega) (by
                                    rw [if_neg (by omega)] at hbb ⊢
                                    rw [zYb]
                                    have ey : zYs σ (zYv σ z wo (σ 18 z / 8) ((σ 18 z / 8) - 1 - (r + 1)).toNat) c d = if 0 < zLy σ c d ∧ ¬ (zYv σ z wo (σ 18 z / 8) ((σ 18 z / 8) - 1 - (r + 1)).toNat) d = -1 then zLy σ c d + (zYv σ z wo (σ 18 z / 8) ((σ 18 z / 8) - 1 - (r + 1)).toNat) d else -1 := rfl
                                    first
                                      | rw [if_pos (by omega)] at ey
                                      | rw [if_neg (by omega)] at ey
                                    rw [ey]
                                    first
                                      | rw [if_pos (by omega)]; try omega
                                      | rw [if_neg (by omega)]; try omega) (by omega)
                        · refine z_aload_n C (z_d dtX8_walks_1 1 rfl) rfl ?_
                          refine gf_X8_55 C (z_d dtX8_walks_1 2 rfl) ?_
                          refine z_bipush C (z_d dtX8_walks_1 3 rfl) zb_72 ?_
                          refine z_iload C (z_d dtX8_walks_1 4 rfl) rfl ?_
                          refine z_iconst C (z_d dtX8_walks_1 5 rfl) ?_
                          refine z_iadd C (z_d dtX8_walks_1 6 rfl) ?_
                          refine z_imul C (z_d dtX8_walks_1 7 rfl) ?_
                          refine z_iload C (z_d dtX8_walks_1 8 rfl) rfl ?_
                          refine z_iadd C (z_d dtX8_walks_1 9 rfl) ?_
                          refine al_M14 C (z_d dtX8_walks_1 10 rfl) (by omega) ?_
                          try simp (decide := true) only [zS_s, zS_o, zC, e60]
                          refine z_top (hsc (by omega) (by omega)) ?_
                          refine z_iconst C (z_d dtX8_walks_1 11 rfl) ?_
                          refine z_icmp_eq (tgt := 120) C (z_d dtX8_walks_1 12 rfl) (by decide) (by omega) (fun h_90 => ?_) (fun h_90 => ?_)
                          · refine z_iconst C (z_d dtX8_walks_1 29 rfl) ?_
                            refine z_istore8 C (z_d dtX8_walks_1 30 rfl) rfl ?_
                            refine z_iload C (z_d dtX8_walks_1 31 rfl) rfl ?_
                            refine z_iload C (z_d dtX8_walks_1 32 rfl) rfl ?_
                            refine z_icmp_le (tgt := 135) C (z_d dtX8_walks_1 33 rfl) (by decide) (by omega) (fun h_127 => ?_) (fun h_127 => ?_)
                            · refine z_iload C (z_d dtX8_walks_1 36 rfl) rfl ?_
                              refine z_istore6 C (z_d dtX8_walks_1 37 rfl) rfl ?_
                              refine z_iinc7 C (z_d dtX8_walks_1 38 rfl) rfl ?_
                              refine z_goto (tgt := 46) C (z_d dtX8_walks_1 39 rfl) (by decide) ?_
                              refine z_drop8 ?_
                              exact ih_46 (d + 1) _ _ (by omega) (by
                                      rw [if_neg (by omega)] at hbb ⊢
                                      rw [zYb]
                                      have ey : zYs σ (zYv σ z wo (σ 18 z / 8) ((σ 18 z / 8) - 1 - (r + 1)).toNat) c d = if 0 < zLy σ c d ∧ ¬ (zYv σ z wo (σ 18 z / 8) ((σ 18 z / 8) - 1 - (r + 1)).toNat) d = -1 then zLy σ c d + (zYv σ z wo (σ 18 z / 8) ((σ 18 z / 8) - 1 - (r + 1)).toNat) d else -1 := rfl
                                      first
                                        | rw [if_pos (by omega)] at ey
                                        | rw [if_neg (by omega)] at ey
                                      rw [ey]
                                      first
                                        | rw [if_pos (by omega)]; try omega
                                        | rw [if_neg (by omega)]; try omega) (by omega)
                            · refine z_iload C (z_d dtX8_walks_1 34 rfl) rfl ?_
                              refine z_goto (tgt := 137) C (z_d dtX8_walks_1 35 rfl) (by decide) ?_
                              refine z_istore6 C (z_d dtX8_walks_1 37 rfl) rfl ?_
                              refine z_iinc7 C (z_d dtX8_walks_1 38 rfl) rfl ?_
                              refine z_goto (tgt := 46) C (z_d dtX8_walks_1 39 rfl) (by decide) ?_
                              refine z_drop8 ?_
                              exact ih_46 (d + 1) _ _ (by omega) (by
                                      rw [if_neg (by omega)] at hbb ⊢
                                      rw [zYb]
                                      have ey : zYs σ (zYv σ z wo (σ 18 z / 8) ((σ 18 z / 8) - 1 - (r + 1)).toNat) c d = if 0 < zLy σ c d ∧ ¬ (zYv σ z wo (σ 18 z / 8) ((σ 18 z / 8) - 1 - (r + 1)).toNat) d = -1 then zLy σ c d + (zYv σ z wo (σ 18 z / 8) ((σ 18 z / 8) - 1 - (r + 1)).toNat) d else -1 := rfl
                                      first
                                        | rw [if_pos (by omega)] at ey
                                        | rw [if_neg (by omega)] at ey
                                      rw [ey]
                                      first
                                        | rw [if_pos (by omega)]; try omega
                                        | rw [if_neg (by omega)]; try omega) (by omega)
                          · refine z_aload_n C (z_d dtX8_walks_1 13 rfl) rfl ?_
                            refine z_iload C (z_d dtX8_walks_1 14 rfl) rfl ?_
                            refine z_iload C (z_d dtX8_walks_1 15 rfl) rfl ?_
                            refine z_callV C (z_d dtX8_walks_1 16 rfl) (k_X8_likely  hwb (by rw [eNb]; omega) (by rw [eNb]; omega) h4b h5b h6b hsb) cal_X8_likely gw_13_20 rfl 0 8 rfl rfl rfl rfl hR ⟨rfl, rfl, rfl, rfl⟩ rfl (fun r_98 w_98 h_98 => ?_)
                            obtain ⟨rfl, rfl⟩ := h_98
                            rw [eYb]
                            refine z_aload_n C (z_d dtX8_walks_1 17 rfl) rfl ?_
                            refine gf_X8_55 C (z_d dtX8_walks_1 18 rfl) ?_
                            refine z_bipush C (z_d dtX8_walks_1 19 rfl) zb_72 ?_
                            refine z_iload C (z_d dtX8_walks_1 20 rfl) rfl ?_
                            refine z_iconst C (z_d dtX8_walks_1 21 rfl) ?_
                            refine z_iadd C (z_d dtX8_walks_1 22 rfl) ?_
                            refine z_imul C (z_d dtX8_walks_1 23 rfl) ?_
                            refine z_iload C (z_d dtX8_walks_1 24 rfl) rfl ?_
                            refine z_iadd C (z_d dtX8_walks_1 25 rfl) ?_
                            refine al_M14 C (z_d dtX8_walks_1 26 rfl) (by omega) ?_
                            try simp (decide := true) only [zS_s, zS_o, zC, e60]
                            refine z_top (hsc (by omega) (by omega)) ?_
                            refine z_iadd C (z_d dtX8_walks_1 27 rfl) ?_
                            refine z_goto (tgt := 121) C (z_d dtX8_walks_1 28 rfl) (by decide) ?_
                            refine z_istore8 C (z_d dtX8_walks_1 30 rfl) rfl ?_
                            refine z_iload C (z_d dtX8_walks_1 31 rfl) rfl ?_
                            refine z_iload C (z_d dtX8_walks_1 32 rfl) rfl ?_
                            refine z_icmp_le (tgt := 135) C (z_d dtX8_walks_1 33 rfl) (by decide) (by omega) (fun h_127 => ?_) (fun h_127 => ?_)
                            · refine z_iload C (z_d dtX8_walks_1 36 rfl) rfl ?_
                              refine z_istore6 C (z_d dtX8_walks_1 37 rfl) rfl ?_
                              refine z_iinc7 C (z_d dtX8_walks_1 38 rfl) rfl ?_
                              refine z_goto (tgt := 46) C (z_d dtX8_walks_1 39 rfl) (by decide) ?_
                              refine z_drop8 ?_
                              exact ih_46 (d + 1) _ _ (by omega) (by
                                      rw [if_neg (by omega)] at hbb ⊢
                                      rw [zYb]
                                      have ey : zYs σ (zYv σ z wo (σ 18 z / 8) ((σ 18 z / 8) - 1 - (r + 1)).toNat) c d = if 0 < zLy σ c d ∧ ¬ (zYv σ z wo (σ 18 z / 8) ((σ 18 z / 8) - 1 - (r + 1)).toNat) d = -1 then zLy σ c d + (zYv σ z wo (σ 18 z / 8) ((σ 18 z / 8) - 1 - (r + 1)).toNat) d else -1 := rfl
                                      first
                                        | rw [if_pos (by omega)] at ey
                                        | rw [if_neg (by omega)] at ey
                                      rw [ey]
                                      first
                                        | rw [if_pos (by omega)]; try omega
                                        | rw [if_neg (by omega)]; try omega) (by omega)
                            · refine z_iload C (z_d dtX8_walks_1 34 rfl) rfl ?_
                              refine z_goto (tgt := 137) C (z_d dtX8_walks_1 35 rfl) (by decide) ?_
                              refine z_istore6 C (z_d dtX8_walks_1 37 rfl) rfl ?_
                              refine z_iinc7 C (z_d dtX8_walks_1 38 rfl) rfl ?_
                              refine z_goto (tgt := 46) C (z_d dtX8_walks_1 39 rfl) (by decide) ?_
                              refine z_drop8 ?_
                              exact ih_46 (d + 1) _ _ (by omega) (by
                                      rw [if_neg (by omega)] at hbb ⊢
                                      rw [zYb]
                                      have ey : zYs σ (zYv σ z wo (σ 18 z / 8) ((σ 18 z / 8) - 1 - (r + 1)).toNat) c d = if 0 < zLy σ c d ∧ ¬ (zYv σ z wo (σ 18 z / 8) ((σ 18 z / 8) - 1 - (r + 1)).toNat) d = -1 then zLy σ c d + (zYv σ z wo (σ 18 z / 8) ((σ 18 z / 8) - 1 - (r + 1)).toNat) d else -1 := rfl
                                      first
                                        | rw [if_pos (by omega)] at ey
                                        | rw [if_neg (by omega)] at ey
                                      rw [ey]
                                      first
                                        | rw [if_pos (by omega)]; try omega
                                        | rw [if_neg (by omega)]; try omega) (by omega)
                exact lp_46 _ 0 _ _ (by omega) (by first | rw [if_pos (by omega)] | (rw [if_neg (by omega)]; rfl) | rw [if_neg (by omega)]) (Nat.lt_succ_self _)
        exact lp_19 _ _ _ (by omega) hE hrows (fun j a b => absurd b (by omega)) (Nat.lt_succ_self _)
  exact lp_11 _ _ _ (by omega) zE_rf (fun r2 c2 a b => absurd a (by omega)) (Nat.lt_succ_self _)
