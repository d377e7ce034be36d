/-! what holds of the system at all times -/
def zWc (σ : zMem) : Int := zSum (fun c => σ 4 c + σ 5 c) (zN σ).toNat
def zLc (σ : zMem) : Int := zSum (σ 6) 36
def oH (σ : zMem) : Prop := zHw σ ∧ (0 ≤ σ 3 0 ∧ σ 3 0 ≤ 9) ∧ zTb σ ∧ zBo σ 4 ∧ zBo σ 5 ∧ zBo σ 6 ∧ σ 31 0 = zWc σ ∧ σ 32 0 = zLc σ
def oD (σ : zMem) : Prop := zBo σ 7 ∧ σ 30 0 = zDb (σ 7)
def oS (σ : zMem) : Prop := σ 36 0 = zN σ ∧ (∀ c, 0 ≤ c → c < zN σ → 0 ≤ σ 9 c ∧ σ 9 c ≤ 1000000) ∧ zSum (σ 9) (zN σ).toNat = 1000000
def oW (σ : zMem) : Prop := ∀ i, σ 10 i = -1 ∨ (0 ≤ σ 10 i ∧ σ 10 i < zN σ)
def oA (σ : zMem) : Prop := (1 ≤ σ 11 0 ∧ σ 11 0 ≤ 20) ∧ (0 ≤ σ 12 0 ∧ σ 12 0 ≤ 30) ∧ 0 ≤ σ 49 0 ∧ (∀ i, 0 ≤ i → i < σ 12 0 → (0 ≤ σ 51 i ∧ σ 51 i < σ 49 0) ∧ zIsA σ (σ 13 (5 * i)) (σ 13 (5 * i + 1)) (σ 13 (5 * i + 2)) (σ 13 (5 * i + 3)) (σ 13 (5 * i + 4)) ∧ σ 50 (5 * σ 51 i) = σ 13 (5 * i) ∧ σ 50 (5 * σ 51 i + 1) = σ 13 (5 * i + 1) ∧ σ 50 (5 * σ 51 i + 2) = σ 13 (5 * i + 2) ∧ σ 50 (5 * σ 51 i + 3) = σ 13 (5 * i + 3) ∧ σ 50 (5 * σ 51 i + 4) = σ 13 (5 * i + 4))
def oT (σ : zMem) : Prop := 0 ≤ σ 14 0 ∧ σ 14 0 ≤ 30
def oB (σ : zMem) : Prop := zBo σ 16 ∧ (∀ i, 0 ≤ σ 17 i ∧ σ 17 i ≤ 2) ∧ (∀ i, 0 ≤ σ 18 i ∧ σ 18 i ≤ 240) ∧ zIt σ ∧ ∀ i, σ 40 i = if σ 16 i = 1 then σ 18 i else 0
def okX (σ : zMem) : Prop := oH σ ∧ oD σ ∧ zMp σ ∧ oS σ ∧ oW σ ∧ oA σ ∧ oT σ ∧ oB σ
theorem oB_s {σ : zMem} (h : oB σ) (z : Int) : 0 ≤ σ 40 z ∧ σ 40 z ≤ 240 := by
  have a := h.2.2.2.2 z
  have b := h.2.2.1 z
  split at a <;> omega
theorem oS_n {σ : zMem} (h : oS σ) (hw : zHw σ) : σ 36 0 = ((zN σ).toNat : Int) ∧ 1 ≤ (zN σ).toNat ∧ (zN σ).toNat ≤ 72 := by
  have a := zHw_N hw
  have b := h.1
  omega
theorem oS_9 {σ : zMem} (h : oS σ) (hw : zHw σ) : ∀ c : Int, 0 ≤ c → c < ((zN σ).toNat : Int) → 0 ≤ σ 9 c ∧ σ 9 c ≤ 1000000 := fun c h0 h1 => h.2.1 c h0 (by have := zHw_N hw; omega)
theorem zWh_ok {W : Int → Int} {n : Nat} (hn : 1 ≤ n) (hW : ∀ c : Int, 0 ≤ c → c < n → 0 ≤ W c) (hS : 0 < zSum W n) : (∀ c : Int, 0 ≤ c → c < n → 0 ≤ zWh W n c ∧ zWh W n c ≤ 1000000) ∧ zSum (zWh W n) n = 1000000 := by
  have s := zWh_sum hn hS
  have a : ∀ c : Int, 0 ≤ c → c < n → 0 ≤ zWh W n c := fun c h0 h1 => (zHc_s (v := 0) (p := (zQo W n, zRe W n)) (b := 1000000) (zQo_b hS hW) (zLk W n).toNat c h0 h1).1
  refine ⟨fun c h0 h1 => ⟨a c h0 h1, ?_⟩, s⟩
  have := zSum_le n a c h0 h1
  omega
def zRp (σ : zMem) (z row : Int) : Int := if σ 16 z = 0 then 1 else if 0 ≤ row ∧ row < σ 18 z / 8 then 0 else 2
def zIp (σ : zMem) (z f i : Int) : Int := if σ 16 z = 0 then 1 else if ¬ σ 17 z = f then 3 else if 0 ≤ i ∧ i < σ 18 z then 0 else 2
/-- leading by n steps -/
def zL1 (σ : zMem) (F : Int → Int) : Int → Int := if zSum (zLw (zS σ 9 F) (zN σ).toNat) (zN σ).toNat ≤ 0 then F else zWh (zLw (zS σ 9 F) (zN σ).toNat) (zN σ).toNat
def zLn (σ : zMem) : Nat → Int → Int
  | 0 => σ 9
  | n + 1 => zL1 σ (zLn σ n)
theorem zLw_c {μ σ : zMem} (h0 : μ 0 = σ 0) (h1 : μ 1 = σ 1) (h2 : μ 2 = σ 2) (h3 : μ 3 = σ 3) (h33 : μ 33 = σ 33) : ∀ n : Nat, (∀ c : Int, 0 ≤ c → c < n → μ 9 c = σ 9 c) → zLw μ n = zLw σ n
  | 0, _ => rfl
  | n + 1, h9 => by
    have i := zLw_c h0 h1 h2 h3 h33 n (fun c a b => h9 c a (by omega))
    have eN : zN μ = zN σ := by unfold zN; rw [h0, h1, h2]
    have eL : ∀ d, zLik μ d = zLik σ d := fun d => by unfold zLik; rw [h3]
    have eA : ∀ m : Nat, zAll μ n m = zAll σ n m := by
      intro m
      induction m with
      | zero => rfl
      | succ m ih => rw [zAll, zAll, ih, h33, eL]
    have eS : ∀ (lv all : Int) (F : Int → Int) (d : Nat), zSp μ n lv all F d = zSp σ n lv all F d := by
      intro lv all F d
      induction d with
      | zero => rfl
      | succ d ih => rw [zSp, zSp, ih, h33, eN, eL]
    rw [zLw, zLw, i, eA, h9 n (by omega) (by omega), eS]
theorem zL1_cg {σ : zMem} (hw : zHw σ) {F G : Int → Int} (h : ∀ c : Int, 0 ≤ c → c < zN σ → F c = G c) : ∀ c : Int, 0 ≤ c → c < zN σ → zL1 σ F c = zL1 σ G c := by
  have hN := zHw_N hw
  have e := zLw_c (μ := zS σ 9 F) (σ := zS σ 9 G) rfl rfl rfl rfl rfl (zN σ).toNat (fun c a b => h c a (by omega))
  intro c a b
  unfold zL1
  rw [e]
  split
  · exact h c a b
  · rfl
theorem zLn_ok {σ : zMem} (hw : zHw σ) (hs : 0 ≤ σ 3 0 ∧ σ 3 0 ≤ 9) (h9 : ∀ c, 0 ≤ c → c < zN σ → 0 ≤ σ 9 c ∧ σ 9 c ≤ 1000000) (hsum : zSum (σ 9) (zN σ).toNat = 1000000) : ∀ n : Nat, (∀ c, 0 ≤ c → c < zN σ → 0 ≤ zLn σ n c ∧ zLn σ n c ≤ 1000000) ∧ zSum (zLn σ n) (zN σ).toNat = 1000000
  | 0 => ⟨h9, hsum⟩
  | n + 1 => by
    have hN := zHw_N hw
    have i := zLn_ok hw hs h9 hsum n
    have b := zLw_b (σ := zS σ 9 (zLn σ n)) hs (zN σ).toNat (fun c a b => i.1 c a (by omega))
    rw [zLn]
    unfold zL1
    split
    · exact i
    · rename_i q
      have := zWh_ok (W := zLw (zS σ 9 (zLn σ n)) (zN σ).toNat) (n := (zN σ).toNat) (by omega) (fun c _ _ => (b c).1) (by omega)
      exact ⟨fun c a b => this.1 c a (by omega), this.2⟩
/-- hearing: the weights -/
def zHx (σ : zMem) (z row o : Int) : Int → Int := fun c => zHm σ z row o (zN σ).toNat 8 c * σ 9 c
def zMr (σ : zMem) (z k : Int) : Nat → Int
  | 0 => 0
  | n + 1 => zMr σ z k n + if zH0 (zHv σ z n k) = -2 then 0 else 1
def zMu (σ : zMem) (z k R : Int) : Nat → Int
  | 0 => 0
  | n + 1 => zMu σ z k R n + if zH0 (zHv σ z n k) ≠ -2 ∧ zWt σ k (zWy σ z k R n) (zH0 (zHv σ z n k)) = 1 then 1 else 0
theorem zMr_b (σ : zMem) (z k : Int) : ∀ n : Nat, 0 ≤ zMr σ z k n ∧ zMr σ z k n ≤ n
  | 0 => by simp [zMr]
  | n + 1 => by
    have a := zMr_b σ z k n
    rw [zMr]
    split <;> (constructor <;> (try push_cast) <;> omega)
theorem zMu_b (σ : zMem) (z k R : Int) : ∀ n : Nat, 0 ≤ zMu σ z k R n ∧ zMu σ z k R n ≤ n
  | 0 => by simp [zMu]
  | n + 1 => by
    have a := zMu_b σ z k R n
    rw [zMu]
    split <;> (constructor <;> (try push_cast) <;> omega)
def zVf (σ : zMem) (z wo R : Int) : Int := zV σ z wo R (R - 1).toNat (zWy σ z wo R 0)
abbrev zMvd (σ : zMem) (z k : Int) : Prop := 1 ≤ σ 18 z / 8 ∧ zVf σ z k (σ 18 z / 8) ≠ -1 ∧ zMr σ z k (σ 18 z / 8).toNat < 2 * zMu σ z k (σ 18 z / 8) (σ 18 z / 8).toNat
/-- a learning from a sheet: the map behind the first rows -/
def zLm (σ : zMem) (z : Int) (y : Nat → Int) : Nat → Int → Int
  | 0 => σ 8
  | n + 1 => zSv (zS σ 8 (zLm σ z y n)) z n (y n) 8
theorem zLm_b {σ : zMem} (h : zMp σ) (z : Int) (y : Nat → Int) : ∀ (n : Nat), zMp (zS σ 8 (zLm σ z y n))
  | 0 => h
  | n + 1 => zSv_b (zLm_b h z y n) z n (y n) 8
theorem cp_tell {K : z_KT} {cc : ByteArray} {nL cells slots pc : Nat} {L : List (Option Value)} {rest : List Value} {ad : Nat → Nat} {σ : zMem} (C : Fc K cc RX7 nL) {n : Int} (d : decode cc pc = .ok (.invokestatic 232, 3)) (hn : 0 ≤ n ∧ n ≤ 30) (hL : L.length = nL) (hf : 1 ≤ (z_Rm K).frames) (hlo : (rest.map fun v => v.category).sum + (nativeFrameWords "java/lang/System" "arraycopy" 5 + 11) ≤ (z_Rm K).locals) (k : Gd K cells slots (pc + 3) L rest (wX ad (z_t K) (zS σ 15 (fun i => if 0 ≤ i ∧ i < n then σ 39 i else σ 15 i)))) : Gd K cells slots pc L (.int (zI n) :: .int (zI 0) :: .ref (ad 7) :: .int (zI 0) :: .ref (ad 18) :: rest) (wX ad (z_t K) σ) := by
  have e : va_cpy (fun j : Nat => zI (σ 39 j)) (fun j : Nat => zI (σ 15 j)) (zI 0).toNatClampNeg (zI 0).toNatClampNeg (zI n).toNatClampNeg = fun j : Nat => zI ((fun i => if 0 ≤ i ∧ i < n then σ 39 i else σ 15 i) (j : Int)) := by
    funext j
    rw [zI_clamp (by omega) (by omega), zI_clamp hn.1 (by omega)]
    unfold va_cpy
    by_cases h : (0 : Int).toNat ≤ j ∧ j < (0 : Int).toNat + n.toNat
    · rw [if_pos h]
      show zI (σ 39 _) = zI (if 0 ≤ (j : Int) ∧ (j : Int) < n then σ 39 j else σ 15 j)
      rw [if_pos (by omega)]
      congr 2
      omega
    · rw [if_neg h]
      show zI (σ 15 _) = zI (if 0 ≤ (j : Int) ∧ (j : Int) < n then σ 39 j else σ 15 j)
      rw [if_neg (by omega)]
  obtain ⟨p, l, ee, R, s, m, args, below, meth, c, A, H0, Q, D, t⟩ := K
  obtain ⟨hx, hb, hml, ho, hts, hK, hA⟩ := C
  intro H locs ls hP hD hS hl
  have q0 : ¬ zI 0 < 0 := by rw [zI_0, zI_lt (by omega) (by omega)]; omega
  have qn : ¬ zI n < 0 := by rw [zI_0, zI_lt (by omega) (by omega)]; omega
  refine va_copyi hx hb (by rw [hml, ← hL]; exact hl.1.symm) ho (hts _ gw_27_5) (hts _ gw_27_6) (hts _ gw_27_7) (hts _ gw_27_8) hK hP hD hS 18 7 0 0 (n0 := 30) (n1 := 30) (ty := .int) rfl rfl rfl rfl rfl q0 q0 qn (by rw [zI_clamp (by omega) (by omega), zI_clamp hn.1 (by omega)]; omega) (by rw [zI_clamp (by omega) (by omega), zI_clamp hn.1 (by omega)]; omega) (fun _ _ => rfl) hf hlo d fun H1 locs1 hP hD hS => ?_
  rw [e] at hP hD
  exact k H1 locs1 ls hP hD hS hl
theorem cp_items {K : z_KT} {cc : ByteArray} {nL cells slots pc : Nat} {L : List (Option Value)} {rest : List Value} {ad : Nat → Nat} {σ : zMem} (C : Fc K cc RX7 nL) {z y i j n : Int} (d : decode cc pc = .ok (.invokestatic 232, 3)) (hz : 0 ≤ z ∧ z < 4) (hy : 0 ≤ y ∧ y < 4) (hi : 0 ≤ i ∧ i + n ≤ 240) (hj : 0 ≤ j ∧ j + n ≤ 240) (hn : 0 ≤ n) (hL : L.length = nL) (hf : 1 ≤ (z_Rm K).frames) (hlo : (rest.map fun v => v.category).sum + (nativeFrameWords "java/lang/System" "arraycopy" 5 + 11) ≤ (z_Rm K).locals) (k : Gd K cells slots (pc + 3) L rest (wX ad (z_t K) (zS σ 20 (fun q => if 240 * y + j ≤ q ∧ q < 240 * y + j + n then σ 20 (240 * z + i + (q - (240 * y + j))) else σ 20 q)))) : Gd K cells slots pc L (.int (zI n) :: .int (zI j) :: .ref (ad (26 + y.toNat)) :: .int (zI i) :: .ref (ad (26 + z.toNat)) :: rest) (wX ad (z_t K) σ) := by
  have key := z_items (K := K) (cells := cells) (slots := slots) (pc := pc + 3) (L := L) (st := rest) (ad := ad) (σ := σ) hy (f := va_cpy (fun q : Nat => zI (σ 20 (240 * z + q))) (fun q : Nat => zI (σ 20 (240 * y + q))) i.toNat j.toNat n.toNat) (fun q => if 240 * y + j ≤ q ∧ q < 240 * y + j + n then σ 20 (240 * z + i + (q - (240 * y + j))) else σ 20 q) (fun q hq => by
    unfold va_cpy
    by_cases h : j.toNat ≤ q ∧ q < j.toNat + n.toNat
    · rw [if_pos h, if_pos (by omega)]
      show zI (σ 20 (240 * z + ((i.toNat + (q - j.toNat) : Nat) : Int))) = zI (σ 20 (240 * z + i + (240 * y + (q : Int) - (240 * y + j))))
      rw [show 240 * z + ((i.toNat + (q - j.toNat) : Nat) : Int) = 240 * z + i + (240 * y + (q : Int) - (240 * y + j)) by omega]
    · rw [if_neg h, if_neg (by omega)]) (fun q _ hq => by rw [if_neg (by omega)]) k
  obtain ⟨p, l, ee, R, s, m, args, below, meth, c, A, H0, Q, D, t⟩ := K
  obtain ⟨hx, hb, hml, ho, hts, hK, hA⟩ := C
  intro H locs ls hP hD hS hl
  have q0 : ∀ x : Int, 0 ≤ x ∧ x ≤ 240 → ¬ zI x < 0 := fun x hx => by rw [zI_0, zI_lt (by omega) (by omega)]; omega
  refine va_copyi hx hb (by rw [hml, ← hL]; exact hl.1.symm) ho (hts _ gw_27_5) (hts _ gw_27_6) (hts _ gw_27_7) (hts _ gw_27_8) hK hP hD hS (26 + z.toNat) (26 + y.toNat) 0 0 (n0 := 240) (n1 := 240) (ty := .int) (wX_si hz) (wX_si hy) rfl rfl rfl (q0 i (by omega)) (q0 j (by omega)) (q0 n (by omega)) (by rw [zI_clamp (by omega) (by omega), zI_clamp hn (by omega)]; omega) (by rw [zI_clamp (by omega) (by omega), zI_clamp hn (by omega)]; omega) (fun _ _ => rfl) hf hlo d fun H1 locs1 hP hD hS => ?_
  rw [zI_clamp (i := i) (by omega) (by omega), zI_clamp (i := j) (by omega) (by omega), zI_clamp (i := n) hn (by omega)] at hP hD
  exact key H1 locs1 ls hP hD hS hl
