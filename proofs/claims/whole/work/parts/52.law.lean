/-! THE LAW: its rows, and its calls two by two -/
def z_Sc (K : z_KT) (b L : Nat) (xs : Nat → Int) : Prop := match K with
  | (_, _, _, _, s, _, _, _, _, _, A, H0, _, _, _) => va_X b L (fun j => zI (xs j)) s H0 ∧ b < H0.size ∧ ¬ A b ∧ ∀ j, -2147483648 ≤ xs j ∧ xs j < 2147483648
theorem z_Sc.rg {K : z_KT} {b L : Nat} {xs : Nat → Int} (S : z_Sc K b L xs) (j : Nat) : -2147483648 ≤ xs j ∧ xs j < 2147483648 := by
  obtain ⟨p, l, e, R, s, m, args, below, meth, c, A, H0, Q, D, t⟩ := K
  exact S.2.2.2 j
section ZLW
variable {K : z_KT} {cc : ByteArray} {own : String} {nL cells slots pc b L : Nat} {LL : List (Option Value)} {rest : List Value} {ws : va_W} {xs : Nat → Int}
theorem z_sld (C : Fc K cc own nL) (S : z_Sc K b L xs) {i v : Int} (e : xs i.toNat = v) (hi : 0 ≤ i ∧ i < L) (hL : L ≤ 3072) (d : decode cc pc = .ok (.iaload, 1)) (k : Gd K cells slots (pc + 1) LL (.int (zI v) :: rest) ws) : Gd K cells slots pc LL (.int (zI i) :: .ref b :: rest) ws := by
  obtain ⟨p, l, ee, R, s, m, args, below, meth, c, A, H0, Q, D, t⟩ := K
  obtain ⟨hx, hb, hml, ho, hts, hK, hA⟩ := C
  obtain ⟨s1, s2, s3, s4⟩ := S
  intro H locs ls hP hD hS hl
  refine va_sld hx hb s1 s2 s3 hS (zI_in hi.1 hi.2 (by omega)) d ?_
  rw [zI_clamp hi.1 (by omega)]
  show W _ _ _ _ _ _ _ _ _ _ _ _ _ _ _ (F0 m (pc + 1) ls (.int (zI (xs i.toNat)) :: rest))
  rw [e]
  exact k H locs ls hP hD hS hl
theorem z_slen (C : Fc K cc own nL) (S : z_Sc K b L xs) (d : decode cc pc = .ok (.arraylength, 1)) (k : Gd K cells slots (pc + 1) LL (.int (zI L) :: rest) ws) : Gd K cells slots pc LL (.ref b :: rest) ws := by
  obtain ⟨p, l, ee, R, s, m, args, below, meth, c, A, H0, Q, D, t⟩ := K
  obtain ⟨hx, hb, hml, ho, hts, hK, hA⟩ := C
  obtain ⟨s1, s2, s3, s4⟩ := S
  intro H locs ls hP hD hS hl
  refine va_slen hx hb s1 s2 s3 hS d ?_
  rw [zI_nat]
  exact k H locs ls hP hD hS hl
theorem z_icmp_same (C : Fc K cc own nL) {x y off : Int} {tgt : Nat} (d : decode cc pc = .ok (.if_icmp .eq off, 3)) (ht : (pc : Int) + off = (tgt : Int)) (e : x = y) (k : Gd K cells slots tgt LL rest ws) : Gd K cells slots pc LL (.int (zI y) :: .int (zI x) :: rest) ws := by
  subst e
  have q : zI x = zI (zI x).toInt := (zI_of (zI x)).symm
  rw [q]
  exact z_icmp_eq C d ht ⟨zI_rg _, zI_rg _⟩ (fun _ => k) (fun n => absurd rfl n)
theorem z_lcmp_same (C : Fc K cc own nL) {x y : Int} (d : decode cc pc = .ok (.lcmp, 1)) (e : x = y) (k : Gd K cells slots (pc + 1) LL (.int (zI 0) :: rest) ws) : Gd K cells slots pc LL (.long (zL y) :: .long (zL x) :: rest) ws := by
  subst e
  have q : zL x = zL (zL x).toInt := (zL_of (zL x)).symm
  rw [q]
  refine z_lcmpP C d ⟨⟨Int64.le_toInt _, Int64.toInt_lt _⟩, ⟨Int64.le_toInt _, Int64.toInt_lt _⟩⟩ (fun m hm => ?_)
  obtain rfl : m = 0 := by omega
  exact k
end ZLW
theorem z_and31 (x : Int) : ∃ z : Int, (0 ≤ z ∧ z < 32) ∧ zI x &&& zI 31 = zI z := by
  have h : (zI x &&& zI 31).toBitVec.toNat < 32 := by
    have e : (zI x &&& zI 31).toBitVec = (zI x).toBitVec &&& (zI 31).toBitVec := rfl
    rw [e, BitVec.toNat_and]
    have q : (zI 31).toBitVec.toNat = 31 := by decide
    rw [q]
    have := @Nat.and_le_right ((zI x).toBitVec.toNat) 31
    omega
  refine ⟨((zI x &&& zI 31).toBitVec.toNat : Int), ⟨by omega, by omega⟩, ?_⟩
  generalize zI x &&& zI 31 = y at h ⊢
  rw [← zI_nat]
  show y = Int32.ofNat y.toBitVec.toNat
  apply Int32.toBitVec_inj.mp
  apply BitVec.eq_of_toNat_eq
  show _ = (BitVec.ofNat 32 y.toBitVec.toNat).toNat
  rw [BitVec.toNat_ofNat]
  omega
theorem cAl {σ τ : zMem} (J : zJn σ τ) : τ 60 0 = (((zN σ).toNat : Nat) : Int) ∧ 1 ≤ (zN σ).toNat ∧ (zN σ).toNat ≤ 72 := by
  have hN := zHw_N J.1.1.1
  have h60 := J.2.2.2.2
  omega

set_option maxRecDepth 100000 in
set_option maxHeartbeats 4000000 in
theorem lw_building {K : z_KT} {b L : Nat} {xs : Nat → Int} {ad ae : Nat → Nat} {σ τ : zMem} {i : Int} {cells slots : Nat} (C : Fc K cL_law RL 4) (hR : z_Rm K = z_rm 10 402 600000 7302250) (S : z_Sc K b L xs) (hL : L ≤ 3072) (hi : 0 ≤ i ∧ i + 6 ≤ L) (J : zJn σ τ) (hc : cells + 1 ≤ 600000 ∧ slots + 5 ≤ 7302250) (next : ∀ (σ' τ' : zMem) (c s : Nat), c ≤ cells + 1 → s ≤ slots + 5 → zJn σ' τ' → Gd K c s 1301 [some (.ref b), some (.ref (ad 0)), some (.ref (ae 0)), some (.int (zI i))] [] (wM ae (z_t K) τ' ++ wX ad (z_t K) σ')) : Gd K cells slots 176 [some (.ref b), some (.ref (ad 0)), some (.ref (ae 0)), some (.int (zI i))] [] (wM ae (z_t K) τ ++ wX ad (z_t K) σ) := by
  obtain ⟨a1, e1⟩ : ∃ a, xs (i + 1).toNat = a := ⟨_, rfl⟩
  have rg1 := S.rg (i + 1).toNat
  rw [e1] at rg1
  obtain ⟨a2, e2⟩ : ∃ a, xs (i + 2).toNat = a := ⟨_, rfl⟩
  have rg2 := S.rg (i + 2).toNat
  rw [e2] at rg2
  obtain ⟨a3, e3⟩ : ∃ a, xs (i + 3).toNat = a := ⟨_, rfl⟩
  have rg3 := S.rg (i + 3).toNat
  rw [e3] at rg3
  obtain ⟨a4, e4⟩ : ∃ a, xs (i + 4).toNat = a := ⟨_, rfl⟩
  have rg4 := S.rg (i + 4).toNat
  rw [e4] at rg4
  obtain ⟨a5, e5⟩ : ∃ a, xs (i + 5).toNat = a := ⟨_, rfl⟩
  have rg5 := S.rg (i + 5).toNat
  rw [e5] at rg5
  have okm := J.om
  refine z_aload_n C (z_d dtL_law_0 22 rfl) rfl ?_
  refine z_aload_n C (z_d dtL_law_0 23 rfl) rfl ?_
  refine z_iload_n C (z_d dtL_law_0 24 rfl) rfl ?_
  refine z_iconst C (z_d dtL_law_0 25 rfl) ?_
  refine z_iadd C (z_d dtL_law_0 26 rfl) ?_
  refine z_sld C S e1 (by omega) (by omega) (z_d dtL_law_0 27 rfl) ?_
  refine z_aload_n C (z_d dtL_law_0 28 rfl) rfl ?_
  refine z_iload_n C (z_d dtL_law_0 29 rfl) rfl ?_
  refine z_iconst C (z_d dtL_law_0 30 rfl) ?_
  refine z_iadd C (z_d dtL_law_0 31 rfl) ?_
  refine z_sld C S e2 (by omega) (by omega) (z_d dtL_law_0 32 rfl) ?_
  refine z_aload_n C (z_d dtL_law_0 33 rfl) rfl ?_
  refine z_iload_n C (z_d dtL_law_0 34 rfl) rfl ?_
  refine z_iconst C (z_d dtL_law_0 35 rfl) ?_
  refine z_iadd C (z_d dtL_law_0 36 rfl) ?_
  refine z_sld C S e3 (by omega) (by omega) (z_d dtL_law_0 37 rfl) ?_
  refine z_callVF C (z_d dtL_law_0 38 rfl) (k_X7_building (ad := ad) (σ := σ) (f := a1) (x := a2) (y := a3) J.1 rg1 rg2 rg3) cal_X7_building gw_9_9 rfl 0 7 rfl rfl rfl rfl hR ⟨rfl, rfl⟩ (by omega) rfl (fun r w hX => ?_)
  obtain ⟨σ', rfl, hX⟩ := hX
  refine z_sw ?_
  refine z_aload_n C (z_d dtL_law_0 39 rfl) rfl ?_
  refine z_aload_n C (z_d dtL_law_1 0 rfl) rfl ?_
  refine z_iload_n C (z_d dtL_law_1 1 rfl) rfl ?_
  refine z_iconst C (z_d dtL_law_1 2 rfl) ?_
  refine z_iadd C (z_d dtL_law_1 3 rfl) ?_
  refine z_sld C S e1 (by omega) (by omega) (z_d dtL_law_1 4 rfl) ?_
  refine z_aload_n C (z_d dtL_law_1 5 rfl) rfl ?_
  refine z_iload_n C (z_d dtL_law_1 6 rfl) rfl ?_
  refine z_iconst C (z_d dtL_law_1 7 rfl) ?_
  refine z_iadd C (z_d dtL_law_1 8 rfl) ?_
  refine z_sld C S e2 (by omega) (by omega) (z_d dtL_law_1 9 rfl) ?_
  refine z_aload_n C (z_d dtL_law_1 10 rfl) rfl ?_
  refine z_iload_n C (z_d dtL_law_1 11 rfl) rfl ?_
  refine z_iconst C (z_d dtL_law_1 12 rfl) ?_
  refine z_iadd C (z_d dtL_law_1 13 rfl) ?_
  refine z_sld C S e3 (by omega) (by omega) (z_d dtL_law_1 14 rfl) ?_
  refine z_callVF C (z_d dtL_law_1 15 rfl) (k_X8_building (ad := ae) (σ := τ) (f := a1) (x := a2) (y := a3) rg1 rg2 rg3) cal_X8_building gw_9_13 rfl 0 8 rfl rfl rfl rfl hR ⟨rfl, rfl⟩ (by omega) rfl (fun r2 w hM => ?_)
  obtain ⟨τ', rfl, hM⟩ := hM
  refine z_sw ?_
  obtain ⟨er, μ, ν, q1, q2, J2⟩ := j_building (f := a1) (x := a2) (y := a3) J rg1 rg2 rg3 hX hM
  refine z_icmp_same (tgt := 1301) C (z_d dtL_law_1 16 rfl) (by decide) er ?_
  rw [← q1, ← q2]
  exact next μ ν _ _ (by omega) (by omega) J2
set_option maxRecDepth 100000 in
set_option maxHeartbeats 4000000 in
theorem lw_wall {K : z_KT} {b L : Nat} {xs : Nat → Int} {ad ae : Nat → Nat} {σ τ : zMem} {i : Int} {cells slots : Nat} (C : Fc K cL_law RL 4) (hR : z_Rm K = z_rm 10 402 600000 7302250) (S : z_Sc K b L xs) (hL : L ≤ 3072) (hi : 0 ≤ i ∧ i + 6 ≤ L) (J : zJn σ τ) (hc : cells + 1 ≤ 600000 ∧ slots + 5 ≤ 7302250) (next : ∀ (σ' τ' : zMem) (c s : Nat), c ≤ cells + 1 → s ≤ slots + 5 → zJn σ' τ' → Gd K c s 1301 [some (.ref b), some (.ref (ad 0)), some (.ref (ae 0)), some (.int (zI i))] [] (wM ae (z_t K) τ' ++ wX ad (z_t K) σ')) : Gd K cells slots 219 [some (.ref b), some (.ref (ad 0)), some (.ref (ae 0)), some (.int (zI i))] [] (wM ae (z_t K) τ ++ wX ad (z_t K) σ) := by
  obtain ⟨a1, e1⟩ : ∃ a, xs (i + 1).toNat = a := ⟨_, rfl⟩
  have rg1 := S.rg (i + 1).toNat
  rw [e1] at rg1
  obtain ⟨a2, e2⟩ : ∃ a, xs (i + 2).toNat = a := ⟨_, rfl⟩
  have rg2 := S.rg (i + 2).toNat
  rw [e2] at rg2
  obtain ⟨a3, e3⟩ : ∃ a, xs (i + 3).toNat = a := ⟨_, rfl⟩
  have rg3 := S.rg (i + 3).toNat
  rw [e3] at rg3
  obtain ⟨a4, e4⟩ : ∃ a, xs (i + 4).toNat = a := ⟨_, rfl⟩
  have rg4 := S.rg (i + 4).toNat
  rw [e4] at rg4
  obtain ⟨a5, e5⟩ : ∃ a, xs (i + 5).toNat = a := ⟨_, rfl⟩
  have rg5 := S.rg (i + 5).toNat
  rw [e5] at rg5
  have okm := J.om
  by_cases hb : a3 = 0
  · refine z_aload_n C (z_d dtL_law_1 19 rfl) rfl ?_
    refine z_aload_n C (z_d dtL_law_1 20 rfl) rfl ?_
    refine z_iload_n C (z_d dtL_law_1 21 rfl) rfl ?_
    refine z_iconst C (z_d dtL_law_1 22 rfl) ?_
    refine z_iadd C (z_d dtL_law_1 23 rfl) ?_
    refine z_sld C S e1 (by omega) (by omega) (z_d dtL_law_1 24 rfl) ?_
    refine z_aload_n C (z_d dtL_law_1 25 rfl) rfl ?_
    refine z_iload_n C (z_d dtL_law_1 26 rfl) rfl ?_
    refine z_iconst C (z_d dtL_law_1 27 rfl) ?_
    refine z_iadd C (z_d dtL_law_1 28 rfl) ?_
    refine z_sld C S e2 (by omega) (by omega) (z_d dtL_law_1 29 rfl) ?_
    refine z_aload_n C (z_d dtL_law_1 30 rfl) rfl ?_
    refine z_iload_n C (z_d dtL_law_1 31 rfl) rfl ?_
    refine z_iconst C (z_d dtL_law_1 32 rfl) ?_
    refine z_iadd C (z_d dtL_law_1 33 rfl) ?_
    refine z_sld C S e3 (by omega) (by omega) (z_d dtL_law_1 34 rfl) ?_
    refine z_if_eq (tgt := 242) C (z_d dtL_law_1 35 rfl) (by decide) rg3 (fun h => ?_) (fun h => ?_)
    rotate_left
    · exact absurd hb h
    refine z_iconst C (z_d dtL_law_1 38 rfl) ?_
    refine z_callVF C (z_d dtL_law_1 39 rfl) (k_X7_wall (ad := ad) (σ := σ) (a := a1) (b := a2) (s := 0) J.1 rg1 rg2 (by decide)) cal_X7_wall gw_9_14 rfl 0 7 rfl rfl rfl rfl hR ⟨rfl, rfl⟩ (by omega) rfl (fun r w hX => ?_)
    obtain ⟨σ', rfl, hX⟩ := hX
    refine z_sw ?_
    refine z_aload_n C (z_d dtL_law_2 0 rfl) rfl ?_
    refine z_aload_n C (z_d dtL_law_2 1 rfl) rfl ?_
    refine z_iload_n C (z_d dtL_law_2 2 rfl) rfl ?_
    refine z_iconst C (z_d dtL_law_2 3 rfl) ?_
    refine z_iadd C (z_d dtL_law_2 4 rfl) ?_
    refine z_sld C S e1 (by omega) (by omega) (z_d dtL_law_2 5 rfl) ?_
    refine z_aload_n C (z_d dtL_law_2 6 rfl) rfl ?_
    refine z_iload_n C (z_d dtL_law_2 7 rfl) rfl ?_
    refine z_iconst C (z_d dtL_law_2 8 rfl) ?_
    refine z_iadd C (z_d dtL_law_2 9 rfl) ?_
    refine z_sld C S e2 (by omega) (by omega) (z_d dtL_law_2 10 rfl) ?_
    refine z_aload_n C (z_d dtL_law_2 11 rfl) rfl ?_
    refine z_iload_n C (z_d dtL_law_2 12 rfl) rfl ?_
    refine z_iconst C (z_d dtL_law_2 13 rfl) ?_
    refine z_iadd C (z_d dtL_law_2 14 rfl) ?_
    refine z_sld C S e3 (by omega) (by omega) (z_d dtL_law_2 15 rfl) ?_
    refine z_if_eq (tgt := 269) C (z_d dtL_law_2 16 rfl) (by decide) rg3 (fun h => ?_) (fun h => ?_)
    rotate_left
    · exact absurd hb h
    refine z_iconst C (z_d dtL_law_2 19 rfl) ?_
    refine z_callVF C (z_d dtL_law_2 20 rfl) (k_X8_wall (ad := ae) (σ := τ) (a := a1) (b := a2) (s := 0) okm rg1 rg2 (by decide)) cal_X8_wall gw_10_16 rfl 0 8 rfl rfl rfl rfl hR ⟨rfl, rfl⟩ (by omega) rfl (fun r2 w hM => ?_)
    obtain ⟨τ', rfl, hM⟩ := hM
    refine z_sw ?_
    obtain ⟨er, μ, ν, q1, q2, J2⟩ := j_wall (a := a1) (b := a2) (s := 0) J rg1 rg2 (by decide) hX hM
    refine z_icmp_same (tgt := 1301) C (z_d dtL_law_2 21 rfl) (by decide) er ?_
    rw [← q1, ← q2]
    exact next μ ν _ _ (by omega) (by omega) J2
  · refine z_aload_n C (z_d dtL_law_1 19 rfl) rfl ?_
    refine z_aload_n C (z_d dtL_law_1 20 rfl) rfl ?_
    refine z_iload_n C (z_d dtL_law_1 21 rfl) rfl ?_
    refine z_iconst C (z_d dtL_law_1 22 rfl) ?_
    refine z_iadd C (z_d dtL_law_1 23 rfl) ?_
    refine z_sld C S e1 (by omega) (by omega) (z_d dtL_law_1 24 rfl) ?_
    refine z_aload_n C (z_d dtL_law_1 25 rfl) rfl ?_
    refine z_iload_n C (z_d dtL_law_1 26 rfl) rfl ?_
    refine z_iconst C (z_d dtL_law_1 27 rfl) ?_
    refine z_iadd C (z_d dtL_law_1 28 rfl) ?_
    refine z_sld C S e2 (by omega) (by omega) (z_d dtL_law_1 29 rfl) ?_
    refine z_aload_n C (z_d dtL_law_1 30 rfl) rfl ?_
    refine z_iload_n C (z_d dtL_law_1 31 rfl) rfl ?_
    refine z_iconst C (z_d dtL_law_1 32 rfl) ?_
    refine z_iadd C (z_d dtL_law_1 33 rfl) ?_
    refine z_sld C S e3 (by omega) (by omega) (z_d dtL_law_1 34 rfl) ?_
    refine z_if_eq (tgt := 242) C (z_d dtL_law_1 35 rfl) (by decide) rg3 (fun h => ?_) (fun h => ?_)
    · exact absurd h hb
    refine z_iconst C (z_d dtL_law_1 36 rfl) ?_
    refine z_goto (tgt := 243) C (z_d dtL_law_1 37 rfl) (by decide) ?_
    refine z_callVF C (z_d dtL_law_1 39 rfl) (k_X7_wall (ad := ad) (σ := σ) (a := a1) (b := a2) (s := 1) J.1 rg1 rg2 (by decide)) cal_X7_wall gw_9_14 rfl 0 7 rfl rfl rfl rfl hR ⟨rfl, rfl⟩ (by omega) rfl (fun r w hX => ?_)
    obtain ⟨σ', rfl, hX⟩ := hX
    refine z_sw ?_
    refine z_aload_n C (z_d dtL_law_2 0 rfl) rfl ?_
    refine z_aload_n C (z_d dtL_law_2 1 rfl) rfl ?_
    refine z_iload_n C (z_d dtL_law_2 2 rfl) rfl ?_
    refine z_iconst C (z_d dtL_law_2 3 rfl) ?_
    refine z_iadd C (z_d dtL_law_2 4 rfl) ?_
    refine z_sld C S e1 (by omega) (by omega) (z_d dtL_law_2 5 rfl) ?_
    refine z_aload_n C (z_d dtL_law_2 6 rfl) rfl ?_
    refine z_iload_n C (z_d dtL_law_2 7 rfl) rfl ?_
    refine z_iconst C (z_d dtL_law_2 8 rfl) ?_
    refine z_iadd C (z_d dtL_law_2 9 rfl) ?_
    refine z_sld C S e2 (by omega) (by omega) (z_d dtL_law_2 10 rfl) ?_
    refine z_aload_n C (z_d dtL_law_2 11 rfl) rfl ?_
    refine z_iload_n C (z_d dtL_law_2 12 rfl) rfl ?_
    refine z_iconst C (z_d dtL_law_2 13 rfl) ?_
    refine z_iadd C (z_d dtL_law_2 14 rfl) ?_
    refine z_sld C S e3 (by omega) (by omega) (z_d dtL_law_2 15 rfl) ?_
    refine z_if_eq (tgt := 269) C (z_d dtL_law_2 16 rfl) (by decide) rg3 (fun h => ?_) (fun h => ?_)
    · exact absurd h hb
    refine z_iconst C (z_d dtL_law_2 17 rfl) ?_
    refine z_goto (tgt := 270) C (z_d dtL_law_2 18 rfl) (by decide) ?_
    refine z_callVF C (z_d dtL_law_2 20 rfl) (k_X8_wall (ad := ae) (σ := τ) (a := a1) (b := a2) (s := 1) okm rg1 rg2 (by decide)) cal_X8_wall gw_10_16 rfl 0 8 rfl rfl rfl rfl hR ⟨rfl, rfl⟩ (by omega) rfl (fun r2 w hM => ?_)
    obtain ⟨τ', rfl, hM⟩ := hM
    refine z_sw ?_
    obtain ⟨er, μ, ν, q1, q2, J2⟩ := j_wall (a := a1) (b := a2) (s := 1) J rg1 rg2 (by decide) hX hM
    refine z_icmp_same (tgt := 1301) C (z_d dtL_law_2 21 rfl) (by decide) er ?_
    rw [← q1, ← q2]
    exact next μ ν _ _ (by omega) (by omega) J2
set_option maxRecDepth 100000 in
set_option maxHeartbeats 4000000 in
theorem lw_lift {K : z_KT} {b L : Nat} {xs : Nat → Int} {ad ae : Nat → Nat} {σ τ : zMem} {i : Int} {cells slots : Nat} (C : Fc K cL_law RL 4) (hR : z_Rm K = z_rm 10 402 600000 7302250) (S : z_Sc K b L xs) (hL : L ≤ 3072) (hi : 0 ≤ i ∧ i + 6 ≤ L) (J : zJn σ τ) (hc : cells + 1 ≤ 600000 ∧ slots + 5 ≤ 7302250) (next : ∀ (σ' τ' : zMem) (c s : Nat), c ≤ cells + 1 → s ≤ slots + 5 → zJn σ' τ' → Gd K c s 1301 [some (.ref b), some (.ref (ad 0)), some (.ref (ae 0)), some (.int (zI i))] [] (wM ae (z_t K) τ' ++ wX ad (z_t K) σ')) : Gd K cells slots 278 [some (.ref b), some (.ref (ad 0)), some (.ref (ae 0)), some (.int (zI i))] [] (wM ae (z_t K) τ ++ wX ad (z_t K) σ) := by
  obtain ⟨a1, e1⟩ : ∃ a, xs (i + 1).toNat = a := ⟨_, rfl⟩
  have rg1 := S.rg (i + 1).toNat
  rw [e1] at rg1
  obtain ⟨a2, e2⟩ : ∃ a, xs (i + 2).toNat = a := ⟨_, rfl⟩
  have rg2 := S.rg (i + 2).toNat
  rw [e2] at rg2
  obtain ⟨a3, e3⟩ : ∃ a, xs (i + 3).toNat = a := ⟨_, rfl⟩
  have rg3 := S.rg (i + 3).toNat
  rw [e3] at rg3
  obtain ⟨a4, e4⟩ : ∃ a, xs (i + 4).toNat = a := ⟨_, rfl⟩
  have rg4 := S.rg (i + 4).toNat
  rw [e4] at rg4
  obtain ⟨a5, e5⟩ : ∃ a, xs (i + 5).toNat = a := ⟨_, rfl⟩
  have rg5 := S.rg (i + 5).toNat
  rw [e5] at rg5
  have okm := J.om
  by_cases hb : a3 = 0
  · refine z_aload_n C (z_d dtL_law_2 24 rfl) rfl ?_
    refine z_aload_n C (z_d dtL_law_2 25 rfl) rfl ?_
    refine z_iload_n C (z_d dtL_law_2 26 rfl) rfl ?_
    refine z_iconst C (z_d dtL_law_2 27 rfl) ?_
    refine z_iadd C (z_d dtL_law_2 28 rfl) ?_
    refine z_sld C S e1 (by omega) (by omega) (z_d dtL_law_2 29 rfl) ?_
    refine z_aload_n C (z_d dtL_law_2 30 rfl) rfl ?_
    refine z_iload_n C (z_d dtL_law_2 31 rfl) rfl ?_
    refine z_iconst C (z_d dtL_law_2 32 rfl) ?_
    refine z_iadd C (z_d dtL_law_2 33 rfl) ?_
    refine z_sld C S e2 (by omega) (by omega) (z_d dtL_law_2 34 rfl) ?_
    refine z_aload_n C (z_d dtL_law_2 35 rfl) rfl ?_
    refine z_iload_n C (z_d dtL_law_2 36 rfl) rfl ?_
    refine z_iconst C (z_d dtL_law_2 37 rfl) ?_
    refine z_iadd C (z_d dtL_law_2 38 rfl) ?_
    refine z_sld C S e3 (by omega) (by omega) (z_d dtL_law_2 39 rfl) ?_
    refine z_if_eq (tgt := 301) C (z_d dtL_law_3 0 rfl) (by decide) rg3 (fun h => ?_) (fun h => ?_)
    rotate_left
    · exact absurd hb h
    refine z_iconst C (z_d dtL_law_3 3 rfl) ?_
    refine z_callVF C (z_d dtL_law_3 4 rfl) (k_X7_lift (ad := ad) (σ := σ) (x := a1) (y := a2) (s := 0) J.1 rg1 rg2 (by decide)) cal_X7_lift gw_11_20 rfl 0 7 rfl rfl rfl rfl hR ⟨rfl, rfl⟩ (by omega) rfl (fun r w hX => ?_)
    obtain ⟨σ', rfl, hX⟩ := hX
    refine z_sw ?_
    refine z_aload_n C (z_d dtL_law_3 5 rfl) rfl ?_
    refine z_aload_n C (z_d dtL_law_3 6 rfl) rfl ?_
    refine z_iload_n C (z_d dtL_law_3 7 rfl) rfl ?_
    refine z_iconst C (z_d dtL_law_3 8 rfl) ?_
    refine z_iadd C (z_d dtL_law_3 9 rfl) ?_
    refine z_sld C S e1 (by omega) (by omega) (z_d dtL_law_3 10 rfl) ?_
    refine z_aload_n C (z_d dtL_law_3 11 rfl) rfl ?_
    refine z_iload_n C (z_d dtL_law_3 12 rfl) rfl ?_
    refine z_iconst C (z_d dtL_law_3 13 rfl) ?_
    refine z_iadd C (z_d dtL_law_3 14 rfl) ?_
    refine z_sld C S e2 (by omega) (by omega) (z_d dtL_law_3 15 rfl) ?_
    refine z_aload_n C (z_d dtL_law_3 16 rfl) rfl ?_
    refine z_iload_n C (z_d dtL_law_3 17 rfl) rfl ?_
    refine z_iconst C (z_d dtL_law_3 18 rfl) ?_
    refine z_iadd C (z_d dtL_law_3 19 rfl) ?_
    refine z_sld C S e3 (by omega) (by omega) (z_d dtL_law_3 20 rfl) ?_
    refine z_if_eq (tgt := 328) C (z_d dtL_law_3 21 rfl) (by decide) rg3 (fun h => ?_) (fun h => ?_)
    rotate_left
    · exact absurd hb h
    refine z_iconst C (z_d dtL_law_3 24 rfl) ?_
    refine z_callVF C (z_d dtL_law_3 25 rfl) (k_X8_lift (ad := ae) (σ := τ) (x := a1) (y := a2) (s := 0) okm rg1 rg2 (by decide)) cal_X8_lift gw_12_8 rfl 0 8 rfl rfl rfl rfl hR ⟨rfl, rfl⟩ (by omega) rfl (fun r2 w hM => ?_)
    obtain ⟨τ', rfl, hM⟩ := hM
    refine z_sw ?_
    obtain ⟨er, μ, ν, q1, q2, J2⟩ := j_lift (x := a1) (y := a2) (s := 0) J rg1 rg2 (by decide) hX hM
    refine z_icmp_same (tgt := 1301) C (z_d dtL_law_3 26 rfl) (by decide) er ?_
    rw [← q1, ← q2]
    exact next μ ν _ _ (by omega) (by omega) J2
  · refine z_aload_n C (z_d dtL_law_2 24 rfl) rfl ?_
    refine z_aload_n C (z_d dtL_law_2 25 rfl) rfl ?_
    refine z_iload_n C (z_d dtL_law_2 26 rfl) rfl ?_
    refine z_iconst C (z_d dtL_law_2 27 rfl) ?_
    refine z_iadd C (z_d dtL_law_2 28 rfl) ?_
    refine z_sld C S e1 (by omega) (by omega) (z_d dtL_law_2 29 rfl) ?_
    refine z_aload_n C (z_d dtL_law_2 30 rfl) rfl ?_
    refine z_iload_n C (z_d dtL_law_2 31 rfl) rfl ?_
    refine z_iconst C (z_d dtL_law_2 32 rfl) ?_
    refine z_iadd C (z_d dtL_law_2 33 rfl) ?_
    refine z_sld C S e2 (by omega) (by omega) (z_d dtL_law_2 34 rfl) ?_
    refine z_aload_n C (z_d dtL_law_2 35 rfl) rfl ?_
    refine z_iload_n C (z_d dtL_law_2 36 rfl) rfl ?_
    refine z_iconst C (z_d dtL_law_2 37 rfl) ?_
    refine z_iadd C (z_d dtL_law_2 38 rfl) ?_
    refine z_sld C S e3 (by omega) (by omega) (z_d dtL_law_2 39 rfl) ?_
    refine z_if_eq (tgt := 301) C (z_d dtL_law_3 0 rfl) (by decide) rg3 (fun h => ?_) (fun h => ?_)
    · exact absurd h hb
    refine z_iconst C (z_d dtL_law_3 1 rfl) ?_
    refine z_goto (tgt := 302) C (z_d dtL_law_3 2 rfl) (by decide) ?_
    refine z_callVF C (z_d dtL_law_3 4 rfl) (k_X7_lift (ad := ad) (σ := σ) (x := a1) (y := a2) (s := 1) J.1 rg1 rg2 (by decide)) cal_X7_lift gw_11_20 rfl 0 7 rfl rfl rfl rfl hR ⟨rfl, rfl⟩ (by omega) rfl (fun r w hX => ?_)
    obtain ⟨σ', rfl, hX⟩ := hX
    refine z_sw ?_
    refine z_aload_n C (z_d dtL_law_3 5 rfl) rfl ?_
    refine z_aload_n C (z_d dtL_law_3 6 rfl) rfl ?_
    refine z_iload_n C (z_d dtL_law_3 7 rfl) rfl ?_
    refine z_iconst C (z_d dtL_law_3 8 rfl) ?_
    refine z_iadd C (z_d dtL_law_3 9 rfl) ?_
    refine z_sld C S e1 (by omega) (by omega) (z_d dtL_law_3 10 rfl) ?_
    refine z_aload_n C (z_d dtL_law_3 11 rfl) rfl ?_
    refine z_iload_n C (z_d dtL_law_3 12 rfl) rfl ?_
    refine z_iconst C (z_d dtL_law_3 13 rfl) ?_
    refine z_iadd C (z_d dtL_law_3 14 rfl) ?_
    refine z_sld C S e2 (by omega) (by omega) (z_d dtL_law_3 15 rfl) ?_
    refine z_aload_n C (z_d dtL_law_3 16 rfl) rfl ?_
    refine z_iload_n C (z_d dtL_law_3 17 rfl) rfl ?_
    refine z_iconst C (z_d dtL_law_3 18 rfl) ?_
    refine z_iadd C (z_d dtL_law_3 19 rfl) ?_
    refine z_sld C S e3 (by omega) (by omega) (z_d dtL_law_3 20 rfl) ?_
    refine z_if_eq (tgt := 328) C (z_d dtL_law_3 21 rfl) (by decide) rg3 (fun h => ?_) (fun h => ?_)
    · exact absurd h hb
    refine z_iconst C (z_d dtL_law_3 22 rfl) ?_
    refine z_goto (tgt := 329) C (z_d dtL_law_3 23 rfl) (by decide) ?_
    refine z_callVF C (z_d dtL_law_3 25 rfl) (k_X8_lift (ad := ae) (σ := τ) (x := a1) (y := a2) (s := 1) okm rg1 rg2 (by decide)) cal_X8_lift gw_12_8 rfl 0 8 rfl rfl rfl rfl hR ⟨rfl, rfl⟩ (by omega) rfl (fun r2 w hM => ?_)
    obtain ⟨τ', rfl, hM⟩ := hM
    refine z_sw ?_
    obtain ⟨er, μ, ν, q1, q2, J2⟩ := j_lift (x := a1) (y := a2) (s := 1) J rg1 rg2 (by decide) hX hM
    refine z_icmp_same (tgt := 1301) C (z_d dtL_law_3 26 rfl) (by decide) er ?_
    rw [← q1, ← q2]
    exact next μ ν _ _ (by omega) (by omega) J2
set_option maxRecDepth 100000 in
set_option maxHeartbeats 4000000 in
theorem lw_stay {K : z_KT} {b L : Nat} {xs : Nat → Int} {ad ae : Nat → Nat} {σ τ : zMem} {i : Int} {cells slots : Nat} (C : Fc K cL_law RL 4) (hR : z_Rm K = z_rm 10 402 600000 7302250) (S : z_Sc K b L xs) (hL : L ≤ 3072) (hi : 0 ≤ i ∧ i + 6 ≤ L) (J : zJn σ τ) (hc : cells + 1 ≤ 600000 ∧ slots + 5 ≤ 7302250) (next : ∀ (σ' τ' : zMem) (c s : Nat), c ≤ cells + 1 → s ≤ slots + 5 → zJn σ' τ' → Gd K c s 1301 [some (.ref b), some (.ref (ad 0)), some (.ref (ae 0)), some (.int (zI i))] [] (wM ae (z_t K) τ' ++ wX ad (z_t K) σ')) : Gd K cells slots 337 [some (.ref b), some (.ref (ad 0)), some (.ref (ae 0)), some (.int (zI i))] [] (wM ae (z_t K) τ ++ wX ad (z_t K) σ) := by
  obtain ⟨a1, e1⟩ : ∃ a, xs (i + 1).toNat = a := ⟨_, rfl⟩
  have rg1 := S.rg (i + 1).toNat
  rw [e1] at rg1
  obtain ⟨a2, e2⟩ : ∃ a, xs (i + 2).toNat = a := ⟨_, rfl⟩
  have rg2 := S.rg (i + 2).toNat
  rw [e2] at rg2
  obtain ⟨a3, e3⟩ : ∃ a, xs (i + 3).toNat = a := ⟨_, rfl⟩
  have rg3 := S.rg (i + 3).toNat
  rw [e3] at rg3
  obtain ⟨a4, e4⟩ : ∃ a, xs (i + 4).toNat = a := ⟨_, rfl⟩
  have rg4 := S.rg (i + 4).toNat
  rw [e4] at rg4
  obtain ⟨a5, e5⟩ : ∃ a, xs (i + 5).toNat = a := ⟨_, rfl⟩
  have rg5 := S.rg (i + 5).toNat
  rw [e5] at rg5
  have okm := J.om
  refine z_aload_n C (z_d dtL_law_3 29 rfl) rfl ?_
  refine z_aload_n C (z_d dtL_law_3 30 rfl) rfl ?_
  refine z_iload_n C (z_d dtL_law_3 31 rfl) rfl ?_
  refine z_iconst C (z_d dtL_law_3 32 rfl) ?_
  refine z_iadd C (z_d dtL_law_3 33 rfl) ?_
  refine z_sld C S e1 (by omega) (by omega) (z_d dtL_law_3 34 rfl) ?_
  refine z_callVF C (z_d dtL_law_3 35 rfl) (k_X7_stay (ad := ad) (σ := σ) (s := a1) J.1 rg1) cal_X7_stay gw_12_12 rfl 0 7 rfl rfl rfl rfl hR ⟨rfl, rfl⟩ (by omega) rfl (fun r w hX => ?_)
  obtain ⟨σ', rfl, hX⟩ := hX
  refine z_sw ?_
  refine z_aload_n C (z_d dtL_law_3 36 rfl) rfl ?_
  refine z_aload_n C (z_d dtL_law_3 37 rfl) rfl ?_
  refine z_iload_n C (z_d dtL_law_3 38 rfl) rfl ?_
  refine z_iconst C (z_d dtL_law_3 39 rfl) ?_
  refine z_iadd C (z_d dtL_law_4 0 rfl) ?_
  refine z_sld C S e1 (by omega) (by omega) (z_d dtL_law_4 1 rfl) ?_
  refine z_callVF C (z_d dtL_law_4 2 rfl) (k_X8_stay (ad := ae) (σ := τ) (s := a1) okm rg1) cal_X8_stay gw_12_20 rfl 0 8 rfl rfl rfl rfl hR ⟨rfl, rfl⟩ (by omega) rfl (fun r2 w hM => ?_)
  obtain ⟨τ', rfl, hM⟩ := hM
  refine z_sw ?_
  obtain ⟨er, μ, ν, q1, q2, J2⟩ := j_stay (s := a1) J rg1 hX hM
  refine z_icmp_same (tgt := 1301) C (z_d dtL_law_4 3 rfl) (by decide) er ?_
  rw [← q1, ← q2]
  exact next μ ν _ _ (by omega) (by omega) J2
set_option maxRecDepth 100000 in
set_option maxHeartbeats 4000000 in
theorem lw_step {K : z_KT} {b L : Nat} {xs : Nat → Int} {ad ae : Nat → Nat} {σ τ : zMem} {i : Int} {cells slots : Nat} (C : Fc K cL_law RL 4) (hR : z_Rm K = z_rm 10 402 600000 7302250) (S : z_Sc K b L xs) (hL : L ≤ 3072) (hi : 0 ≤ i ∧ i + 6 ≤ L) (J : zJn σ τ) (hc : cells + 1 ≤ 600000 ∧ slots + 5 ≤ 7302250) (next : ∀ (σ' τ' : zMem) (c s : Nat), c ≤ cells + 1 → s ≤ slots + 5 → zJn σ' τ' → Gd K c s 1301 [some (.ref b), some (.ref (ad 0)), some (.ref (ae 0)), some (.int (zI i))] [] (wM ae (z_t K) τ' ++ wX ad (z_t K) σ')) : Gd K cells slots 360 [some (.ref b), some (.ref (ad 0)), some (.ref (ae 0)), some (.int (zI i))] [] (wM ae (z_t K) τ ++ wX ad (z_t K) σ) := by
  obtain ⟨a1, e1⟩ : ∃ a, xs (i + 1).toNat = a := ⟨_, rfl⟩
  have rg1 := S.rg (i + 1).toNat
  rw [e1] at rg1
  obtain ⟨a2, e2⟩ : ∃ a, xs (i + 2).toNat = a := ⟨_, rfl⟩
  have rg2 := S.rg (i + 2).toNat
  rw [e2] at rg2
  obtain ⟨a3, e3⟩ : ∃ a, xs (i + 3).toNat = a := ⟨_, rfl⟩
  have rg3 := S.rg (i + 3).toNat
  rw [e3] at rg3
  obtain ⟨a4, e4⟩ : ∃ a, xs (i + 4).toNat = a := ⟨_, rfl⟩
  have rg4 := S.rg (i + 4).toNat
  rw [e4] at rg4
  obtain ⟨a5, e5⟩ : ∃ a, xs (i + 5).toNat = a := ⟨_, rfl⟩
  have rg5 := S.rg (i + 5).toNat
  rw [e5] at rg5
  have okm := J.om
  refine z_aload_n C (z_d dtL_law_4 6 rfl) rfl ?_
  refine z_aload_n C (z_d dtL_law_4 7 rfl) rfl ?_
  refine z_iload_n C (z_d dtL_law_4 8 rfl) rfl ?_
  refine z_iconst C (z_d dtL_law_4 9 rfl) ?_
  refine z_iadd C (z_d dtL_law_4 10 rfl) ?_
  refine z_sld C S e1 (by omega) (by omega) (z_d dtL_law_4 11 rfl) ?_
  refine z_aload_n C (z_d dtL_law_4 12 rfl) rfl ?_
  refine z_iload_n C (z_d dtL_law_4 13 rfl) rfl ?_
  refine z_iconst C (z_d dtL_law_4 14 rfl) ?_
  refine z_iadd C (z_d dtL_law_4 15 rfl) ?_
  refine z_sld C S e2 (by omega) (by omega) (z_d dtL_law_4 16 rfl) ?_
  refine z_callVF C (z_d dtL_law_4 17 rfl) (k_X7_step (ad := ad) (σ := σ) (a := a1) (b := a2) J.1 rg1 rg2) cal_X7_step gw_13_0 rfl 0 7 rfl rfl rfl rfl hR ⟨rfl, rfl⟩ (by omega) rfl (fun r w hX => ?_)
  obtain ⟨rfl, hX⟩ := hX
  refine z_sw ?_
  refine z_aload_n C (z_d dtL_law_4 18 rfl) rfl ?_
  refine z_aload_n C (z_d dtL_law_4 19 rfl) rfl ?_
  refine z_iload_n C (z_d dtL_law_4 20 rfl) rfl ?_
  refine z_iconst C (z_d dtL_law_4 21 rfl) ?_
  refine z_iadd C (z_d dtL_law_4 22 rfl) ?_
  refine z_sld C S e1 (by omega) (by omega) (z_d dtL_law_4 23 rfl) ?_
  refine z_aload_n C (z_d dtL_law_4 24 rfl) rfl ?_
  refine z_iload_n C (z_d dtL_law_4 25 rfl) rfl ?_
  refine z_iconst C (z_d dtL_law_4 26 rfl) ?_
  refine z_iadd C (z_d dtL_law_4 27 rfl) ?_
  refine z_sld C S e2 (by omega) (by omega) (z_d dtL_law_4 28 rfl) ?_
  refine z_callVF C (z_d dtL_law_4 29 rfl) (k_X8_step (ad := ae) (σ := τ) (a := a1) (b := a2) okm rg1 rg2) cal_X8_step gw_13_16 rfl 0 8 rfl rfl rfl rfl hR ⟨rfl, rfl⟩ (by omega) rfl (fun r2 w hM => ?_)
  obtain ⟨rfl, hM⟩ := hM
  refine z_sw ?_
  have er := j_step (a := a1) (b := a2) J rg1 rg2 hX hM
  refine z_icmp_same (tgt := 1301) C (z_d dtL_law_4 30 rfl) (by decide) er ?_
  exact next _ _ _ _ (by omega) (by omega) J
set_option maxRecDepth 100000 in
set_option maxHeartbeats 4000000 in
theorem lw_far {K : z_KT} {b L : Nat} {xs : Nat → Int} {ad ae : Nat → Nat} {σ τ : zMem} {i : Int} {cells slots : Nat} (C : Fc K cL_law RL 4) (hR : z_Rm K = z_rm 10 402 600000 7302250) (S : z_Sc K b L xs) (hL : L ≤ 3072) (hi : 0 ≤ i ∧ i + 6 ≤ L) (J : zJn σ τ) (hc : cells + 1 ≤ 600000 ∧ slots + 5 ≤ 7302250) (next : ∀ (σ' τ' : zMem) (c s : Nat), c ≤ cells + 1 → s ≤ slots + 5 → zJn σ' τ' → Gd K c s 1301 [some (.ref b), some (.ref (ad 0)), some (.ref (ae 0)), some (.int (zI i))] [] (wM ae (z_t K) τ' ++ wX ad (z_t K) σ')) : Gd K cells slots 393 [some (.ref b), some (.ref (ad 0)), some (.ref (ae 0)), some (.int (zI i))] [] (wM ae (z_t K) τ ++ wX ad (z_t K) σ) := by
  obtain ⟨a1, e1⟩ : ∃ a, xs (i + 1).toNat = a := ⟨_, rfl⟩
  have rg1 := S.rg (i + 1).toNat
  rw [e1] at rg1
  obtain ⟨a2, e2⟩ : ∃ a, xs (i + 2).toNat = a := ⟨_, rfl⟩
  have rg2 := S.rg (i + 2).toNat
  rw [e2] at rg2
  obtain ⟨a3, e3⟩ : ∃ a, xs (i + 3).toNat = a := ⟨_, rfl⟩
  have rg3 := S.rg (i + 3).toNat
  rw [e3] at rg3
  obtain ⟨a4, e4⟩ : ∃ a, xs (i + 4).toNat = a := ⟨_, rfl⟩
  have rg4 := S.rg (i + 4).toNat
  rw [e4] at rg4
  obtain ⟨a5, e5⟩ : ∃ a, xs (i + 5).toNat = a := ⟨_, rfl⟩
  have rg5 := S.rg (i + 5).toNat
  rw [e5] at rg5
  have okm := J.om
  refine z_aload_n C (z_d dtL_law_4 33 rfl) rfl ?_
  refine z_aload_n C (z_d dtL_law_4 34 rfl) rfl ?_
  refine z_iload_n C (z_d dtL_law_4 35 rfl) rfl ?_
  refine z_iconst C (z_d dtL_law_4 36 rfl) ?_
  refine z_iadd C (z_d dtL_law_4 37 rfl) ?_
  refine z_sld C S e1 (by omega) (by omega) (z_d dtL_law_4 38 rfl) ?_
  refine z_aload_n C (z_d dtL_law_4 39 rfl) rfl ?_
  refine z_iload_n C (z_d dtL_law_5 0 rfl) rfl ?_
  refine z_iconst C (z_d dtL_law_5 1 rfl) ?_
  refine z_iadd C (z_d dtL_law_5 2 rfl) ?_
  refine z_sld C S e2 (by omega) (by omega) (z_d dtL_law_5 3 rfl) ?_
  refine z_callVF C (z_d dtL_law_5 4 rfl) (k_X7_far (ad := ad) (σ := σ) (a := a1) (b := a2) J.1 rg1 rg2) cal_X7_far gw_14_0 rfl 0 7 rfl rfl rfl rfl hR ⟨rfl, rfl⟩ (by omega) rfl (fun r w hX => ?_)
  obtain ⟨σ', rfl, hX⟩ := hX
  refine z_sw ?_
  refine z_aload_n C (z_d dtL_law_5 5 rfl) rfl ?_
  refine z_aload_n C (z_d dtL_law_5 6 rfl) rfl ?_
  refine z_iload_n C (z_d dtL_law_5 7 rfl) rfl ?_
  refine z_iconst C (z_d dtL_law_5 8 rfl) ?_
  refine z_iadd C (z_d dtL_law_5 9 rfl) ?_
  refine z_sld C S e1 (by omega) (by omega) (z_d dtL_law_5 10 rfl) ?_
  refine z_aload_n C (z_d dtL_law_5 11 rfl) rfl ?_
  refine z_iload_n C (z_d dtL_law_5 12 rfl) rfl ?_
  refine z_iconst C (z_d dtL_law_5 13 rfl) ?_
  refine z_iadd C (z_d dtL_law_5 14 rfl) ?_
  refine z_sld C S e2 (by omega) (by omega) (z_d dtL_law_5 15 rfl) ?_
  refine z_callVF C (z_d dtL_law_5 16 rfl) (k_X8_far (ad := ae) (σ := τ) (a := a1) (b := a2) okm rg1 rg2) cal_X8_far gw_14_10 rfl 0 8 rfl rfl rfl rfl hR ⟨rfl, rfl⟩ (by omega) rfl (fun r2 w hM => ?_)
  obtain ⟨τ', rfl, hM⟩ := hM
  refine z_sw ?_
  obtain ⟨er, μ, ν, q1, q2, J2⟩ := j_far (a := a1) (b := a2) J rg1 rg2 hX hM
  refine z_icmp_same (tgt := 1301) C (z_d dtL_law_5 17 rfl) (by decide) er ?_
  rw [← q1, ← q2]
  exact next μ ν _ _ (by omega) (by omega) J2
set_option maxRecDepth 100000 in
set_option maxHeartbeats 4000000 in
theorem lw_dead {K : z_KT} {b L : Nat} {xs : Nat → Int} {ad ae : Nat → Nat} {σ τ : zMem} {i : Int} {cells slots : Nat} (C : Fc K cL_law RL 4) (hR : z_Rm K = z_rm 10 402 600000 7302250) (S : z_Sc K b L xs) (hL : L ≤ 3072) (hi : 0 ≤ i ∧ i + 6 ≤ L) (J : zJn σ τ) (hc : cells + 1 ≤ 600000 ∧ slots + 5 ≤ 7302250) (next : ∀ (σ' τ' : zMem) (c s : Nat), c ≤ cells + 1 → s ≤ slots + 5 → zJn σ' τ' → Gd K c s 1301 [some (.ref b), some (.ref (ad 0)), some (.ref (ae 0)), some (.int (zI i))] [] (wM ae (z_t K) τ' ++ wX ad (z_t K) σ')) : Gd K cells slots 426 [some (.ref b), some (.ref (ad 0)), some (.ref (ae 0)), some (.int (zI i))] [] (wM ae (z_t K) τ ++ wX ad (z_t K) σ) := by
  obtain ⟨a1, e1⟩ : ∃ a, xs (i + 1).toNat = a := ⟨_, rfl⟩
  have rg1 := S.rg (i + 1).toNat
  rw [e1] at rg1
  obtain ⟨a2, e2⟩ : ∃ a, xs (i + 2).toNat = a := ⟨_, rfl⟩
  have rg2 := S.rg (i + 2).toNat
  rw [e2] at rg2
  obtain ⟨a3, e3⟩ : ∃ a, xs (i + 3).toNat = a := ⟨_, rfl⟩
  have rg3 := S.rg (i + 3).toNat
  rw [e3] at rg3
  obtain ⟨a4, e4⟩ : ∃ a, xs (i + 4).toNat = a := ⟨_, rfl⟩
  have rg4 := S.rg (i + 4).toNat
  rw [e4] at rg4
  obtain ⟨a5, e5⟩ : ∃ a, xs (i + 5).toNat = a := ⟨_, rfl⟩
  have rg5 := S.rg (i + 5).toNat
  rw [e5] at rg5
  have okm := J.om
  by_cases hb : a2 = 0
  · refine z_aload_n C (z_d dtL_law_5 20 rfl) rfl ?_
    refine z_aload_n C (z_d dtL_law_5 21 rfl) rfl ?_
    refine z_iload_n C (z_d dtL_law_5 22 rfl) rfl ?_
    refine z_iconst C (z_d dtL_law_5 23 rfl) ?_
    refine z_iadd C (z_d dtL_law_5 24 rfl) ?_
    refine z_sld C S e1 (by omega) (by omega) (z_d dtL_law_5 25 rfl) ?_
    refine z_aload_n C (z_d dtL_law_5 26 rfl) rfl ?_
    refine z_iload_n C (z_d dtL_law_5 27 rfl) rfl ?_
    refine z_iconst C (z_d dtL_law_5 28 rfl) ?_
    refine z_iadd C (z_d dtL_law_5 29 rfl) ?_
    refine z_sld C S e2 (by omega) (by omega) (z_d dtL_law_5 30 rfl) ?_
    refine z_if_eq (tgt := 444) C (z_d dtL_law_5 31 rfl) (by decide) rg2 (fun h => ?_) (fun h => ?_)
    rotate_left
    · exact absurd hb h
    refine z_iconst C (z_d dtL_law_5 34 rfl) ?_
    refine z_callVF C (z_d dtL_law_5 35 rfl) (k_X7_dead (ad := ad) (σ := σ) (k := a1) (s := 0) J.1 rg1 (by decide)) cal_X7_dead gw_14_14 rfl 0 7 rfl rfl rfl rfl hR ⟨rfl, rfl⟩ (by omega) rfl (fun r w hX => ?_)
    obtain ⟨σ', rfl, hX⟩ := hX
    refine z_sw ?_
    refine z_aload_n C (z_d dtL_law_5 36 rfl) rfl ?_
    refine z_aload_n C (z_d dtL_law_5 37 rfl) rfl ?_
    refine z_iload_n C (z_d dtL_law_5 38 rfl) rfl ?_
    refine z_iconst C (z_d dtL_law_5 39 rfl) ?_
    refine z_iadd C (z_d dtL_law_6 0 rfl) ?_
    refine z_sld C S e1 (by omega) (by omega) (z_d dtL_law_6 1 rfl) ?_
    refine z_aload_n C (z_d dtL_law_6 2 rfl) rfl ?_
    refine z_iload_n C (z_d dtL_law_6 3 rfl) rfl ?_
    refine z_iconst C (z_d dtL_law_6 4 rfl) ?_
    refine z_iadd C (z_d dtL_law_6 5 rfl) ?_
    refine z_sld C S e2 (by omega) (by omega) (z_d dtL_law_6 6 rfl) ?_
    refine z_if_eq (tgt := 466) C (z_d dtL_law_6 7 rfl) (by decide) rg2 (fun h => ?_) (fun h => ?_)
    rotate_left
    · exact absurd hb h
    refine z_iconst C (z_d dtL_law_6 10 rfl) ?_
    refine z_callVF C (z_d dtL_law_6 11 rfl) (k_X8_dead (ad := ae) (σ := τ) (k := a1) (s := 0) okm rg1 (by decide)) cal_X8_dead gw_15_1 rfl 0 8 rfl rfl rfl rfl hR ⟨rfl, rfl⟩ (by omega) rfl (fun r2 w hM => ?_)
    obtain ⟨τ', rfl, hM⟩ := hM
    refine z_sw ?_
    obtain ⟨er, μ, ν, q1, q2, J2⟩ := j_dead (k := a1) (s := 0) J rg1 (by decide) hX hM
    refine z_icmp_same (tgt := 1301) C (z_d dtL_law_6 12 rfl) (by decide) er ?_
    rw [← q1, ← q2]
    exact next μ ν _ _ (by omega) (by omega) J2
  · refine z_aload_n C (z_d dtL_law_5 20 rfl) rfl ?_
    refine z_aload_n C (z_d dtL_law_5 21 rfl) rfl ?_
    refine z_iload_n C (z_d dtL_law_5 22 rfl) rfl ?_
    refine z_iconst C (z_d dtL_law_5 23 rfl) ?_
    refine z_iadd C (z_d dtL_law_5 24 rfl) ?_
    refine z_sld C S e1 (by omega) (by omega) (z_d dtL_law_5 25 rfl) ?_
    refine z_aload_n C (z_d dtL_law_5 26 rfl) rfl ?_
    refine z_iload_n C (z_d dtL_law_5 27 rfl) rfl ?_
    refine z_iconst C (z_d dtL_law_5 28 rfl) ?_
    refine z_iadd C (z_d dtL_law_5 29 rfl) ?_
    refine z_sld C S e2 (by omega) (by omega) (z_d dtL_law_5 30 rfl) ?_
    refine z_if_eq (tgt := 444) C (z_d dtL_law_5 31 rfl) (by decide) rg2 (fun h => ?_) (fun h => ?_)
    · exact absurd h hb
    refine z_iconst C (z_d dtL_law_5 32 rfl) ?_
    refine z_goto (tgt := 445) C (z_d dtL_law_5 33 rfl) (by decide) ?_
    refine z_callVF C (z_d dtL_law_5 35 rfl) (k_X7_dead (ad := ad) (σ := σ) (k := a1) (s := 1) J.1 rg1 (by decide)) cal_X7_dead gw_14_14 rfl 0 7 rfl rfl rfl rfl hR ⟨rfl, rfl⟩ (by omega) rfl (fun r w hX => ?_)
    obtain ⟨σ', rfl, hX⟩ := hX
    refine z_sw ?_
    refine z_aload_n C (z_d dtL_law_5 36 rfl) rfl ?_
    refine z_aload_n C (z_d dtL_law_5 37 rfl) rfl ?_
    refine z_iload_n C (z_d dtL_law_5 38 rfl) rfl ?_
    refine z_iconst C (z_d dtL_law_5 39 rfl) ?_
    refine z_iadd C (z_d dtL_law_6 0 rfl) ?_
    refine z_sld C S e1 (by omega) (by omega) (z_d dtL_law_6 1 rfl) ?_
    refine z_aload_n C (z_d dtL_law_6 2 rfl) rfl ?_
    refine z_iload_n C (z_d dtL_law_6 3 rfl) rfl ?_
    refine z_iconst C (z_d dtL_law_6 4 rfl) ?_
    refine z_iadd C (z_d dtL_law_6 5 rfl) ?_
    refine z_sld C S e2 (by omega) (by omega) (z_d dtL_law_6 6 rfl) ?_
    refine z_if_eq (tgt := 466) C (z_d dtL_law_6 7 rfl) (by decide) rg2 (fun h => ?_) (fun h => ?_)
    · exact absurd h hb
    refine z_iconst C (z_d dtL_law_6 8 rfl) ?_
    refine z_goto (tgt := 467) C (z_d dtL_law_6 9 rfl) (by decide) ?_
    refine z_callVF C (z_d dtL_law_6 11 rfl) (k_X8_dead (ad := ae) (σ := τ) (k := a1) (s := 1) okm rg1 (by decide)) cal_X8_dead gw_15_1 rfl 0 8 rfl rfl rfl rfl hR ⟨rfl, rfl⟩ (by omega) rfl (fun r2 w hM => ?_)
    obtain ⟨τ', rfl, hM⟩ := hM
    refine z_sw ?_
    obtain ⟨er, μ, ν, q1, q2, J2⟩ := j_dead (k := a1) (s := 1) J rg1 (by decide) hX hM
    refine z_icmp_same (tgt := 1301) C (z_d dtL_law_6 12 rfl) (by decide) er ?_
    rw [← q1, ← q2]
    exact next μ ν _ _ (by omega) (by omega) J2
set_option maxRecDepth 100000 in
set_option maxHeartbeats 4000000 in
theorem lw_survey {K : z_KT} {b L : Nat} {xs : Nat → Int} {ad ae : Nat → Nat} {σ τ : zMem} {i : Int} {cells slots : Nat} (C : Fc K cL_law RL 4) (hR : z_Rm K = z_rm 10 402 600000 7302250) (S : z_Sc K b L xs) (hL : L ≤ 3072) (hi : 0 ≤ i ∧ i + 6 ≤ L) (J : zJn σ τ) (hc : cells + 1 ≤ 600000 ∧ slots + 5 ≤ 7302250) (next : ∀ (σ' τ' : zMem) (c s : Nat), c ≤ cells + 1 → s ≤ slots + 5 → zJn σ' τ' → Gd K c s 1301 [some (.ref b), some (.ref (ad 0)), some (.ref (ae 0)), some (.int (zI i))] [] (wM ae (z_t K) τ' ++ wX ad (z_t K) σ')) : Gd K cells slots 475 [some (.ref b), some (.ref (ad 0)), some (.ref (ae 0)), some (.int (zI i))] [] (wM ae (z_t K) τ ++ wX ad (z_t K) σ) := by
  obtain ⟨a1, e1⟩ : ∃ a, xs (i + 1).toNat = a := ⟨_, rfl⟩
  have rg1 := S.rg (i + 1).toNat
  rw [e1] at rg1
  obtain ⟨a2, e2⟩ : ∃ a, xs (i + 2).toNat = a := ⟨_, rfl⟩
  have rg2 := S.rg (i + 2).toNat
  rw [e2] at rg2
  obtain ⟨a3, e3⟩ : ∃ a, xs (i + 3).toNat = a := ⟨_, rfl⟩
  have rg3 := S.rg (i + 3).toNat
  rw [e3] at rg3
  obtain ⟨a4, e4⟩ : ∃ a, xs (i + 4).toNat = a := ⟨_, rfl⟩
  have rg4 := S.rg (i + 4).toNat
  rw [e4] at rg4
  obtain ⟨a5, e5⟩ : ∃ a, xs (i + 5).toNat = a := ⟨_, rfl⟩
  have rg5 := S.rg (i + 5).toNat
  rw [e5] at rg5
  have okm := J.om
  refine z_aload_n C (z_d dtL_law_6 15 rfl) rfl ?_
  refine z_aload_n C (z_d dtL_law_6 16 rfl) rfl ?_
  refine z_iload_n C (z_d dtL_law_6 17 rfl) rfl ?_
  refine z_iconst C (z_d dtL_law_6 18 rfl) ?_
  refine z_iadd C (z_d dtL_law_6 19 rfl) ?_
  refine z_sld C S e1 (by omega) (by omega) (z_d dtL_law_6 20 rfl) ?_
  refine z_aload_n C (z_d dtL_law_6 21 rfl) rfl ?_
  refine z_iload_n C (z_d dtL_law_6 22 rfl) rfl ?_
  refine z_iconst C (z_d dtL_law_6 23 rfl) ?_
  refine z_iadd C (z_d dtL_law_6 24 rfl) ?_
  refine z_sld C S e2 (by omega) (by omega) (z_d dtL_law_6 25 rfl) ?_
  refine z_aload_n C (z_d dtL_law_6 26 rfl) rfl ?_
  refine z_iload_n C (z_d dtL_law_6 27 rfl) rfl ?_
  refine z_iconst C (z_d dtL_law_6 28 rfl) ?_
  refine z_iadd C (z_d dtL_law_6 29 rfl) ?_
  refine z_sld C S e3 (by omega) (by omega) (z_d dtL_law_6 30 rfl) ?_
  refine z_callVF C (z_d dtL_law_6 31 rfl) (k_X7_survey (ad := ad) (σ := σ) (z := a1) (row := a2) (c := a3) J.1 rg1 rg2 rg3) cal_X7_survey gw_15_5 rfl 0 7 rfl rfl rfl rfl hR ⟨rfl, rfl⟩ (by omega) rfl (fun r w hX => ?_)
  obtain ⟨σ', rfl, hX⟩ := hX
  refine z_sw ?_
  refine z_aload_n C (z_d dtL_law_6 32 rfl) rfl ?_
  refine z_aload_n C (z_d dtL_law_6 33 rfl) rfl ?_
  refine z_iload_n C (z_d dtL_law_6 34 rfl) rfl ?_
  refine z_iconst C (z_d dtL_law_6 35 rfl) ?_
  refine z_iadd C (z_d dtL_law_6 36 rfl) ?_
  refine z_sld C S e1 (by omega) (by omega) (z_d dtL_law_6 37 rfl) ?_
  refine z_aload_n C (z_d dtL_law_6 38 rfl) rfl ?_
  refine z_iload_n C (z_d dtL_law_6 39 rfl) rfl ?_
  refine z_iconst C (z_d dtL_law_7 0 rfl) ?_
  refine z_iadd C (z_d dtL_law_7 1 rfl) ?_
  refine z_sld C S e2 (by omega) (by omega) (z_d dtL_law_7 2 rfl) ?_
  refine z_aload_n C (z_d dtL_law_7 3 rfl) rfl ?_
  refine z_iload_n C (z_d dtL_law_7 4 rfl) rfl ?_
  refine z_iconst C (z_d dtL_law_7 5 rfl) ?_
  refine z_iadd C (z_d dtL_law_7 6 rfl) ?_
  refine z_sld C S e3 (by omega) (by omega) (z_d dtL_law_7 7 rfl) ?_
  refine z_callVF C (z_d dtL_law_7 8 rfl) (k_X8_survey (ad := ae) (σ := τ) (z := a1) (row := a2) (c := a3) okm rg1 rg2 rg3) cal_X8_survey gw_16_12 rfl 0 8 rfl rfl rfl rfl hR ⟨rfl, rfl⟩ (by omega) rfl (fun r2 w hM => ?_)
  obtain ⟨τ', rfl, hM⟩ := hM
  refine z_sw ?_
  obtain ⟨er, μ, ν, q1, q2, J2⟩ := j_survey (z := a1) (row := a2) (c := a3) J rg1 rg2 rg3 hX hM
  refine z_icmp_same (tgt := 1301) C (z_d dtL_law_7 9 rfl) (by decide) er ?_
  rw [← q1, ← q2]
  exact next μ ν _ _ (by omega) (by omega) J2
set_option maxRecDepth 100000 in
set_option maxHeartbeats 4000000 in
theorem lw_weight {K : z_KT} {b L : Nat} {xs : Nat → Int} {ad ae : Nat → Nat} {σ τ : zMem} {i : Int} {cells slots : Nat} (C : Fc K cL_law RL 4) (hR : z_Rm K = z_rm 10 402 600000 7302250) (S : z_Sc K b L xs) (hL : L ≤ 3072) (hi : 0 ≤ i ∧ i + 6 ≤ L) (J : zJn σ τ) (hc : cells + 1 ≤ 600000 ∧ slots + 5 ≤ 7302250) (next : ∀ (σ' τ' : zMem) (c s : Nat), c ≤ cells + 1 → s ≤ slots + 5 → zJn σ' τ' → Gd K c s 1301 [some (.ref b), some (.ref (ad 0)), some (.ref (ae 0)), some (.int (zI i))] [] (wM ae (z_t K) τ' ++ wX ad (z_t K) σ')) : Gd K cells slots 518 [some (.ref b), some (.ref (ad 0)), some (.ref (ae 0)), some (.int (zI i))] [] (wM ae (z_t K) τ ++ wX ad (z_t K) σ) := by
  obtain ⟨a1, e1⟩ : ∃ a, xs (i + 1).toNat = a := ⟨_, rfl⟩
  have rg1 := S.rg (i + 1).toNat
  rw [e1] at rg1
  obtain ⟨a2, e2⟩ : ∃ a, xs (i + 2).toNat = a := ⟨_, rfl⟩
  have rg2 := S.rg (i + 2).toNat
  rw [e2] at rg2
  obtain ⟨a3, e3⟩ : ∃ a, xs (i + 3).toNat = a := ⟨_, rfl⟩
  have rg3 := S.rg (i + 3).toNat
  rw [e3] at rg3
  obtain ⟨a4, e4⟩ : ∃ a, xs (i + 4).toNat = a := ⟨_, rfl⟩
  have rg4 := S.rg (i + 4).toNat
  rw [e4] at rg4
  obtain ⟨a5, e5⟩ : ∃ a, xs (i + 5).toNat = a := ⟨_, rfl⟩
  have rg5 := S.rg (i + 5).toNat
  rw [e5] at rg5
  have okm := J.om
  refine z_aload_n C (z_d dtL_law_7 12 rfl) rfl ?_
  refine z_aload_n C (z_d dtL_law_7 13 rfl) rfl ?_
  refine z_iload_n C (z_d dtL_law_7 14 rfl) rfl ?_
  refine z_iconst C (z_d dtL_law_7 15 rfl) ?_
  refine z_iadd C (z_d dtL_law_7 16 rfl) ?_
  refine z_sld C S e1 (by omega) (by omega) (z_d dtL_law_7 17 rfl) ?_
  refine z_aload_n C (z_d dtL_law_7 18 rfl) rfl ?_
  refine z_iload_n C (z_d dtL_law_7 19 rfl) rfl ?_
  refine z_iconst C (z_d dtL_law_7 20 rfl) ?_
  refine z_iadd C (z_d dtL_law_7 21 rfl) ?_
  refine z_sld C S e2 (by omega) (by omega) (z_d dtL_law_7 22 rfl) ?_
  refine z_aload_n C (z_d dtL_law_7 23 rfl) rfl ?_
  refine z_iload_n C (z_d dtL_law_7 24 rfl) rfl ?_
  refine z_iconst C (z_d dtL_law_7 25 rfl) ?_
  refine z_iadd C (z_d dtL_law_7 26 rfl) ?_
  refine z_sld C S e3 (by omega) (by omega) (z_d dtL_law_7 27 rfl) ?_
  refine z_callVF C (z_d dtL_law_7 28 rfl) (k_X7_weight (ad := ad) (σ := σ) (k := a1) (c := a2) (v := a3) J.1 rg1 rg2 rg3) cal_X7_weight gw_17_20 rfl 0 7 rfl rfl rfl rfl hR ⟨rfl, rfl⟩ (by omega) rfl (fun r w hX => ?_)
  obtain ⟨rfl, hX⟩ := hX
  refine z_sw ?_
  refine z_aload_n C (z_d dtL_law_7 29 rfl) rfl ?_
  refine z_aload_n C (z_d dtL_law_7 30 rfl) rfl ?_
  refine z_iload_n C (z_d dtL_law_7 31 rfl) rfl ?_
  refine z_iconst C (z_d dtL_law_7 32 rfl) ?_
  refine z_iadd C (z_d dtL_law_7 33 rfl) ?_
  refine z_sld C S e1 (by omega) (by omega) (z_d dtL_law_7 34 rfl) ?_
  refine z_aload_n C (z_d dtL_law_7 35 rfl) rfl ?_
  refine z_iload_n C (z_d dtL_law_7 36 rfl) rfl ?_
  refine z_iconst C (z_d dtL_law_7 37 rfl) ?_
  refine z_iadd C (z_d dtL_law_7 38 rfl) ?_
  refine z_sld C S e2 (by omega) (by omega) (z_d dtL_law_7 39 rfl) ?_
  refine z_aload_n C (z_d dtL_law_8 0 rfl) rfl ?_
  refine z_iload_n C (z_d dtL_law_8 1 rfl) rfl ?_
  refine z_iconst C (z_d dtL_law_8 2 rfl) ?_
  refine z_iadd C (z_d dtL_law_8 3 rfl) ?_
  refine z_sld C S e3 (by omega) (by omega) (z_d dtL_law_8 4 rfl) ?_
  refine z_callVF C (z_d dtL_law_8 5 rfl) (k_X8_weight (ad := ae) (σ := τ) (k := a1) (c := a2) (v := a3) okm rg1 rg2 rg3) cal_X8_weight gw_18_4 rfl 0 8 rfl rfl rfl rfl hR ⟨rfl, rfl⟩ (by omega) rfl (fun r2 w hM => ?_)
  obtain ⟨rfl, hM⟩ := hM
  refine z_sw ?_
  have er := j_weight (k := a1) (c := a2) (v := a3) J rg1 rg2 rg3 hX hM
  refine z_icmp_same (tgt := 1301) C (z_d dtL_law_8 6 rfl) (by decide) er ?_
  exact next _ _ _ _ (by omega) (by omega) J
set_option maxRecDepth 100000 in
set_option maxHeartbeats 4000000 in
theorem lw_offset {K : z_KT} {b L : Nat} {xs : Nat → Int} {ad ae : Nat → Nat} {σ τ : zMem} {i : Int} {cells slots : Nat} (C : Fc K cL_law RL 4) (hR : z_Rm K = z_rm 10 402 600000 7302250) (S : z_Sc K b L xs) (hL : L ≤ 3072) (hi : 0 ≤ i ∧ i + 6 ≤ L) (J : zJn σ τ) (hc : cells + 1 ≤ 600000 ∧ slots + 5 ≤ 7302250) (next : ∀ (σ' τ' : zMem) (c s : Nat), c ≤ cells + 1 → s ≤ slots + 5 → zJn σ' τ' → Gd K c s 1301 [some (.ref b), some (.ref (ad 0)), some (.ref (ae 0)), some (.int (zI i))] [] (wM ae (z_t K) τ' ++ wX ad (z_t K) σ')) : Gd K cells slots 561 [some (.ref b), some (.ref (ad 0)), some (.ref (ae 0)), some (.int (zI i))] [] (wM ae (z_t K) τ ++ wX ad (z_t K) σ) := by
  obtain ⟨a1, e1⟩ : ∃ a, xs (i + 1).toNat = a := ⟨_, rfl⟩
  have rg1 := S.rg (i + 1).toNat
  rw [e1] at rg1
  obtain ⟨a2, e2⟩ : ∃ a, xs (i + 2).toNat = a := ⟨_, rfl⟩
  have rg2 := S.rg (i + 2).toNat
  rw [e2] at rg2
  obtain ⟨a3, e3⟩ : ∃ a, xs (i + 3).toNat = a := ⟨_, rfl⟩
  have rg3 := S.rg (i + 3).toNat
  rw [e3] at rg3
  obtain ⟨a4, e4⟩ : ∃ a, xs (i + 4).toNat = a := ⟨_, rfl⟩
  have rg4 := S.rg (i + 4).toNat
  rw [e4] at rg4
  obtain ⟨a5, e5⟩ : ∃ a, xs (i + 5).toNat = a := ⟨_, rfl⟩
  have rg5 := S.rg (i + 5).toNat
  rw [e5] at rg5
  have okm := J.om
  refine z_aload_n C (z_d dtL_law_8 9 rfl) rfl ?_
  refine z_aload_n C (z_d dtL_law_8 10 rfl) rfl ?_
  refine z_iload_n C (z_d dtL_law_8 11 rfl) rfl ?_
  refine z_iconst C (z_d dtL_law_8 12 rfl) ?_
  refine z_iadd C (z_d dtL_law_8 13 rfl) ?_
  refine z_sld C S e1 (by omega) (by omega) (z_d dtL_law_8 14 rfl) ?_
  refine z_aload_n C (z_d dtL_law_8 15 rfl) rfl ?_
  refine z_iload_n C (z_d dtL_law_8 16 rfl) rfl ?_
  refine z_iconst C (z_d dtL_law_8 17 rfl) ?_
  refine z_iadd C (z_d dtL_law_8 18 rfl) ?_
  refine z_sld C S e2 (by omega) (by omega) (z_d dtL_law_8 19 rfl) ?_
  refine z_aload_n C (z_d dtL_law_8 20 rfl) rfl ?_
  refine z_iload_n C (z_d dtL_law_8 21 rfl) rfl ?_
  refine z_iconst C (z_d dtL_law_8 22 rfl) ?_
  refine z_iadd C (z_d dtL_law_8 23 rfl) ?_
  refine z_sld C S e3 (by omega) (by omega) (z_d dtL_law_8 24 rfl) ?_
  refine z_callVF C (z_d dtL_law_8 25 rfl) (k_X7_offset (ad := ad) (σ := σ) (z := a1) (row := a2) (c := a3) J.1 rg1 rg2 rg3) cal_X7_offset gw_18_12 rfl 0 7 rfl rfl rfl rfl hR ⟨rfl, rfl⟩ (by omega) rfl (fun r w hX => ?_)
  obtain ⟨σ', rfl, hX⟩ := hX
  refine z_sw ?_
  refine z_aload_n C (z_d dtL_law_8 26 rfl) rfl ?_
  refine z_aload_n C (z_d dtL_law_8 27 rfl) rfl ?_
  refine z_iload_n C (z_d dtL_law_8 28 rfl) rfl ?_
  refine z_iconst C (z_d dtL_law_8 29 rfl) ?_
  refine z_iadd C (z_d dtL_law_8 30 rfl) ?_
  refine z_sld C S e1 (by omega) (by omega) (z_d dtL_law_8 31 rfl) ?_
  refine z_aload_n C (z_d dtL_law_8 32 rfl) rfl ?_
  refine z_iload_n C (z_d dtL_law_8 33 rfl) rfl ?_
  refine z_iconst C (z_d dtL_law_8 34 rfl) ?_
  refine z_iadd C (z_d dtL_law_8 35 rfl) ?_
  refine z_sld C S e2 (by omega) (by omega) (z_d dtL_law_8 36 rfl) ?_
  refine z_aload_n C (z_d dtL_law_8 37 rfl) rfl ?_
  refine z_iload_n C (z_d dtL_law_8 38 rfl) rfl ?_
  refine z_iconst C (z_d dtL_law_8 39 rfl) ?_
  refine z_iadd C (z_d dtL_law_9 0 rfl) ?_
  refine z_sld C S e3 (by omega) (by omega) (z_d dtL_law_9 1 rfl) ?_
  refine z_callVF C (z_d dtL_law_9 2 rfl) (k_X8_offset (ad := ae) (σ := τ) (z := a1) (row := a2) (c := a3) okm rg1 rg2 rg3) cal_X8_offset gw_19_12 rfl 0 8 rfl rfl rfl rfl hR ⟨rfl, rfl⟩ (by omega) rfl (fun r2 w hM => ?_)
  obtain ⟨τ', rfl, hM⟩ := hM
  refine z_sw ?_
  obtain ⟨er, μ, ν, q1, q2, J2⟩ := j_offset (z := a1) (row := a2) (c := a3) J rg1 rg2 rg3 hX hM
  refine z_icmp_same (tgt := 1301) C (z_d dtL_law_9 3 rfl) (by decide) er ?_
  rw [← q1, ← q2]
  exact next μ ν _ _ (by omega) (by omega) J2
set_option maxRecDepth 100000 in
set_option maxHeartbeats 4000000 in
theorem lw_alike {K : z_KT} {b L : Nat} {xs : Nat → Int} {ad ae : Nat → Nat} {σ τ : zMem} {i : Int} {cells slots : Nat} (C : Fc K cL_law RL 4) (hR : z_Rm K = z_rm 10 402 600000 7302250) (S : z_Sc K b L xs) (hL : L ≤ 3072) (hi : 0 ≤ i ∧ i + 6 ≤ L) (J : zJn σ τ) (hc : cells + 1 ≤ 600000 ∧ slots + 5 ≤ 7302250) (next : ∀ (σ' τ' : zMem) (c s : Nat), c ≤ cells + 1 → s ≤ slots + 5 → zJn σ' τ' → Gd K c s 1301 [some (.ref b), some (.ref (ad 0)), some (.ref (ae 0)), some (.int (zI i))] [] (wM ae (z_t K) τ' ++ wX ad (z_t K) σ')) : Gd K cells slots 604 [some (.ref b), some (.ref (ad 0)), some (.ref (ae 0)), some (.int (zI i))] [] (wM ae (z_t K) τ ++ wX ad (z_t K) σ) := by
  obtain ⟨a1, e1⟩ : ∃ a, xs (i + 1).toNat = a := ⟨_, rfl⟩
  have rg1 := S.rg (i + 1).toNat
  rw [e1] at rg1
  obtain ⟨a2, e2⟩ : ∃ a, xs (i + 2).toNat = a := ⟨_, rfl⟩
  have rg2 := S.rg (i + 2).toNat
  rw [e2] at rg2
  obtain ⟨a3, e3⟩ : ∃ a, xs (i + 3).toNat = a := ⟨_, rfl⟩
  have rg3 := S.rg (i + 3).toNat
  rw [e3] at rg3
  obtain ⟨a4, e4⟩ : ∃ a, xs (i + 4).toNat = a := ⟨_, rfl⟩
  have rg4 := S.rg (i + 4).toNat
  rw [e4] at rg4
  obtain ⟨a5, e5⟩ : ∃ a, xs (i + 5).toNat = a := ⟨_, rfl⟩
  have rg5 := S.rg (i + 5).toNat
  rw [e5] at rg5
  have okm := J.om
  refine z_aload_n C (z_d dtL_law_9 6 rfl) rfl ?_
  refine z_callVF C (z_d dtL_law_9 7 rfl) (k_X7_alike (ad := ad) (σ := σ)  J.1) cal_X7_alike gw_19_20 rfl 0 7 rfl rfl rfl rfl hR ⟨rfl, rfl⟩ (by omega) rfl (fun r w hX => ?_)
  obtain ⟨σ', rfl, hX⟩ := hX
  refine z_sw ?_
  refine z_aload_n C (z_d dtL_law_9 8 rfl) rfl ?_
  refine z_callVF C (z_d dtL_law_9 9 rfl) (k_X8_alike (ad := ae) (σ := τ) (n := (zN σ).toNat)  (cAl J)) cal_X8_alike gw_20_4 rfl 0 8 rfl rfl rfl rfl hR ⟨rfl, rfl⟩ (by omega) rfl (fun r2 w hM => ?_)
  obtain ⟨τ', rfl, hM⟩ := hM
  refine z_sw ?_
  obtain ⟨er, μ, ν, q1, q2, J2⟩ := j_alike  J  hX hM
  refine z_icmp_same (tgt := 1301) C (z_d dtL_law_9 10 rfl) (by decide) er ?_
  rw [← q1, ← q2]
  exact next μ ν _ _ (by omega) (by omega) J2
set_option maxRecDepth 100000 in
set_option maxHeartbeats 4000000 in
theorem lw_known {K : z_KT} {b L : Nat} {xs : Nat → Int} {ad ae : Nat → Nat} {σ τ : zMem} {i : Int} {cells slots : Nat} (C : Fc K cL_law RL 4) (hR : z_Rm K = z_rm 10 402 600000 7302250) (S : z_Sc K b L xs) (hL : L ≤ 3072) (hi : 0 ≤ i ∧ i + 6 ≤ L) (J : zJn σ τ) (hc : cells + 1 ≤ 600000 ∧ slots + 5 ≤ 7302250) (next : ∀ (σ' τ' : zMem) (c s : Nat), c ≤ cells + 1 → s ≤ slots + 5 → zJn σ' τ' → Gd K c s 1301 [some (.ref b), some (.ref (ad 0)), some (.ref (ae 0)), some (.int (zI i))] [] (wM ae (z_t K) τ' ++ wX ad (z_t K) σ')) : Gd K cells slots 617 [some (.ref b), some (.ref (ad 0)), some (.ref (ae 0)), some (.int (zI i))] [] (wM ae (z_t K) τ ++ wX ad (z_t K) σ) := by
  obtain ⟨a1, e1⟩ : ∃ a, xs (i + 1).toNat = a := ⟨_, rfl⟩
  have rg1 := S.rg (i + 1).toNat
  rw [e1] at rg1
  obtain ⟨a2, e2⟩ : ∃ a, xs (i + 2).toNat = a := ⟨_, rfl⟩
  have rg2 := S.rg (i + 2).toNat
  rw [e2] at rg2
  obtain ⟨a3, e3⟩ : ∃ a, xs (i + 3).toNat = a := ⟨_, rfl⟩
  have rg3 := S.rg (i + 3).toNat
  rw [e3] at rg3
  obtain ⟨a4, e4⟩ : ∃ a, xs (i + 4).toNat = a := ⟨_, rfl⟩
  have rg4 := S.rg (i + 4).toNat
  rw [e4] at rg4
  obtain ⟨a5, e5⟩ : ∃ a, xs (i + 5).toNat = a := ⟨_, rfl⟩
  have rg5 := S.rg (i + 5).toNat
  rw [e5] at rg5
  have okm := J.om
  refine z_aload_n C (z_d dtL_law_9 13 rfl) rfl ?_
  refine z_aload_n C (z_d dtL_law_9 14 rfl) rfl ?_
  refine z_iload_n C (z_d dtL_law_9 15 rfl) rfl ?_
  refine z_iconst C (z_d dtL_law_9 16 rfl) ?_
  refine z_iadd C (z_d dtL_law_9 17 rfl) ?_
  refine z_sld C S e1 (by omega) (by omega) (z_d dtL_law_9 18 rfl) ?_
  refine z_callVF C (z_d dtL_law_9 19 rfl) (k_X7_known (ad := ad) (σ := σ) (c := a1) J.1 rg1) cal_X7_known gw_20_5 rfl 0 7 rfl rfl rfl rfl hR ⟨rfl, rfl⟩ (by omega) rfl (fun r w hX => ?_)
  obtain ⟨σ', rfl, hX⟩ := hX
  refine z_sw ?_
  refine z_aload_n C (z_d dtL_law_9 20 rfl) rfl ?_
  refine z_aload_n C (z_d dtL_law_9 21 rfl) rfl ?_
  refine z_iload_n C (z_d dtL_law_9 22 rfl) rfl ?_
  refine z_iconst C (z_d dtL_law_9 23 rfl) ?_
  refine z_iadd C (z_d dtL_law_9 24 rfl) ?_
  refine z_sld C S e1 (by omega) (by omega) (z_d dtL_law_9 25 rfl) ?_
  refine z_callVF C (z_d dtL_law_9 26 rfl) (k_X8_known (ad := ae) (σ := τ) (c := a1) okm rg1) cal_X8_known gw_20_14 rfl 0 8 rfl rfl rfl rfl hR ⟨rfl, rfl⟩ (by omega) rfl (fun r2 w hM => ?_)
  obtain ⟨τ', rfl, hM⟩ := hM
  refine z_sw ?_
  obtain ⟨er, μ, ν, q1, q2, J2⟩ := j_known (c := a1) J rg1 hX hM
  refine z_icmp_same (tgt := 1301) C (z_d dtL_law_9 27 rfl) (by decide) er ?_
  rw [← q1, ← q2]
  exact next μ ν _ _ (by omega) (by omega) J2
set_option maxRecDepth 100000 in
set_option maxHeartbeats 4000000 in
theorem lw_lead {K : z_KT} {b L : Nat} {xs : Nat → Int} {ad ae : Nat → Nat} {σ τ : zMem} {i : Int} {cells slots : Nat} (C : Fc K cL_law RL 4) (hR : z_Rm K = z_rm 10 402 600000 7302250) (S : z_Sc K b L xs) (hL : L ≤ 3072) (hi : 0 ≤ i ∧ i + 6 ≤ L) (J : zJn σ τ) (hc : cells + 1 ≤ 600000 ∧ slots + 5 ≤ 7302250) (next : ∀ (σ' τ' : zMem) (c s : Nat), c ≤ cells + 1 → s ≤ slots + 5 → zJn σ' τ' → Gd K c s 1301 [some (.ref b), some (.ref (ad 0)), some (.ref (ae 0)), some (.int (zI i))] [] (wM ae (z_t K) τ' ++ wX ad (z_t K) σ')) : Gd K cells slots 640 [some (.ref b), some (.ref (ad 0)), some (.ref (ae 0)), some (.int (zI i))] [] (wM ae (z_t K) τ ++ wX ad (z_t K) σ) := by
  obtain ⟨a1, e1⟩ : ∃ a, xs (i + 1).toNat = a := ⟨_, rfl⟩
  have rg1 := S.rg (i + 1).toNat
  rw [e1] at rg1
  obtain ⟨a2, e2⟩ : ∃ a, xs (i + 2).toNat = a := ⟨_, rfl⟩
  have rg2 := S.rg (i + 2).toNat
  rw [e2] at rg2
  obtain ⟨a3, e3⟩ : ∃ a, xs (i + 3).toNat = a := ⟨_, rfl⟩
  have rg3 := S.rg (i + 3).toNat
  rw [e3] at rg3
  obtain ⟨a4, e4⟩ : ∃ a, xs (i + 4).toNat = a := ⟨_, rfl⟩
  have rg4 := S.rg (i + 4).toNat
  rw [e4] at rg4
  obtain ⟨a5, e5⟩ : ∃ a, xs (i + 5).toNat = a := ⟨_, rfl⟩
  have rg5 := S.rg (i + 5).toNat
  rw [e5] at rg5
  have okm := J.om
  refine z_aload_n C (z_d dtL_law_9 30 rfl) rfl ?_
  refine z_aload_n C (z_d dtL_law_9 31 rfl) rfl ?_
  refine z_iload_n C (z_d dtL_law_9 32 rfl) rfl ?_
  refine z_iconst C (z_d dtL_law_9 33 rfl) ?_
  refine z_iadd C (z_d dtL_law_9 34 rfl) ?_
  refine z_sld C S e1 (by omega) (by omega) (z_d dtL_law_9 35 rfl) ?_
  refine z_callVF C (z_d dtL_law_9 36 rfl) (k_X7_lead (ad := ad) (σ := σ) (n := a1) J.1 rg1) cal_X7_lead gw_20_18 rfl 0 7 rfl rfl rfl rfl hR ⟨rfl, rfl⟩ (by omega) rfl (fun r w hX => ?_)
  obtain ⟨σ', rfl, hX⟩ := hX
  refine z_sw ?_
  refine z_aload_n C (z_d dtL_law_9 37 rfl) rfl ?_
  refine z_aload_n C (z_d dtL_law_9 38 rfl) rfl ?_
  refine z_iload_n C (z_d dtL_law_9 39 rfl) rfl ?_
  refine z_iconst C (z_d dtL_law_10 0 rfl) ?_
  refine z_iadd C (z_d dtL_law_10 1 rfl) ?_
  refine z_sld C S e1 (by omega) (by omega) (z_d dtL_law_10 2 rfl) ?_
  refine z_callVF C (z_d dtL_law_10 3 rfl) (k_X8_lead (ad := ae) (σ := τ) (n := a1) okm rg1) cal_X8_lead gw_21_18 rfl 0 8 rfl rfl rfl rfl hR ⟨rfl, rfl⟩ (by omega) rfl (fun r2 w hM => ?_)
  obtain ⟨τ', rfl, hM⟩ := hM
  refine z_sw ?_
  obtain ⟨er, μ, ν, q1, q2, J2⟩ := j_lead (n := a1) J rg1 hX hM
  refine z_icmp_same (tgt := 1301) C (z_d dtL_law_10 4 rfl) (by decide) er ?_
  rw [← q1, ← q2]
  exact next μ ν _ _ (by omega) (by omega) J2
set_option maxRecDepth 100000 in
set_option maxHeartbeats 4000000 in
theorem lw_hear {K : z_KT} {b L : Nat} {xs : Nat → Int} {ad ae : Nat → Nat} {σ τ : zMem} {i : Int} {cells slots : Nat} (C : Fc K cL_law RL 4) (hR : z_Rm K = z_rm 10 402 600000 7302250) (S : z_Sc K b L xs) (hL : L ≤ 3072) (hi : 0 ≤ i ∧ i + 6 ≤ L) (J : zJn σ τ) (hc : cells + 1 ≤ 600000 ∧ slots + 5 ≤ 7302250) (next : ∀ (σ' τ' : zMem) (c s : Nat), c ≤ cells + 1 → s ≤ slots + 5 → zJn σ' τ' → Gd K c s 1301 [some (.ref b), some (.ref (ad 0)), some (.ref (ae 0)), some (.int (zI i))] [] (wM ae (z_t K) τ' ++ wX ad (z_t K) σ')) : Gd K cells slots 663 [some (.ref b), some (.ref (ad 0)), some (.ref (ae 0)), some (.int (zI i))] [] (wM ae (z_t K) τ ++ wX ad (z_t K) σ) := by
  obtain ⟨a1, e1⟩ : ∃ a, xs (i + 1).toNat = a := ⟨_, rfl⟩
  have rg1 := S.rg (i + 1).toNat
  rw [e1] at rg1
  obtain ⟨a2, e2⟩ : ∃ a, xs (i + 2).toNat = a := ⟨_, rfl⟩
  have rg2 := S.rg (i + 2).toNat
  rw [e2] at rg2
  obtain ⟨a3, e3⟩ : ∃ a, xs (i + 3).toNat = a := ⟨_, rfl⟩
  have rg3 := S.rg (i + 3).toNat
  rw [e3] at rg3
  obtain ⟨a4, e4⟩ : ∃ a, xs (i + 4).toNat = a := ⟨_, rfl⟩
  have rg4 := S.rg (i + 4).toNat
  rw [e4] at rg4
  obtain ⟨a5, e5⟩ : ∃ a, xs (i + 5).toNat = a := ⟨_, rfl⟩
  have rg5 := S.rg (i + 5).toNat
  rw [e5] at rg5
  have okm := J.om
  refine z_aload_n C (z_d dtL_law_10 7 rfl) rfl ?_
  refine z_aload_n C (z_d dtL_law_10 8 rfl) rfl ?_
  refine z_iload_n C (z_d dtL_law_10 9 rfl) rfl ?_
  refine z_iconst C (z_d dtL_law_10 10 rfl) ?_
  refine z_iadd C (z_d dtL_law_10 11 rfl) ?_
  refine z_sld C S e1 (by omega) (by omega) (z_d dtL_law_10 12 rfl) ?_
  refine z_aload_n C (z_d dtL_law_10 13 rfl) rfl ?_
  refine z_iload_n C (z_d dtL_law_10 14 rfl) rfl ?_
  refine z_iconst C (z_d dtL_law_10 15 rfl) ?_
  refine z_iadd C (z_d dtL_law_10 16 rfl) ?_
  refine z_sld C S e2 (by omega) (by omega) (z_d dtL_law_10 17 rfl) ?_
  refine z_aload_n C (z_d dtL_law_10 18 rfl) rfl ?_
  refine z_iload_n C (z_d dtL_law_10 19 rfl) rfl ?_
  refine z_iconst C (z_d dtL_law_10 20 rfl) ?_
  refine z_iadd C (z_d dtL_law_10 21 rfl) ?_
  refine z_sld C S e3 (by omega) (by omega) (z_d dtL_law_10 22 rfl) ?_
  refine z_callVF C (z_d dtL_law_10 23 rfl) (k_X7_hear (ad := ad) (σ := σ) (z := a1) (row := a2) (o := a3) J.1 rg1 rg2 rg3) cal_X7_hear gw_22_3 rfl 0 7 rfl rfl rfl rfl hR ⟨rfl, rfl⟩ (by omega) rfl (fun r w hX => ?_)
  obtain ⟨σ', rfl, hX⟩ := hX
  refine z_sw ?_
  refine z_aload_n C (z_d dtL_law_10 24 rfl) rfl ?_
  refine z_aload_n C (z_d dtL_law_10 25 rfl) rfl ?_
  refine z_iload_n C (z_d dtL_law_10 26 rfl) rfl ?_
  refine z_iconst C (z_d dtL_law_10 27 rfl) ?_
  refine z_iadd C (z_d dtL_law_10 28 rfl) ?_
  refine z_sld C S e1 (by omega) (by omega) (z_d dtL_law_10 29 rfl) ?_
  refine z_aload_n C (z_d dtL_law_10 30 rfl) rfl ?_
  refine z_iload_n C (z_d dtL_law_10 31 rfl) rfl ?_
  refine z_iconst C (z_d dtL_law_10 32 rfl) ?_
  refine z_iadd C (z_d dtL_law_10 33 rfl) ?_
  refine z_sld C S e2 (by omega) (by omega) (z_d dtL_law_10 34 rfl) ?_
  refine z_aload_n C (z_d dtL_law_10 35 rfl) rfl ?_
  refine z_iload_n C (z_d dtL_law_10 36 rfl) rfl ?_
  refine z_iconst C (z_d dtL_law_10 37 rfl) ?_
  refine z_iadd C (z_d dtL_law_10 38 rfl) ?_
  refine z_sld C S e3 (by omega) (by omega) (z_d dtL_law_10 39 rfl) ?_
  refine z_callVF C (z_d dtL_law_11 0 rfl) (k_X8_hear (ad := ae) (σ := τ) (z := a1) (row := a2) (o := a3) okm rg1 rg2 rg3) cal_X8_hear gw_22_23 rfl 0 8 rfl rfl rfl rfl hR ⟨rfl, rfl⟩ (by omega) rfl (fun r2 w hM => ?_)
  obtain ⟨τ', rfl, hM⟩ := hM
  refine z_sw ?_
  obtain ⟨er, μ, ν, q1, q2, J2⟩ := j_hear (z := a1) (row := a2) (o := a3) J rg1 rg2 rg3 hX hM
  refine z_icmp_same (tgt := 1301) C (z_d dtL_law_11 1 rfl) (by decide) er ?_
  rw [← q1, ← q2]
  exact next μ ν _ _ (by omega) (by omega) J2
set_option maxRecDepth 100000 in
set_option maxHeartbeats 4000000 in
theorem lw_share {K : z_KT} {b L : Nat} {xs : Nat → Int} {ad ae : Nat → Nat} {σ τ : zMem} {i : Int} {cells slots : Nat} (C : Fc K cL_law RL 4) (hR : z_Rm K = z_rm 10 402 600000 7302250) (S : z_Sc K b L xs) (hL : L ≤ 3072) (hi : 0 ≤ i ∧ i + 6 ≤ L) (J : zJn σ τ) (hc : cells + 1 ≤ 600000 ∧ slots + 5 ≤ 7302250) (next : ∀ (σ' τ' : zMem) (c s : Nat), c ≤ cells + 1 → s ≤ slots + 5 → zJn σ' τ' → Gd K c s 1301 [some (.ref b), some (.ref (ad 0)), some (.ref (ae 0)), some (.int (zI i))] [] (wM ae (z_t K) τ' ++ wX ad (z_t K) σ')) : Gd K cells slots 706 [some (.ref b), some (.ref (ad 0)), some (.ref (ae 0)), some (.int (zI i))] [] (wM ae (z_t K) τ ++ wX ad (z_t K) σ) := by
  obtain ⟨a1, e1⟩ : ∃ a, xs (i + 1).toNat = a := ⟨_, rfl⟩
  have rg1 := S.rg (i + 1).toNat
  rw [e1] at rg1
  obtain ⟨a2, e2⟩ : ∃ a, xs (i + 2).toNat = a := ⟨_, rfl⟩
  have rg2 := S.rg (i + 2).toNat
  rw [e2] at rg2
  obtain ⟨a3, e3⟩ : ∃ a, xs (i + 3).toNat = a := ⟨_, rfl⟩
  have rg3 := S.rg (i + 3).toNat
  rw [e3] at rg3
  obtain ⟨a4, e4⟩ : ∃ a, xs (i + 4).toNat = a := ⟨_, rfl⟩
  have rg4 := S.rg (i + 4).toNat
  rw [e4] at rg4
  obtain ⟨a5, e5⟩ : ∃ a, xs (i + 5).toNat = a := ⟨_, rfl⟩
  have rg5 := S.rg (i + 5).toNat
  rw [e5] at rg5
  have okm := J.om
  refine z_aload_n C (z_d dtL_law_11 4 rfl) rfl ?_
  refine z_aload_n C (z_d dtL_law_11 5 rfl) rfl ?_
  refine z_iload_n C (z_d dtL_law_11 6 rfl) rfl ?_
  refine z_iconst C (z_d dtL_law_11 7 rfl) ?_
  refine z_iadd C (z_d dtL_law_11 8 rfl) ?_
  refine z_sld C S e1 (by omega) (by omega) (z_d dtL_law_11 9 rfl) ?_
  refine z_callVF C (z_d dtL_law_11 10 rfl) (k_X7_share (ad := ad) (σ := σ) (c := a1) J.1 rg1) cal_X7_share gw_23_3 rfl 0 7 rfl rfl rfl rfl hR ⟨rfl, rfl⟩ (by omega) rfl (fun r w hX => ?_)
  obtain ⟨rfl, hX⟩ := hX
  refine z_sw ?_
  refine z_aload_n C (z_d dtL_law_11 11 rfl) rfl ?_
  refine z_aload_n C (z_d dtL_law_11 12 rfl) rfl ?_
  refine z_iload_n C (z_d dtL_law_11 13 rfl) rfl ?_
  refine z_iconst C (z_d dtL_law_11 14 rfl) ?_
  refine z_iadd C (z_d dtL_law_11 15 rfl) ?_
  refine z_sld C S e1 (by omega) (by omega) (z_d dtL_law_11 16 rfl) ?_
  refine z_callVF C (z_d dtL_law_11 17 rfl) (k_X8_share (ad := ae) (σ := τ) (c := a1) okm rg1) cal_X8_share gw_23_7 rfl 0 8 rfl rfl rfl rfl hR ⟨rfl, rfl⟩ (by omega) rfl (fun r2 w hM => ?_)
  obtain ⟨rfl, hM⟩ := hM
  refine z_sw ?_
  have er := j_share (c := a1) J rg1 hX hM
  refine z_icmp_same (tgt := 1301) C (z_d dtL_law_11 18 rfl) (by decide) er ?_
  exact next _ _ _ _ (by omega) (by omega) J
set_option maxRecDepth 100000 in
set_option maxHeartbeats 4000000 in
theorem lw_likeliest {K : z_KT} {b L : Nat} {xs : Nat → Int} {ad ae : Nat → Nat} {σ τ : zMem} {i : Int} {cells slots : Nat} (C : Fc K cL_law RL 4) (hR : z_Rm K = z_rm 10 402 600000 7302250) (S : z_Sc K b L xs) (hL : L ≤ 3072) (hi : 0 ≤ i ∧ i + 6 ≤ L) (J : zJn σ τ) (hc : cells + 1 ≤ 600000 ∧ slots + 5 ≤ 7302250) (next : ∀ (σ' τ' : zMem) (c s : Nat), c ≤ cells + 1 → s ≤ slots + 5 → zJn σ' τ' → Gd K c s 1301 [some (.ref b), some (.ref (ad 0)), some (.ref (ae 0)), some (.int (zI i))] [] (wM ae (z_t K) τ' ++ wX ad (z_t K) σ')) : Gd K cells slots 729 [some (.ref b), some (.ref (ad 0)), some (.ref (ae 0)), some (.int (zI i))] [] (wM ae (z_t K) τ ++ wX ad (z_t K) σ) := by
  obtain ⟨a1, e1⟩ : ∃ a, xs (i + 1).toNat = a := ⟨_, rfl⟩
  have rg1 := S.rg (i + 1).toNat
  rw [e1] at rg1
  obtain ⟨a2, e2⟩ : ∃ a, xs (i + 2).toNat = a := ⟨_, rfl⟩
  have rg2 := S.rg (i + 2).toNat
  rw [e2] at rg2
  obtain ⟨a3, e3⟩ : ∃ a, xs (i + 3).toNat = a := ⟨_, rfl⟩
  have rg3 := S.rg (i + 3).toNat
  rw [e3] at rg3
  obtain ⟨a4, e4⟩ : ∃ a, xs (i + 4).toNat = a := ⟨_, rfl⟩
  have rg4 := S.rg (i + 4).toNat
  rw [e4] at rg4
  obtain ⟨a5, e5⟩ : ∃ a, xs (i + 5).toNat = a := ⟨_, rfl⟩
  have rg5 := S.rg (i + 5).toNat
  rw [e5] at rg5
  have okm := J.om
  refine z_aload_n C (z_d dtL_law_11 21 rfl) rfl ?_
  refine z_callVF C (z_d dtL_law_11 22 rfl) (k_X7_likeliest (ad := ad) (σ := σ)  J.1) cal_X7_likeliest gw_23_11 rfl 0 7 rfl rfl rfl rfl hR ⟨rfl, rfl⟩ (by omega) rfl (fun r w hX => ?_)
  obtain ⟨rfl, hX⟩ := hX
  refine z_sw ?_
  refine z_aload_n C (z_d dtL_law_11 23 rfl) rfl ?_
  refine z_callVF C (z_d dtL_law_11 24 rfl) (k_X8_likeliest (ad := ae) (σ := τ)  okm) cal_X8_likeliest gw_23_19 rfl 0 8 rfl rfl rfl rfl hR ⟨rfl, rfl⟩ (by omega) rfl (fun r2 w hM => ?_)
  obtain ⟨rfl, hM⟩ := hM
  refine z_sw ?_
  have er := j_likeliest  J  hX hM
  refine z_icmp_same (tgt := 1301) C (z_d dtL_law_11 25 rfl) (by decide) er ?_
  exact next _ _ _ _ (by omega) (by omega) J
set_option maxRecDepth 100000 in
set_option maxHeartbeats 4000000 in
theorem lw_within {K : z_KT} {b L : Nat} {xs : Nat → Int} {ad ae : Nat → Nat} {σ τ : zMem} {i : Int} {cells slots : Nat} (C : Fc K cL_law RL 4) (hR : z_Rm K = z_rm 10 402 600000 7302250) (S : z_Sc K b L xs) (hL : L ≤ 3072) (hi : 0 ≤ i ∧ i + 6 ≤ L) (J : zJn σ τ) (hc : cells + 1 ≤ 600000 ∧ slots + 5 ≤ 7302250) (next : ∀ (σ' τ' : zMem) (c s : Nat), c ≤ cells + 1 → s ≤ slots + 5 → zJn σ' τ' → Gd K c s 1301 [some (.ref b), some (.ref (ad 0)), some (.ref (ae 0)), some (.int (zI i))] [] (wM ae (z_t K) τ' ++ wX ad (z_t K) σ')) : Gd K cells slots 742 [some (.ref b), some (.ref (ad 0)), some (.ref (ae 0)), some (.int (zI i))] [] (wM ae (z_t K) τ ++ wX ad (z_t K) σ) := by
  obtain ⟨a1, e1⟩ : ∃ a, xs (i + 1).toNat = a := ⟨_, rfl⟩
  have rg1 := S.rg (i + 1).toNat
  rw [e1] at rg1
  obtain ⟨a2, e2⟩ : ∃ a, xs (i + 2).toNat = a := ⟨_, rfl⟩
  have rg2 := S.rg (i + 2).toNat
  rw [e2] at rg2
  obtain ⟨a3, e3⟩ : ∃ a, xs (i + 3).toNat = a := ⟨_, rfl⟩
  have rg3 := S.rg (i + 3).toNat
  rw [e3] at rg3
  obtain ⟨a4, e4⟩ : ∃ a, xs (i + 4).toNat = a := ⟨_, rfl⟩
  have rg4 := S.rg (i + 4).toNat
  rw [e4] at rg4
  obtain ⟨a5, e5⟩ : ∃ a, xs (i + 5).toNat = a := ⟨_, rfl⟩
  have rg5 := S.rg (i + 5).toNat
  rw [e5] at rg5
  have okm := J.om
  refine z_aload_n C (z_d dtL_law_11 28 rfl) rfl ?_
  refine z_aload_n C (z_d dtL_law_11 29 rfl) rfl ?_
  refine z_iload_n C (z_d dtL_law_11 30 rfl) rfl ?_
  refine z_iconst C (z_d dtL_law_11 31 rfl) ?_
  refine z_iadd C (z_d dtL_law_11 32 rfl) ?_
  refine z_sld C S e1 (by omega) (by omega) (z_d dtL_law_11 33 rfl) ?_
  refine z_aload_n C (z_d dtL_law_11 34 rfl) rfl ?_
  refine z_iload_n C (z_d dtL_law_11 35 rfl) rfl ?_
  refine z_iconst C (z_d dtL_law_11 36 rfl) ?_
  refine z_iadd C (z_d dtL_law_11 37 rfl) ?_
  refine z_sld C S e2 (by omega) (by omega) (z_d dtL_law_11 38 rfl) ?_
  refine z_aload_n C (z_d dtL_law_11 39 rfl) rfl ?_
  refine z_iload_n C (z_d dtL_law_12 0 rfl) rfl ?_
  refine z_iconst C (z_d dtL_law_12 1 rfl) ?_
  refine z_iadd C (z_d dtL_law_12 2 rfl) ?_
  refine z_sld C S e3 (by omega) (by omega) (z_d dtL_law_12 3 rfl) ?_
  refine z_aload_n C (z_d dtL_law_12 4 rfl) rfl ?_
  refine z_iload_n C (z_d dtL_law_12 5 rfl) rfl ?_
  refine z_iconst C (z_d dtL_law_12 6 rfl) ?_
  refine z_iadd C (z_d dtL_law_12 7 rfl) ?_
  refine z_sld C S e4 (by omega) (by omega) (z_d dtL_law_12 8 rfl) ?_
  refine z_aload_n C (z_d dtL_law_12 9 rfl) rfl ?_
  refine z_iload_n C (z_d dtL_law_12 10 rfl) rfl ?_
  refine z_iconst C (z_d dtL_law_12 11 rfl) ?_
  refine z_iadd C (z_d dtL_law_12 12 rfl) ?_
  refine z_sld C S e5 (by omega) (by omega) (z_d dtL_law_12 13 rfl) ?_
  refine z_callVF C (z_d dtL_law_12 14 rfl) (k_X7_within (ad := ad) (σ := σ) (f := a1) (x0 := a2) (x1 := a3) (y0 := a4) (y1 := a5) J.1 rg1 rg2 rg3 rg4 rg5) cal_X7_within gw_23_23 rfl 0 7 rfl rfl rfl rfl hR ⟨rfl, rfl⟩ (by omega) rfl (fun r w hX => ?_)
  obtain ⟨rfl, hX⟩ := hX
  refine z_sw ?_
  refine z_aload_n C (z_d dtL_law_12 15 rfl) rfl ?_
  refine z_aload_n C (z_d dtL_law_12 16 rfl) rfl ?_
  refine z_iload_n C (z_d dtL_law_12 17 rfl) rfl ?_
  refine z_iconst C (z_d dtL_law_12 18 rfl) ?_
  refine z_iadd C (z_d dtL_law_12 19 rfl) ?_
  refine z_sld C S e1 (by omega) (by omega) (z_d dtL_law_12 20 rfl) ?_
  refine z_aload_n C (z_d dtL_law_12 21 rfl) rfl ?_
  refine z_iload_n C (z_d dtL_law_12 22 rfl) rfl ?_
  refine z_iconst C (z_d dtL_law_12 23 rfl) ?_
  refine z_iadd C (z_d dtL_law_12 24 rfl) ?_
  refine z_sld C S e2 (by omega) (by omega) (z_d dtL_law_12 25 rfl) ?_
  refine z_aload_n C (z_d dtL_law_12 26 rfl) rfl ?_
  refine z_iload_n C (z_d dtL_law_12 27 rfl) rfl ?_
  refine z_iconst C (z_d dtL_law_12 28 rfl) ?_
  refine z_iadd C (z_d dtL_law_12 29 rfl) ?_
  refine z_sld C S e3 (by omega) (by omega) (z_d dtL_law_12 30 rfl) ?_
  refine z_aload_n C (z_d dtL_law_12 31 rfl) rfl ?_
  refine z_iload_n C (z_d dtL_law_12 32 rfl) rfl ?_
  refine z_iconst C (z_d dtL_law_12 33 rfl) ?_
  refine z_iadd C (z_d dtL_law_12 34 rfl) ?_
  refine z_sld C S e4 (by omega) (by omega) (z_d dtL_law_12 35 rfl) ?_
  refine z_aload_n C (z_d dtL_law_12 36 rfl) rfl ?_
  refine z_iload_n C (z_d dtL_law_12 37 rfl) rfl ?_
  refine z_iconst C (z_d dtL_law_12 38 rfl) ?_
  refine z_iadd C (z_d dtL_law_12 39 rfl) ?_
  refine z_sld C S e5 (by omega) (by omega) (z_d dtL_law_13 0 rfl) ?_
  refine z_callVF C (z_d dtL_law_13 1 rfl) (k_X8_within (ad := ae) (σ := τ) (f := a1) (x0 := a2) (x1 := a3) (y0 := a4) (y1 := a5) okm rg1 rg2 rg3 rg4 rg5) cal_X8_within gw_24_12 rfl 0 8 rfl rfl rfl rfl hR ⟨rfl, rfl⟩ (by omega) rfl (fun r2 w hM => ?_)
  obtain ⟨rfl, hM⟩ := hM
  refine z_sw ?_
  have er := j_within (f := a1) (x0 := a2) (x1 := a3) (y0 := a4) (y1 := a5) J rg1 rg2 rg3 rg4 rg5 hX hM
  refine z_icmp_same (tgt := 1301) C (z_d dtL_law_13 2 rfl) (by decide) er ?_
  exact next _ _ _ _ (by omega) (by omega) J
set_option maxRecDepth 100000 in
set_option maxHeartbeats 4000000 in
theorem lw_sure {K : z_KT} {b L : Nat} {xs : Nat → Int} {ad ae : Nat → Nat} {σ τ : zMem} {i : Int} {cells slots : Nat} (C : Fc K cL_law RL 4) (hR : z_Rm K = z_rm 10 402 600000 7302250) (S : z_Sc K b L xs) (hL : L ≤ 3072) (hi : 0 ≤ i ∧ i + 6 ≤ L) (J : zJn σ τ) (hc : cells + 1 ≤ 600000 ∧ slots + 5 ≤ 7302250) (next : ∀ (σ' τ' : zMem) (c s : Nat), c ≤ cells + 1 → s ≤ slots + 5 → zJn σ' τ' → Gd K c s 1301 [some (.ref b), some (.ref (ad 0)), some (.ref (ae 0)), some (.int (zI i))] [] (wM ae (z_t K) τ' ++ wX ad (z_t K) σ')) : Gd K cells slots 805 [some (.ref b), some (.ref (ad 0)), some (.ref (ae 0)), some (.int (zI i))] [] (wM ae (z_t K) τ ++ wX ad (z_t K) σ) := by
  obtain ⟨a1, e1⟩ : ∃ a, xs (i + 1).toNat = a := ⟨_, rfl⟩
  have rg1 := S.rg (i + 1).toNat
  rw [e1] at rg1
  obtain ⟨a2, e2⟩ : ∃ a, xs (i + 2).toNat = a := ⟨_, rfl⟩
  have rg2 := S.rg (i + 2).toNat
  rw [e2] at rg2
  obtain ⟨a3, e3⟩ : ∃ a, xs (i + 3).toNat = a := ⟨_, rfl⟩
  have rg3 := S.rg (i + 3).toNat
  rw [e3] at rg3
  obtain ⟨a4, e4⟩ : ∃ a, xs (i + 4).toNat = a := ⟨_, rfl⟩
  have rg4 := S.rg (i + 4).toNat
  rw [e4] at rg4
  obtain ⟨a5, e5⟩ : ∃ a, xs (i + 5).toNat = a := ⟨_, rfl⟩
  have rg5 := S.rg (i + 5).toNat
  rw [e5] at rg5
  have okm := J.om
  refine z_aload_n C (z_d dtL_law_13 5 rfl) rfl ?_
  refine z_aload_n C (z_d dtL_law_13 6 rfl) rfl ?_
  refine z_iload_n C (z_d dtL_law_13 7 rfl) rfl ?_
  refine z_iconst C (z_d dtL_law_13 8 rfl) ?_
  refine z_iadd C (z_d dtL_law_13 9 rfl) ?_
  refine z_sld C S e1 (by omega) (by omega) (z_d dtL_law_13 10 rfl) ?_
  refine z_callVF C (z_d dtL_law_13 11 rfl) (k_X7_sure (ad := ad) (σ := σ) (q := a1) J.1 rg1) cal_X7_sure gw_25_0 rfl 0 7 rfl rfl rfl rfl hR ⟨rfl, rfl⟩ (by omega) rfl (fun r w hX => ?_)
  obtain ⟨σ', rfl, hX⟩ := hX
  refine z_sw ?_
  refine z_aload_n C (z_d dtL_law_13 12 rfl) rfl ?_
  refine z_aload_n C (z_d dtL_law_13 13 rfl) rfl ?_
  refine z_iload_n C (z_d dtL_law_13 14 rfl) rfl ?_
  refine z_iconst C (z_d dtL_law_13 15 rfl) ?_
  refine z_iadd C (z_d dtL_law_13 16 rfl) ?_
  refine z_sld C S e1 (by omega) (by omega) (z_d dtL_law_13 17 rfl) ?_
  refine z_callVF C (z_d dtL_law_13 18 rfl) (k_X8_sure (ad := ae) (σ := τ) (q := a1) okm rg1) cal_X8_sure gw_25_9 rfl 0 8 rfl rfl rfl rfl hR ⟨rfl, rfl⟩ (by omega) rfl (fun r2 w hM => ?_)
  obtain ⟨τ', rfl, hM⟩ := hM
  refine z_sw ?_
  obtain ⟨er, μ, ν, q1, q2, J2⟩ := j_sure (q := a1) J rg1 hX hM
  refine z_icmp_same (tgt := 1301) C (z_d dtL_law_13 19 rfl) (by decide) er ?_
  rw [← q1, ← q2]
  exact next μ ν _ _ (by omega) (by omega) J2
set_option maxRecDepth 100000 in
set_option maxHeartbeats 4000000 in
theorem lw_best {K : z_KT} {b L : Nat} {xs : Nat → Int} {ad ae : Nat → Nat} {σ τ : zMem} {i : Int} {cells slots : Nat} (C : Fc K cL_law RL 4) (hR : z_Rm K = z_rm 10 402 600000 7302250) (S : z_Sc K b L xs) (hL : L ≤ 3072) (hi : 0 ≤ i ∧ i + 6 ≤ L) (J : zJn σ τ) (hc : cells + 1 ≤ 600000 ∧ slots + 5 ≤ 7302250) (next : ∀ (σ' τ' : zMem) (c s : Nat), c ≤ cells + 1 → s ≤ slots + 5 → zJn σ' τ' → Gd K c s 1301 [some (.ref b), some (.ref (ad 0)), some (.ref (ae 0)), some (.int (zI i))] [] (wM ae (z_t K) τ' ++ wX ad (z_t K) σ')) : Gd K cells slots 828 [some (.ref b), some (.ref (ad 0)), some (.ref (ae 0)), some (.int (zI i))] [] (wM ae (z_t K) τ ++ wX ad (z_t K) σ) := by
  obtain ⟨a1, e1⟩ : ∃ a, xs (i + 1).toNat = a := ⟨_, rfl⟩
  have rg1 := S.rg (i + 1).toNat
  rw [e1] at rg1
  obtain ⟨a2, e2⟩ : ∃ a, xs (i + 2).toNat = a := ⟨_, rfl⟩
  have rg2 := S.rg (i + 2).toNat
  rw [e2] at rg2
  obtain ⟨a3, e3⟩ : ∃ a, xs (i + 3).toNat = a := ⟨_, rfl⟩
  have rg3 := S.rg (i + 3).toNat
  rw [e3] at rg3
  obtain ⟨a4, e4⟩ : ∃ a, xs (i + 4).toNat = a := ⟨_, rfl⟩
  have rg4 := S.rg (i + 4).toNat
  rw [e4] at rg4
  obtain ⟨a5, e5⟩ : ∃ a, xs (i + 5).toNat = a := ⟨_, rfl⟩
  have rg5 := S.rg (i + 5).toNat
  rw [e5] at rg5
  have okm := J.om
  refine z_aload_n C (z_d dtL_law_13 22 rfl) rfl ?_
  refine z_aload_n C (z_d dtL_law_13 23 rfl) rfl ?_
  refine z_iload_n C (z_d dtL_law_13 24 rfl) rfl ?_
  refine z_iconst C (z_d dtL_law_13 25 rfl) ?_
  refine z_iadd C (z_d dtL_law_13 26 rfl) ?_
  refine z_sld C S e1 (by omega) (by omega) (z_d dtL_law_13 27 rfl) ?_
  refine z_callVF C (z_d dtL_law_13 28 rfl) (k_X7_best (ad := ad) (σ := σ) (z := a1) J.1 rg1) cal_X7_best gw_25_13 rfl 0 7 rfl rfl rfl rfl hR ⟨rfl, rfl⟩ (by omega) rfl (fun r w hX => ?_)
  obtain ⟨σ', rfl, hX⟩ := hX
  refine z_sw ?_
  refine z_aload_n C (z_d dtL_law_13 29 rfl) rfl ?_
  refine z_aload_n C (z_d dtL_law_13 30 rfl) rfl ?_
  refine z_iload_n C (z_d dtL_law_13 31 rfl) rfl ?_
  refine z_iconst C (z_d dtL_law_13 32 rfl) ?_
  refine z_iadd C (z_d dtL_law_13 33 rfl) ?_
  refine z_sld C S e1 (by omega) (by omega) (z_d dtL_law_13 34 rfl) ?_
  refine z_callVF C (z_d dtL_law_13 35 rfl) (k_X8_best (ad := ae) (σ := τ) (z := a1) okm rg1) cal_X8_best gw_27_9 rfl 0 8 rfl rfl rfl rfl hR ⟨rfl, rfl⟩ (by omega) rfl (fun r2 w hM => ?_)
  obtain ⟨τ', rfl, hM⟩ := hM
  refine z_sw ?_
  obtain ⟨er, μ, ν, q1, q2, J2⟩ := j_best (z := a1) J rg1 hX hM
  refine z_icmp_same (tgt := 1301) C (z_d dtL_law_13 36 rfl) (by decide) er ?_
  rw [← q1, ← q2]
  exact next μ ν _ _ (by omega) (by omega) J2
set_option maxRecDepth 100000 in
set_option maxHeartbeats 4000000 in
theorem lw_way {K : z_KT} {b L : Nat} {xs : Nat → Int} {ad ae : Nat → Nat} {σ τ : zMem} {i : Int} {cells slots : Nat} (C : Fc K cL_law RL 4) (hR : z_Rm K = z_rm 10 402 600000 7302250) (S : z_Sc K b L xs) (hL : L ≤ 3072) (hi : 0 ≤ i ∧ i + 6 ≤ L) (J : zJn σ τ) (hc : cells + 1 ≤ 600000 ∧ slots + 5 ≤ 7302250) (next : ∀ (σ' τ' : zMem) (c s : Nat), c ≤ cells + 1 → s ≤ slots + 5 → zJn σ' τ' → Gd K c s 1301 [some (.ref b), some (.ref (ad 0)), some (.ref (ae 0)), some (.int (zI i))] [] (wM ae (z_t K) τ' ++ wX ad (z_t K) σ')) : Gd K cells slots 851 [some (.ref b), some (.ref (ad 0)), some (.ref (ae 0)), some (.int (zI i))] [] (wM ae (z_t K) τ ++ wX ad (z_t K) σ) := by
  obtain ⟨a1, e1⟩ : ∃ a, xs (i + 1).toNat = a := ⟨_, rfl⟩
  have rg1 := S.rg (i + 1).toNat
  rw [e1] at rg1
  obtain ⟨a2, e2⟩ : ∃ a, xs (i + 2).toNat = a := ⟨_, rfl⟩
  have rg2 := S.rg (i + 2).toNat
  rw [e2] at rg2
  obtain ⟨a3, e3⟩ : ∃ a, xs (i + 3).toNat = a := ⟨_, rfl⟩
  have rg3 := S.rg (i + 3).toNat
  rw [e3] at rg3
  obtain ⟨a4, e4⟩ : ∃ a, xs (i + 4).toNat = a := ⟨_, rfl⟩
  have rg4 := S.rg (i + 4).toNat
  rw [e4] at rg4
  obtain ⟨a5, e5⟩ : ∃ a, xs (i + 5).toNat = a := ⟨_, rfl⟩
  have rg5 := S.rg (i + 5).toNat
  rw [e5] at rg5
  have okm := J.om
  refine z_aload_n C (z_d dtL_law_13 39 rfl) rfl ?_
  refine z_aload_n C (z_d dtL_law_14 0 rfl) rfl ?_
  refine z_iload_n C (z_d dtL_law_14 1 rfl) rfl ?_
  refine z_iconst C (z_d dtL_law_14 2 rfl) ?_
  refine z_iadd C (z_d dtL_law_14 3 rfl) ?_
  refine z_sld C S e1 (by omega) (by omega) (z_d dtL_law_14 4 rfl) ?_
  refine z_callVF C (z_d dtL_law_14 5 rfl) (k_X7_way (ad := ad) (σ := σ) (i := a1) J.1 rg1) cal_X7_way gw_27_22 rfl 0 7 rfl rfl rfl rfl hR ⟨rfl, rfl⟩ (by omega) rfl (fun r w hX => ?_)
  obtain ⟨rfl, hX⟩ := hX
  refine z_sw ?_
  refine z_aload_n C (z_d dtL_law_14 6 rfl) rfl ?_
  refine z_aload_n C (z_d dtL_law_14 7 rfl) rfl ?_
  refine z_iload_n C (z_d dtL_law_14 8 rfl) rfl ?_
  refine z_iconst C (z_d dtL_law_14 9 rfl) ?_
  refine z_iadd C (z_d dtL_law_14 10 rfl) ?_
  refine z_sld C S e1 (by omega) (by omega) (z_d dtL_law_14 11 rfl) ?_
  refine z_callVF C (z_d dtL_law_14 12 rfl) (k_X8_way (ad := ae) (σ := τ) (i := a1) okm rg1) cal_X8_way gw_28_2 rfl 0 8 rfl rfl rfl rfl hR ⟨rfl, rfl⟩ (by omega) rfl (fun r2 w hM => ?_)
  obtain ⟨rfl, hM⟩ := hM
  refine z_sw ?_
  have er := j_way (i := a1) J rg1 hX hM
  refine z_icmp_same (tgt := 1301) C (z_d dtL_law_14 13 rfl) (by decide) er ?_
  exact next _ _ _ _ (by omega) (by omega) J
set_option maxRecDepth 100000 in
set_option maxHeartbeats 4000000 in
theorem lw_learn {K : z_KT} {b L : Nat} {xs : Nat → Int} {ad ae : Nat → Nat} {σ τ : zMem} {i : Int} {cells slots : Nat} (C : Fc K cL_law RL 4) (hR : z_Rm K = z_rm 10 402 600000 7302250) (S : z_Sc K b L xs) (hL : L ≤ 3072) (hi : 0 ≤ i ∧ i + 6 ≤ L) (J : zJn σ τ) (hc : cells + 1 ≤ 600000 ∧ slots + 5 ≤ 7302250) (next : ∀ (σ' τ' : zMem) (c s : Nat), c ≤ cells + 1 → s ≤ slots + 5 → zJn σ' τ' → Gd K c s 1301 [some (.ref b), some (.ref (ad 0)), some (.ref (ae 0)), some (.int (zI i))] [] (wM ae (z_t K) τ' ++ wX ad (z_t K) σ')) : Gd K cells slots 874 [some (.ref b), some (.ref (ad 0)), some (.ref (ae 0)), some (.int (zI i))] [] (wM ae (z_t K) τ ++ wX ad (z_t K) σ) := by
  obtain ⟨a1, e1⟩ : ∃ a, xs (i + 1).toNat = a := ⟨_, rfl⟩
  have rg1 := S.rg (i + 1).toNat
  rw [e1] at rg1
  obtain ⟨a2, e2⟩ : ∃ a, xs (i + 2).toNat = a := ⟨_, rfl⟩
  have rg2 := S.rg (i + 2).toNat
  rw [e2] at rg2
  obtain ⟨a3, e3⟩ : ∃ a, xs (i + 3).toNat = a := ⟨_, rfl⟩
  have rg3 := S.rg (i + 3).toNat
  rw [e3] at rg3
  obtain ⟨a4, e4⟩ : ∃ a, xs (i + 4).toNat = a := ⟨_, rfl⟩
  have rg4 := S.rg (i + 4).toNat
  rw [e4] at rg4
  obtain ⟨a5, e5⟩ : ∃ a, xs (i + 5).toNat = a := ⟨_, rfl⟩
  have rg5 := S.rg (i + 5).toNat
  rw [e5] at rg5
  have okm := J.om
  refine z_aload_n C (z_d dtL_law_14 16 rfl) rfl ?_
  refine z_aload_n C (z_d dtL_law_14 17 rfl) rfl ?_
  refine z_iload_n C (z_d dtL_law_14 18 rfl) rfl ?_
  refine z_iconst C (z_d dtL_law_14 19 rfl) ?_
  refine z_iadd C (z_d dtL_law_14 20 rfl) ?_
  refine z_sld C S e1 (by omega) (by omega) (z_d dtL_law_14 21 rfl) ?_
  refine z_callVF C (z_d dtL_law_14 22 rfl) (k_X7_learn (ad := ad) (σ := σ) (z := a1) J.1 rg1) cal_X7_learn gw_28_6 rfl 0 7 rfl rfl rfl rfl hR ⟨rfl, rfl⟩ (by omega) rfl (fun r w hX => ?_)
  obtain ⟨σ', rfl, hX⟩ := hX
  refine z_sw ?_
  refine z_aload_n C (z_d dtL_law_14 23 rfl) rfl ?_
  refine z_aload_n C (z_d dtL_law_14 24 rfl) rfl ?_
  refine z_iload_n C (z_d dtL_law_14 25 rfl) rfl ?_
  refine z_iconst C (z_d dtL_law_14 26 rfl) ?_
  refine z_iadd C (z_d dtL_law_14 27 rfl) ?_
  refine z_sld C S e1 (by omega) (by omega) (z_d dtL_law_14 28 rfl) ?_
  refine z_callVF C (z_d dtL_law_14 29 rfl) (k_X8_learn (ad := ae) (σ := τ) (z := a1) okm rg1) cal_X8_learn gw_28_10 rfl 0 8 rfl rfl rfl rfl hR ⟨rfl, rfl⟩ (by omega) rfl (fun r2 w hM => ?_)
  obtain ⟨τ', rfl, hM⟩ := hM
  refine z_sw ?_
  obtain ⟨er, μ, ν, q1, q2, J2⟩ := j_learn (z := a1) J rg1 hX hM
  refine z_icmp_same (tgt := 1301) C (z_d dtL_law_14 30 rfl) (by decide) er ?_
  rw [← q1, ← q2]
  exact next μ ν _ _ (by omega) (by omega) J2
set_option maxRecDepth 100000 in
set_option maxHeartbeats 4000000 in
theorem lw_moved {K : z_KT} {b L : Nat} {xs : Nat → Int} {ad ae : Nat → Nat} {σ τ : zMem} {i : Int} {cells slots : Nat} (C : Fc K cL_law RL 4) (hR : z_Rm K = z_rm 10 402 600000 7302250) (S : z_Sc K b L xs) (hL : L ≤ 3072) (hi : 0 ≤ i ∧ i + 6 ≤ L) (J : zJn σ τ) (hc : cells + 1 ≤ 600000 ∧ slots + 5 ≤ 7302250) (next : ∀ (σ' τ' : zMem) (c s : Nat), c ≤ cells + 1 → s ≤ slots + 5 → zJn σ' τ' → Gd K c s 1301 [some (.ref b), some (.ref (ad 0)), some (.ref (ae 0)), some (.int (zI i))] [] (wM ae (z_t K) τ' ++ wX ad (z_t K) σ')) : Gd K cells slots 897 [some (.ref b), some (.ref (ad 0)), some (.ref (ae 0)), some (.int (zI i))] [] (wM ae (z_t K) τ ++ wX ad (z_t K) σ) := by
  obtain ⟨a1, e1⟩ : ∃ a, xs (i + 1).toNat = a := ⟨_, rfl⟩
  have rg1 := S.rg (i + 1).toNat
  rw [e1] at rg1
  obtain ⟨a2, e2⟩ : ∃ a, xs (i + 2).toNat = a := ⟨_, rfl⟩
  have rg2 := S.rg (i + 2).toNat
  rw [e2] at rg2
  obtain ⟨a3, e3⟩ : ∃ a, xs (i + 3).toNat = a := ⟨_, rfl⟩
  have rg3 := S.rg (i + 3).toNat
  rw [e3] at rg3
  obtain ⟨a4, e4⟩ : ∃ a, xs (i + 4).toNat = a := ⟨_, rfl⟩
  have rg4 := S.rg (i + 4).toNat
  rw [e4] at rg4
  obtain ⟨a5, e5⟩ : ∃ a, xs (i + 5).toNat = a := ⟨_, rfl⟩
  have rg5 := S.rg (i + 5).toNat
  rw [e5] at rg5
  have okm := J.om
  refine z_aload_n C (z_d dtL_law_14 33 rfl) rfl ?_
  refine z_aload_n C (z_d dtL_law_14 34 rfl) rfl ?_
  refine z_iload_n C (z_d dtL_law_14 35 rfl) rfl ?_
  refine z_iconst C (z_d dtL_law_14 36 rfl) ?_
  refine z_iadd C (z_d dtL_law_14 37 rfl) ?_
  refine z_sld C S e1 (by omega) (by omega) (z_d dtL_law_14 38 rfl) ?_
  refine z_callVF C (z_d dtL_law_14 39 rfl) (k_X7_moved (ad := ad) (σ := σ) (z := a1) J.1 rg1) cal_X7_moved gw_28_14 rfl 0 7 rfl rfl rfl rfl hR ⟨rfl, rfl⟩ (by omega) rfl (fun r w hX => ?_)
  obtain ⟨σ', rfl, hX⟩ := hX
  refine z_sw ?_
  refine z_aload_n C (z_d dtL_law_15 0 rfl) rfl ?_
  refine z_aload_n C (z_d dtL_law_15 1 rfl) rfl ?_
  refine z_iload_n C (z_d dtL_law_15 2 rfl) rfl ?_
  refine z_iconst C (z_d dtL_law_15 3 rfl) ?_
  refine z_iadd C (z_d dtL_law_15 4 rfl) ?_
  refine z_sld C S e1 (by omega) (by omega) (z_d dtL_law_15 5 rfl) ?_
  refine z_callVF C (z_d dtL_law_15 6 rfl) (k_X8_moved (ad := ae) (σ := τ) (z := a1) okm rg1) cal_X8_moved gw_29_0 rfl 0 8 rfl rfl rfl rfl hR ⟨rfl, rfl⟩ (by omega) rfl (fun r2 w hM => ?_)
  obtain ⟨τ', rfl, hM⟩ := hM
  refine z_sw ?_
  obtain ⟨er, μ, ν, q1, q2, J2⟩ := j_moved (z := a1) J rg1 hX hM
  refine z_icmp_same (tgt := 1301) C (z_d dtL_law_15 7 rfl) (by decide) er ?_
  rw [← q1, ← q2]
  exact next μ ν _ _ (by omega) (by omega) J2
set_option maxRecDepth 100000 in
set_option maxHeartbeats 4000000 in
theorem lw_put {K : z_KT} {b L : Nat} {xs : Nat → Int} {ad ae : Nat → Nat} {σ τ : zMem} {i : Int} {cells slots : Nat} (C : Fc K cL_law RL 4) (hR : z_Rm K = z_rm 10 402 600000 7302250) (S : z_Sc K b L xs) (hL : L ≤ 3072) (hi : 0 ≤ i ∧ i + 6 ≤ L) (J : zJn σ τ) (hc : cells + 1 ≤ 600000 ∧ slots + 5 ≤ 7302250) (next : ∀ (σ' τ' : zMem) (c s : Nat), c ≤ cells + 1 → s ≤ slots + 5 → zJn σ' τ' → Gd K c s 1301 [some (.ref b), some (.ref (ad 0)), some (.ref (ae 0)), some (.int (zI i))] [] (wM ae (z_t K) τ' ++ wX ad (z_t K) σ')) : Gd K cells slots 920 [some (.ref b), some (.ref (ad 0)), some (.ref (ae 0)), some (.int (zI i))] [] (wM ae (z_t K) τ ++ wX ad (z_t K) σ) := by
  obtain ⟨a1, e1⟩ : ∃ a, xs (i + 1).toNat = a := ⟨_, rfl⟩
  have rg1 := S.rg (i + 1).toNat
  rw [e1] at rg1
  obtain ⟨a2, e2⟩ : ∃ a, xs (i + 2).toNat = a := ⟨_, rfl⟩
  have rg2 := S.rg (i + 2).toNat
  rw [e2] at rg2
  obtain ⟨a3, e3⟩ : ∃ a, xs (i + 3).toNat = a := ⟨_, rfl⟩
  have rg3 := S.rg (i + 3).toNat
  rw [e3] at rg3
  obtain ⟨a4, e4⟩ : ∃ a, xs (i + 4).toNat = a := ⟨_, rfl⟩
  have rg4 := S.rg (i + 4).toNat
  rw [e4] at rg4
  obtain ⟨a5, e5⟩ : ∃ a, xs (i + 5).toNat = a := ⟨_, rfl⟩
  have rg5 := S.rg (i + 5).toNat
  rw [e5] at rg5
  have okm := J.om
  refine z_aload_n C (z_d dtL_law_15 10 rfl) rfl ?_
  refine z_aload_n C (z_d dtL_law_15 11 rfl) rfl ?_
  refine z_iload_n C (z_d dtL_law_15 12 rfl) rfl ?_
  refine z_iconst C (z_d dtL_law_15 13 rfl) ?_
  refine z_iadd C (z_d dtL_law_15 14 rfl) ?_
  refine z_sld C S e1 (by omega) (by omega) (z_d dtL_law_15 15 rfl) ?_
  refine z_aload_n C (z_d dtL_law_15 16 rfl) rfl ?_
  refine z_iload_n C (z_d dtL_law_15 17 rfl) rfl ?_
  refine z_iconst C (z_d dtL_law_15 18 rfl) ?_
  refine z_iadd C (z_d dtL_law_15 19 rfl) ?_
  refine z_sld C S e2 (by omega) (by omega) (z_d dtL_law_15 20 rfl) ?_
  refine z_callVF C (z_d dtL_law_15 21 rfl) (k_X7_put (ad := ad) (σ := σ) (k := a1) (c := a2) J.1 rg1 rg2) cal_X7_put gw_29_4 rfl 0 7 rfl rfl rfl rfl hR ⟨rfl, rfl⟩ (by omega) rfl (fun r w hX => ?_)
  obtain ⟨σ', rfl, hX⟩ := hX
  refine z_sw ?_
  refine z_aload_n C (z_d dtL_law_15 22 rfl) rfl ?_
  refine z_aload_n C (z_d dtL_law_15 23 rfl) rfl ?_
  refine z_iload_n C (z_d dtL_law_15 24 rfl) rfl ?_
  refine z_iconst C (z_d dtL_law_15 25 rfl) ?_
  refine z_iadd C (z_d dtL_law_15 26 rfl) ?_
  refine z_sld C S e1 (by omega) (by omega) (z_d dtL_law_15 27 rfl) ?_
  refine z_aload_n C (z_d dtL_law_15 28 rfl) rfl ?_
  refine z_iload_n C (z_d dtL_law_15 29 rfl) rfl ?_
  refine z_iconst C (z_d dtL_law_15 30 rfl) ?_
  refine z_iadd C (z_d dtL_law_15 31 rfl) ?_
  refine z_sld C S e2 (by omega) (by omega) (z_d dtL_law_15 32 rfl) ?_
  refine z_callVF C (z_d dtL_law_15 33 rfl) (k_X8_put (ad := ae) (σ := τ) (k := a1) (c := a2) okm rg1 rg2) cal_X8_put gw_29_12 rfl 0 8 rfl rfl rfl rfl hR ⟨rfl, rfl⟩ (by omega) rfl (fun r2 w hM => ?_)
  obtain ⟨τ', rfl, hM⟩ := hM
  refine z_sw ?_
  obtain ⟨er, μ, ν, q1, q2, J2⟩ := j_put (k := a1) (c := a2) J rg1 rg2 hX hM
  refine z_icmp_same (tgt := 1301) C (z_d dtL_law_15 34 rfl) (by decide) er ?_
  rw [← q1, ← q2]
  exact next μ ν _ _ (by omega) (by omega) J2
set_option maxRecDepth 100000 in
set_option maxHeartbeats 4000000 in
theorem lw_least {K : z_KT} {b L : Nat} {xs : Nat → Int} {ad ae : Nat → Nat} {σ τ : zMem} {i : Int} {cells slots : Nat} (C : Fc K cL_law RL 4) (hR : z_Rm K = z_rm 10 402 600000 7302250) (S : z_Sc K b L xs) (hL : L ≤ 3072) (hi : 0 ≤ i ∧ i + 6 ≤ L) (J : zJn σ τ) (hc : cells + 1 ≤ 600000 ∧ slots + 5 ≤ 7302250) (next : ∀ (σ' τ' : zMem) (c s : Nat), c ≤ cells + 1 → s ≤ slots + 5 → zJn σ' τ' → Gd K c s 1301 [some (.ref b), some (.ref (ad 0)), some (.ref (ae 0)), some (.int (zI i))] [] (wM ae (z_t K) τ' ++ wX ad (z_t K) σ')) : Gd K cells slots 953 [some (.ref b), some (.ref (ad 0)), some (.ref (ae 0)), some (.int (zI i))] [] (wM ae (z_t K) τ ++ wX ad (z_t K) σ) := by
  obtain ⟨a1, e1⟩ : ∃ a, xs (i + 1).toNat = a := ⟨_, rfl⟩
  have rg1 := S.rg (i + 1).toNat
  rw [e1] at rg1
  obtain ⟨a2, e2⟩ : ∃ a, xs (i + 2).toNat = a := ⟨_, rfl⟩
  have rg2 := S.rg (i + 2).toNat
  rw [e2] at rg2
  obtain ⟨a3, e3⟩ : ∃ a, xs (i + 3).toNat = a := ⟨_, rfl⟩
  have rg3 := S.rg (i + 3).toNat
  rw [e3] at rg3
  obtain ⟨a4, e4⟩ : ∃ a, xs (i + 4).toNat = a := ⟨_, rfl⟩
  have rg4 := S.rg (i + 4).toNat
  rw [e4] at rg4
  obtain ⟨a5, e5⟩ : ∃ a, xs (i + 5).toNat = a := ⟨_, rfl⟩
  have rg5 := S.rg (i + 5).toNat
  rw [e5] at rg5
  have okm := J.om
  refine z_aload_n C (z_d dtL_law_15 37 rfl) rfl ?_
  refine z_aload_n C (z_d dtL_law_15 38 rfl) rfl ?_
  refine z_iload_n C (z_d dtL_law_15 39 rfl) rfl ?_
  refine z_iconst C (z_d dtL_law_16 0 rfl) ?_
  refine z_iadd C (z_d dtL_law_16 1 rfl) ?_
  refine z_sld C S e1 (by omega) (by omega) (z_d dtL_law_16 2 rfl) ?_
  refine z_callVF C (z_d dtL_law_16 3 rfl) (k_X7_least (ad := ad) (σ := σ) (n := a1) J.1 rg1) cal_X7_least gw_29_16 rfl 0 7 rfl rfl rfl rfl hR ⟨rfl, rfl⟩ (by omega) rfl (fun r w hX => ?_)
  obtain ⟨σ', rfl, hX⟩ := hX
  refine z_sw ?_
  refine z_aload_n C (z_d dtL_law_16 4 rfl) rfl ?_
  refine z_aload_n C (z_d dtL_law_16 5 rfl) rfl ?_
  refine z_iload_n C (z_d dtL_law_16 6 rfl) rfl ?_
  refine z_iconst C (z_d dtL_law_16 7 rfl) ?_
  refine z_iadd C (z_d dtL_law_16 8 rfl) ?_
  refine z_sld C S e1 (by omega) (by omega) (z_d dtL_law_16 9 rfl) ?_
  refine z_callVF C (z_d dtL_law_16 10 rfl) (k_X8_least (ad := ae) (σ := τ) (n := a1) okm rg1) cal_X8_least gw_30_0 rfl 0 8 rfl rfl rfl rfl hR ⟨rfl, rfl⟩ (by omega) rfl (fun r2 w hM => ?_)
  obtain ⟨τ', rfl, hM⟩ := hM
  refine z_sw ?_
  obtain ⟨er, μ, ν, q1, q2, J2⟩ := j_least (n := a1) J rg1 hX hM
  refine z_icmp_same (tgt := 1301) C (z_d dtL_law_16 11 rfl) (by decide) er ?_
  rw [← q1, ← q2]
  exact next μ ν _ _ (by omega) (by omega) J2
set_option maxRecDepth 100000 in
set_option maxHeartbeats 4000000 in
theorem lw_give {K : z_KT} {b L : Nat} {xs : Nat → Int} {ad ae : Nat → Nat} {σ τ : zMem} {i : Int} {cells slots : Nat} (C : Fc K cL_law RL 4) (hR : z_Rm K = z_rm 10 402 600000 7302250) (S : z_Sc K b L xs) (hL : L ≤ 3072) (hi : 0 ≤ i ∧ i + 6 ≤ L) (J : zJn σ τ) (hc : cells + 1 ≤ 600000 ∧ slots + 5 ≤ 7302250) (next : ∀ (σ' τ' : zMem) (c s : Nat), c ≤ cells + 1 → s ≤ slots + 5 → zJn σ' τ' → Gd K c s 1301 [some (.ref b), some (.ref (ad 0)), some (.ref (ae 0)), some (.int (zI i))] [] (wM ae (z_t K) τ' ++ wX ad (z_t K) σ')) : Gd K cells slots 976 [some (.ref b), some (.ref (ad 0)), some (.ref (ae 0)), some (.int (zI i))] [] (wM ae (z_t K) τ ++ wX ad (z_t K) σ) := by
  obtain ⟨a1, e1⟩ : ∃ a, xs (i + 1).toNat = a := ⟨_, rfl⟩
  have rg1 := S.rg (i + 1).toNat
  rw [e1] at rg1
  obtain ⟨a2, e2⟩ : ∃ a, xs (i + 2).toNat = a := ⟨_, rfl⟩
  have rg2 := S.rg (i + 2).toNat
  rw [e2] at rg2
  obtain ⟨a3, e3⟩ : ∃ a, xs (i + 3).toNat = a := ⟨_, rfl⟩
  have rg3 := S.rg (i + 3).toNat
  rw [e3] at rg3
  obtain ⟨a4, e4⟩ : ∃ a, xs (i + 4).toNat = a := ⟨_, rfl⟩
  have rg4 := S.rg (i + 4).toNat
  rw [e4] at rg4
  obtain ⟨a5, e5⟩ : ∃ a, xs (i + 5).toNat = a := ⟨_, rfl⟩
  have rg5 := S.rg (i + 5).toNat
  rw [e5] at rg5
  have okm := J.om
  refine z_aload_n C (z_d dtL_law_16 14 rfl) rfl ?_
  refine z_aload_n C (z_d dtL_law_16 15 rfl) rfl ?_
  refine z_iload_n C (z_d dtL_law_16 16 rfl) rfl ?_
  refine z_iconst C (z_d dtL_law_16 17 rfl) ?_
  refine z_iadd C (z_d dtL_law_16 18 rfl) ?_
  refine z_sld C S e1 (by omega) (by omega) (z_d dtL_law_16 19 rfl) ?_
  refine z_aload_n C (z_d dtL_law_16 20 rfl) rfl ?_
  refine z_iload_n C (z_d dtL_law_16 21 rfl) rfl ?_
  refine z_iconst C (z_d dtL_law_16 22 rfl) ?_
  refine z_iadd C (z_d dtL_law_16 23 rfl) ?_
  refine z_sld C S e2 (by omega) (by omega) (z_d dtL_law_16 24 rfl) ?_
  refine z_aload_n C (z_d dtL_law_16 25 rfl) rfl ?_
  refine z_iload_n C (z_d dtL_law_16 26 rfl) rfl ?_
  refine z_iconst C (z_d dtL_law_16 27 rfl) ?_
  refine z_iadd C (z_d dtL_law_16 28 rfl) ?_
  refine z_sld C S e3 (by omega) (by omega) (z_d dtL_law_16 29 rfl) ?_
  refine z_aload_n C (z_d dtL_law_16 30 rfl) rfl ?_
  refine z_iload_n C (z_d dtL_law_16 31 rfl) rfl ?_
  refine z_iconst C (z_d dtL_law_16 32 rfl) ?_
  refine z_iadd C (z_d dtL_law_16 33 rfl) ?_
  refine z_sld C S e4 (by omega) (by omega) (z_d dtL_law_16 34 rfl) ?_
  refine z_aload_n C (z_d dtL_law_16 35 rfl) rfl ?_
  refine z_iload_n C (z_d dtL_law_16 36 rfl) rfl ?_
  refine z_iconst C (z_d dtL_law_16 37 rfl) ?_
  refine z_iadd C (z_d dtL_law_16 38 rfl) ?_
  refine z_sld C S e5 (by omega) (by omega) (z_d dtL_law_16 39 rfl) ?_
  refine z_callVF C (z_d dtL_law_17 0 rfl) (k_X7_give (ad := ad) (σ := σ) (f := a1) (x0 := a2) (x1 := a3) (y0 := a4) (y1 := a5) J.1 J.2.1 rg1 rg2 rg3 rg4 rg5) cal_X7_give gw_30_4 rfl 0 7 rfl rfl rfl rfl hR ⟨rfl, rfl⟩ (by omega) rfl (fun r w hX => ?_)
  obtain ⟨σ', rfl, hX⟩ := hX
  refine z_sw ?_
  refine z_aload_n C (z_d dtL_law_17 1 rfl) rfl ?_
  refine z_aload_n C (z_d dtL_law_17 2 rfl) rfl ?_
  refine z_iload_n C (z_d dtL_law_17 3 rfl) rfl ?_
  refine z_iconst C (z_d dtL_law_17 4 rfl) ?_
  refine z_iadd C (z_d dtL_law_17 5 rfl) ?_
  refine z_sld C S e1 (by omega) (by omega) (z_d dtL_law_17 6 rfl) ?_
  refine z_aload_n C (z_d dtL_law_17 7 rfl) rfl ?_
  refine z_iload_n C (z_d dtL_law_17 8 rfl) rfl ?_
  refine z_iconst C (z_d dtL_law_17 9 rfl) ?_
  refine z_iadd C (z_d dtL_law_17 10 rfl) ?_
  refine z_sld C S e2 (by omega) (by omega) (z_d dtL_law_17 11 rfl) ?_
  refine z_aload_n C (z_d dtL_law_17 12 rfl) rfl ?_
  refine z_iload_n C (z_d dtL_law_17 13 rfl) rfl ?_
  refine z_iconst C (z_d dtL_law_17 14 rfl) ?_
  refine z_iadd C (z_d dtL_law_17 15 rfl) ?_
  refine z_sld C S e3 (by omega) (by omega) (z_d dtL_law_17 16 rfl) ?_
  refine z_aload_n C (z_d dtL_law_17 17 rfl) rfl ?_
  refine z_iload_n C (z_d dtL_law_17 18 rfl) rfl ?_
  refine z_iconst C (z_d dtL_law_17 19 rfl) ?_
  refine z_iadd C (z_d dtL_law_17 20 rfl) ?_
  refine z_sld C S e4 (by omega) (by omega) (z_d dtL_law_17 21 rfl) ?_
  refine z_aload_n C (z_d dtL_law_17 22 rfl) rfl ?_
  refine z_iload_n C (z_d dtL_law_17 23 rfl) rfl ?_
  refine z_iconst C (z_d dtL_law_17 24 rfl) ?_
  refine z_iadd C (z_d dtL_law_17 25 rfl) ?_
  refine z_sld C S e5 (by omega) (by omega) (z_d dtL_law_17 26 rfl) ?_
  refine z_callVF C (z_d dtL_law_17 27 rfl) (k_X8_give (ad := ae) (σ := τ) (f := a1) (x0 := a2) (x1 := a3) (y0 := a4) (y1 := a5) okm rg1 rg2 rg3 rg4 rg5) cal_X8_give gw_32_10 rfl 0 8 rfl rfl rfl rfl hR ⟨rfl, rfl⟩ (by omega) rfl (fun r2 w hM => ?_)
  obtain ⟨τ', rfl, hM⟩ := hM
  refine z_sw ?_
  obtain ⟨er, μ, ν, q1, q2, J2⟩ := j_give (f := a1) (x0 := a2) (x1 := a3) (y0 := a4) (y1 := a5) J rg1 rg2 rg3 rg4 rg5 hX hM
  refine z_icmp_same (tgt := 1301) C (z_d dtL_law_17 28 rfl) (by decide) er ?_
  rw [← q1, ← q2]
  exact next μ ν _ _ (by omega) (by omega) J2
set_option maxRecDepth 100000 in
set_option maxHeartbeats 4000000 in
theorem lw_sheet {K : z_KT} {b L : Nat} {xs : Nat → Int} {ad ae : Nat → Nat} {σ τ : zMem} {i : Int} {cells slots : Nat} (C : Fc K cL_law RL 4) (hR : z_Rm K = z_rm 10 402 600000 7302250) (S : z_Sc K b L xs) (hL : L ≤ 3072) (hi : 0 ≤ i ∧ i + 6 ≤ L) (J : zJn σ τ) (hc : cells + 1 ≤ 600000 ∧ slots + 5 ≤ 7302250) (next : ∀ (σ' τ' : zMem) (c s : Nat), c ≤ cells + 1 → s ≤ slots + 5 → zJn σ' τ' → Gd K c s 1301 [some (.ref b), some (.ref (ad 0)), some (.ref (ae 0)), some (.int (zI i))] [] (wM ae (z_t K) τ' ++ wX ad (z_t K) σ')) : Gd K cells slots 1039 [some (.ref b), some (.ref (ad 0)), some (.ref (ae 0)), some (.int (zI i))] [] (wM ae (z_t K) τ ++ wX ad (z_t K) σ) := by
  obtain ⟨a1, e1⟩ : ∃ a, xs (i + 1).toNat = a := ⟨_, rfl⟩
  have rg1 := S.rg (i + 1).toNat
  rw [e1] at rg1
  obtain ⟨a2, e2⟩ : ∃ a, xs (i + 2).toNat = a := ⟨_, rfl⟩
  have rg2 := S.rg (i + 2).toNat
  rw [e2] at rg2
  obtain ⟨a3, e3⟩ : ∃ a, xs (i + 3).toNat = a := ⟨_, rfl⟩
  have rg3 := S.rg (i + 3).toNat
  rw [e3] at rg3
  obtain ⟨a4, e4⟩ : ∃ a, xs (i + 4).toNat = a := ⟨_, rfl⟩
  have rg4 := S.rg (i + 4).toNat
  rw [e4] at rg4
  obtain ⟨a5, e5⟩ : ∃ a, xs (i + 5).toNat = a := ⟨_, rfl⟩
  have rg5 := S.rg (i + 5).toNat
  rw [e5] at rg5
  have okm := J.om
  refine z_aload_n C (z_d dtL_law_17 31 rfl) rfl ?_
  refine z_aload_n C (z_d dtL_law_17 32 rfl) rfl ?_
  refine z_iload_n C (z_d dtL_law_17 33 rfl) rfl ?_
  refine z_iconst C (z_d dtL_law_17 34 rfl) ?_
  refine z_iadd C (z_d dtL_law_17 35 rfl) ?_
  refine z_sld C S e1 (by omega) (by omega) (z_d dtL_law_17 36 rfl) ?_
  refine z_aload_n C (z_d dtL_law_17 37 rfl) rfl ?_
  refine z_iload_n C (z_d dtL_law_17 38 rfl) rfl ?_
  refine z_iconst C (z_d dtL_law_17 39 rfl) ?_
  refine z_iadd C (z_d dtL_law_18 0 rfl) ?_
  refine z_sld C S e2 (by omega) (by omega) (z_d dtL_law_18 1 rfl) ?_
  refine z_aload_n C (z_d dtL_law_18 2 rfl) rfl ?_
  refine z_iload_n C (z_d dtL_law_18 3 rfl) rfl ?_
  refine z_iconst C (z_d dtL_law_18 4 rfl) ?_
  refine z_iadd C (z_d dtL_law_18 5 rfl) ?_
  refine z_sld C S e3 (by omega) (by omega) (z_d dtL_law_18 6 rfl) ?_
  refine z_callVF C (z_d dtL_law_18 7 rfl) (k_X7_sheet (ad := ad) (σ := σ) (z := a1) (f := a2) (n := a3) J.1 rg1 rg2 rg3) cal_X7_sheet gw_32_18 rfl 0 7 rfl rfl rfl rfl hR ⟨rfl, rfl⟩ (by omega) rfl (fun r w hX => ?_)
  obtain ⟨σ', rfl, hX⟩ := hX
  refine z_sw ?_
  refine z_aload_n C (z_d dtL_law_18 8 rfl) rfl ?_
  refine z_aload_n C (z_d dtL_law_18 9 rfl) rfl ?_
  refine z_iload_n C (z_d dtL_law_18 10 rfl) rfl ?_
  refine z_iconst C (z_d dtL_law_18 11 rfl) ?_
  refine z_iadd C (z_d dtL_law_18 12 rfl) ?_
  refine z_sld C S e1 (by omega) (by omega) (z_d dtL_law_18 13 rfl) ?_
  refine z_aload_n C (z_d dtL_law_18 14 rfl) rfl ?_
  refine z_iload_n C (z_d dtL_law_18 15 rfl) rfl ?_
  refine z_iconst C (z_d dtL_law_18 16 rfl) ?_
  refine z_iadd C (z_d dtL_law_18 17 rfl) ?_
  refine z_sld C S e2 (by omega) (by omega) (z_d dtL_law_18 18 rfl) ?_
  refine z_aload_n C (z_d dtL_law_18 19 rfl) rfl ?_
  refine z_iload_n C (z_d dtL_law_18 20 rfl) rfl ?_
  refine z_iconst C (z_d dtL_law_18 21 rfl) ?_
  refine z_iadd C (z_d dtL_law_18 22 rfl) ?_
  refine z_sld C S e3 (by omega) (by omega) (z_d dtL_law_18 23 rfl) ?_
  refine z_callVF C (z_d dtL_law_18 24 rfl) (k_X8_sheet (ad := ae) (σ := τ) (z := a1) (f := a2) (n := a3) okm rg1 rg2 rg3) cal_X8_sheet gw_33_6 rfl 0 8 rfl rfl rfl rfl hR ⟨rfl, rfl⟩ (by omega) rfl (fun r2 w hM => ?_)
  obtain ⟨τ', rfl, hM⟩ := hM
  refine z_sw ?_
  obtain ⟨er, μ, ν, q1, q2, J2⟩ := j_sheet (z := a1) (f := a2) (n := a3) J rg1 rg2 rg3 hX hM
  refine z_icmp_same (tgt := 1301) C (z_d dtL_law_18 25 rfl) (by decide) er ?_
  rw [← q1, ← q2]
  exact next μ ν _ _ (by omega) (by omega) J2
set_option maxRecDepth 100000 in
set_option maxHeartbeats 4000000 in
theorem lw_lose {K : z_KT} {b L : Nat} {xs : Nat → Int} {ad ae : Nat → Nat} {σ τ : zMem} {i : Int} {cells slots : Nat} (C : Fc K cL_law RL 4) (hR : z_Rm K = z_rm 10 402 600000 7302250) (S : z_Sc K b L xs) (hL : L ≤ 3072) (hi : 0 ≤ i ∧ i + 6 ≤ L) (J : zJn σ τ) (hc : cells + 1 ≤ 600000 ∧ slots + 5 ≤ 7302250) (next : ∀ (σ' τ' : zMem) (c s : Nat), c ≤ cells + 1 → s ≤ slots + 5 → zJn σ' τ' → Gd K c s 1301 [some (.ref b), some (.ref (ad 0)), some (.ref (ae 0)), some (.int (zI i))] [] (wM ae (z_t K) τ' ++ wX ad (z_t K) σ')) : Gd K cells slots 1082 [some (.ref b), some (.ref (ad 0)), some (.ref (ae 0)), some (.int (zI i))] [] (wM ae (z_t K) τ ++ wX ad (z_t K) σ) := by
  obtain ⟨a1, e1⟩ : ∃ a, xs (i + 1).toNat = a := ⟨_, rfl⟩
  have rg1 := S.rg (i + 1).toNat
  rw [e1] at rg1
  obtain ⟨a2, e2⟩ : ∃ a, xs (i + 2).toNat = a := ⟨_, rfl⟩
  have rg2 := S.rg (i + 2).toNat
  rw [e2] at rg2
  obtain ⟨a3, e3⟩ : ∃ a, xs (i + 3).toNat = a := ⟨_, rfl⟩
  have rg3 := S.rg (i + 3).toNat
  rw [e3] at rg3
  obtain ⟨a4, e4⟩ : ∃ a, xs (i + 4).toNat = a := ⟨_, rfl⟩
  have rg4 := S.rg (i + 4).toNat
  rw [e4] at rg4
  obtain ⟨a5, e5⟩ : ∃ a, xs (i + 5).toNat = a := ⟨_, rfl⟩
  have rg5 := S.rg (i + 5).toNat
  rw [e5] at rg5
  have okm := J.om
  refine z_aload_n C (z_d dtL_law_18 28 rfl) rfl ?_
  refine z_aload_n C (z_d dtL_law_18 29 rfl) rfl ?_
  refine z_iload_n C (z_d dtL_law_18 30 rfl) rfl ?_
  refine z_iconst C (z_d dtL_law_18 31 rfl) ?_
  refine z_iadd C (z_d dtL_law_18 32 rfl) ?_
  refine z_sld C S e1 (by omega) (by omega) (z_d dtL_law_18 33 rfl) ?_
  refine z_callVF C (z_d dtL_law_18 34 rfl) (k_X7_lose (ad := ad) (σ := σ) (z := a1) J.1 rg1) cal_X7_lose gw_33_10 rfl 0 7 rfl rfl rfl rfl hR ⟨rfl, rfl⟩ (by omega) rfl (fun r w hX => ?_)
  obtain ⟨σ', rfl, hX⟩ := hX
  refine z_sw ?_
  refine z_aload_n C (z_d dtL_law_18 35 rfl) rfl ?_
  refine z_aload_n C (z_d dtL_law_18 36 rfl) rfl ?_
  refine z_iload_n C (z_d dtL_law_18 37 rfl) rfl ?_
  refine z_iconst C (z_d dtL_law_18 38 rfl) ?_
  refine z_iadd C (z_d dtL_law_18 39 rfl) ?_
  refine z_sld C S e1 (by omega) (by omega) (z_d dtL_law_19 0 rfl) ?_
  refine z_callVF C (z_d dtL_law_19 1 rfl) (k_X8_lose (ad := ae) (σ := τ) (z := a1) okm rg1) cal_X8_lose gw_33_18 rfl 0 8 rfl rfl rfl rfl hR ⟨rfl, rfl⟩ (by omega) rfl (fun r2 w hM => ?_)
  obtain ⟨τ', rfl, hM⟩ := hM
  refine z_sw ?_
  obtain ⟨er, μ, ν, q1, q2, J2⟩ := j_lose (z := a1) J rg1 hX hM
  refine z_icmp_same (tgt := 1301) C (z_d dtL_law_19 2 rfl) (by decide) er ?_
  rw [← q1, ← q2]
  exact next μ ν _ _ (by omega) (by omega) J2
set_option maxRecDepth 100000 in
set_option maxHeartbeats 4000000 in
theorem lw_lay {K : z_KT} {b L : Nat} {xs : Nat → Int} {ad ae : Nat → Nat} {σ τ : zMem} {i : Int} {cells slots : Nat} (C : Fc K cL_law RL 4) (hR : z_Rm K = z_rm 10 402 600000 7302250) (S : z_Sc K b L xs) (hL : L ≤ 3072) (hi : 0 ≤ i ∧ i + 6 ≤ L) (J : zJn σ τ) (hc : cells + 1 ≤ 600000 ∧ slots + 5 ≤ 7302250) (next : ∀ (σ' τ' : zMem) (c s : Nat), c ≤ cells + 1 → s ≤ slots + 5 → zJn σ' τ' → Gd K c s 1301 [some (.ref b), some (.ref (ad 0)), some (.ref (ae 0)), some (.int (zI i))] [] (wM ae (z_t K) τ' ++ wX ad (z_t K) σ')) : Gd K cells slots 1105 [some (.ref b), some (.ref (ad 0)), some (.ref (ae 0)), some (.int (zI i))] [] (wM ae (z_t K) τ ++ wX ad (z_t K) σ) := by
  obtain ⟨a1, e1⟩ : ∃ a, xs (i + 1).toNat = a := ⟨_, rfl⟩
  have rg1 := S.rg (i + 1).toNat
  rw [e1] at rg1
  obtain ⟨a2, e2⟩ : ∃ a, xs (i + 2).toNat = a := ⟨_, rfl⟩
  have rg2 := S.rg (i + 2).toNat
  rw [e2] at rg2
  obtain ⟨a3, e3⟩ : ∃ a, xs (i + 3).toNat = a := ⟨_, rfl⟩
  have rg3 := S.rg (i + 3).toNat
  rw [e3] at rg3
  obtain ⟨a4, e4⟩ : ∃ a, xs (i + 4).toNat = a := ⟨_, rfl⟩
  have rg4 := S.rg (i + 4).toNat
  rw [e4] at rg4
  obtain ⟨a5, e5⟩ : ∃ a, xs (i + 5).toNat = a := ⟨_, rfl⟩
  have rg5 := S.rg (i + 5).toNat
  rw [e5] at rg5
  have okm := J.om
  refine z_aload_n C (z_d dtL_law_19 5 rfl) rfl ?_
  refine z_aload_n C (z_d dtL_law_19 6 rfl) rfl ?_
  refine z_iload_n C (z_d dtL_law_19 7 rfl) rfl ?_
  refine z_iconst C (z_d dtL_law_19 8 rfl) ?_
  refine z_iadd C (z_d dtL_law_19 9 rfl) ?_
  refine z_sld C S e1 (by omega) (by omega) (z_d dtL_law_19 10 rfl) ?_
  refine z_aload_n C (z_d dtL_law_19 11 rfl) rfl ?_
  refine z_iload_n C (z_d dtL_law_19 12 rfl) rfl ?_
  refine z_iconst C (z_d dtL_law_19 13 rfl) ?_
  refine z_iadd C (z_d dtL_law_19 14 rfl) ?_
  refine z_sld C S e2 (by omega) (by omega) (z_d dtL_law_19 15 rfl) ?_
  refine z_aload_n C (z_d dtL_law_19 16 rfl) rfl ?_
  refine z_iload_n C (z_d dtL_law_19 17 rfl) rfl ?_
  refine z_iconst C (z_d dtL_law_19 18 rfl) ?_
  refine z_iadd C (z_d dtL_law_19 19 rfl) ?_
  refine z_sld C S e3 (by omega) (by omega) (z_d dtL_law_19 20 rfl) ?_
  refine z_aload_n C (z_d dtL_law_19 21 rfl) rfl ?_
  refine z_iload_n C (z_d dtL_law_19 22 rfl) rfl ?_
  refine z_iconst C (z_d dtL_law_19 23 rfl) ?_
  refine z_iadd C (z_d dtL_law_19 24 rfl) ?_
  refine z_sld C S e4 (by omega) (by omega) (z_d dtL_law_19 25 rfl) ?_
  refine z_callVF C (z_d dtL_law_19 26 rfl) (k_X7_lay (ad := ad) (σ := σ) (z := a1) (f := a2) (i := a3) (v := a4) J.1 rg1 rg2 rg3 rg4) cal_X7_lay gw_33_22 rfl 0 7 rfl rfl rfl rfl hR ⟨rfl, rfl⟩ (by omega) rfl (fun r w hX => ?_)
  obtain ⟨σ', rfl, hX⟩ := hX
  refine z_sw ?_
  refine z_aload_n C (z_d dtL_law_19 27 rfl) rfl ?_
  refine z_aload_n C (z_d dtL_law_19 28 rfl) rfl ?_
  refine z_iload_n C (z_d dtL_law_19 29 rfl) rfl ?_
  refine z_iconst C (z_d dtL_law_19 30 rfl) ?_
  refine z_iadd C (z_d dtL_law_19 31 rfl) ?_
  refine z_sld C S e1 (by omega) (by omega) (z_d dtL_law_19 32 rfl) ?_
  refine z_aload_n C (z_d dtL_law_19 33 rfl) rfl ?_
  refine z_iload_n C (z_d dtL_law_19 34 rfl) rfl ?_
  refine z_iconst C (z_d dtL_law_19 35 rfl) ?_
  refine z_iadd C (z_d dtL_law_19 36 rfl) ?_
  refine z_sld C S e2 (by omega) (by omega) (z_d dtL_law_19 37 rfl) ?_
  refine z_aload_n C (z_d dtL_law_19 38 rfl) rfl ?_
  refine z_iload_n C (z_d dtL_law_19 39 rfl) rfl ?_
  refine z_iconst C (z_d dtL_law_20 0 rfl) ?_
  refine z_iadd C (z_d dtL_law_20 1 rfl) ?_
  refine z_sld C S e3 (by omega) (by omega) (z_d dtL_law_20 2 rfl) ?_
  refine z_aload_n C (z_d dtL_law_20 3 rfl) rfl ?_
  refine z_iload_n C (z_d dtL_law_20 4 rfl) rfl ?_
  refine z_iconst C (z_d dtL_law_20 5 rfl) ?_
  refine z_iadd C (z_d dtL_law_20 6 rfl) ?_
  refine z_sld C S e4 (by omega) (by omega) (z_d dtL_law_20 7 rfl) ?_
  refine z_callVF C (z_d dtL_law_20 8 rfl) (k_X8_lay (ad := ae) (σ := τ) (z := a1) (f := a2) (i := a3) (v := a4) okm rg1 rg2 rg3 rg4) cal_X8_lay gw_34_11 rfl 0 8 rfl rfl rfl rfl hR ⟨rfl, rfl⟩ (by omega) rfl (fun r2 w hM => ?_)
  obtain ⟨τ', rfl, hM⟩ := hM
  refine z_sw ?_
  obtain ⟨er, μ, ν, q1, q2, J2⟩ := j_lay (z := a1) (f := a2) (i := a3) (v := a4) J rg1 rg2 rg3 rg4 hX hM
  refine z_icmp_same (tgt := 1301) C (z_d dtL_law_20 9 rfl) (by decide) er ?_
  rw [← q1, ← q2]
  exact next μ ν _ _ (by omega) (by omega) J2
set_option maxRecDepth 100000 in
set_option maxHeartbeats 4000000 in
theorem lw_get {K : z_KT} {b L : Nat} {xs : Nat → Int} {ad ae : Nat → Nat} {σ τ : zMem} {i : Int} {cells slots : Nat} (C : Fc K cL_law RL 4) (hR : z_Rm K = z_rm 10 402 600000 7302250) (S : z_Sc K b L xs) (hL : L ≤ 3072) (hi : 0 ≤ i ∧ i + 6 ≤ L) (J : zJn σ τ) (hc : cells + 1 ≤ 600000 ∧ slots + 5 ≤ 7302250) (next : ∀ (σ' τ' : zMem) (c s : Nat), c ≤ cells + 1 → s ≤ slots + 5 → zJn σ' τ' → Gd K c s 1301 [some (.ref b), some (.ref (ad 0)), some (.ref (ae 0)), some (.int (zI i))] [] (wM ae (z_t K) τ' ++ wX ad (z_t K) σ')) : Gd K cells slots 1158 [some (.ref b), some (.ref (ad 0)), some (.ref (ae 0)), some (.int (zI i))] [] (wM ae (z_t K) τ ++ wX ad (z_t K) σ) := by
  obtain ⟨a1, e1⟩ : ∃ a, xs (i + 1).toNat = a := ⟨_, rfl⟩
  have rg1 := S.rg (i + 1).toNat
  rw [e1] at rg1
  obtain ⟨a2, e2⟩ : ∃ a, xs (i + 2).toNat = a := ⟨_, rfl⟩
  have rg2 := S.rg (i + 2).toNat
  rw [e2] at rg2
  obtain ⟨a3, e3⟩ : ∃ a, xs (i + 3).toNat = a := ⟨_, rfl⟩
  have rg3 := S.rg (i + 3).toNat
  rw [e3] at rg3
  obtain ⟨a4, e4⟩ : ∃ a, xs (i + 4).toNat = a := ⟨_, rfl⟩
  have rg4 := S.rg (i + 4).toNat
  rw [e4] at rg4
  obtain ⟨a5, e5⟩ : ∃ a, xs (i + 5).toNat = a := ⟨_, rfl⟩
  have rg5 := S.rg (i + 5).toNat
  rw [e5] at rg5
  have okm := J.om
  refine z_aload_n C (z_d dtL_law_20 12 rfl) rfl ?_
  refine z_aload_n C (z_d dtL_law_20 13 rfl) rfl ?_
  refine z_iload_n C (z_d dtL_law_20 14 rfl) rfl ?_
  refine z_iconst C (z_d dtL_law_20 15 rfl) ?_
  refine z_iadd C (z_d dtL_law_20 16 rfl) ?_
  refine z_sld C S e1 (by omega) (by omega) (z_d dtL_law_20 17 rfl) ?_
  refine z_aload_n C (z_d dtL_law_20 18 rfl) rfl ?_
  refine z_iload_n C (z_d dtL_law_20 19 rfl) rfl ?_
  refine z_iconst C (z_d dtL_law_20 20 rfl) ?_
  refine z_iadd C (z_d dtL_law_20 21 rfl) ?_
  refine z_sld C S e2 (by omega) (by omega) (z_d dtL_law_20 22 rfl) ?_
  refine z_aload_n C (z_d dtL_law_20 23 rfl) rfl ?_
  refine z_iload_n C (z_d dtL_law_20 24 rfl) rfl ?_
  refine z_iconst C (z_d dtL_law_20 25 rfl) ?_
  refine z_iadd C (z_d dtL_law_20 26 rfl) ?_
  refine z_sld C S e3 (by omega) (by omega) (z_d dtL_law_20 27 rfl) ?_
  refine z_callVF C (z_d dtL_law_20 28 rfl) (k_X7_get (ad := ad) (σ := σ) (z := a1) (f := a2) (i := a3) J.1 rg1 rg2 rg3) cal_X7_get gw_34_19 rfl 0 7 rfl rfl rfl rfl hR ⟨rfl, rfl⟩ (by omega) rfl (fun r w hX => ?_)
  obtain ⟨σ', rfl, hX⟩ := hX
  refine z_sw ?_
  refine z_aload_n C (z_d dtL_law_20 29 rfl) rfl ?_
  refine z_aload_n C (z_d dtL_law_20 30 rfl) rfl ?_
  refine z_iload_n C (z_d dtL_law_20 31 rfl) rfl ?_
  refine z_iconst C (z_d dtL_law_20 32 rfl) ?_
  refine z_iadd C (z_d dtL_law_20 33 rfl) ?_
  refine z_sld C S e1 (by omega) (by omega) (z_d dtL_law_20 34 rfl) ?_
  refine z_aload_n C (z_d dtL_law_20 35 rfl) rfl ?_
  refine z_iload_n C (z_d dtL_law_20 36 rfl) rfl ?_
  refine z_iconst C (z_d dtL_law_20 37 rfl) ?_
  refine z_iadd C (z_d dtL_law_20 38 rfl) ?_
  refine z_sld C S e2 (by omega) (by omega) (z_d dtL_law_20 39 rfl) ?_
  refine z_aload_n C (z_d dtL_law_21 0 rfl) rfl ?_
  refine z_iload_n C (z_d dtL_law_21 1 rfl) rfl ?_
  refine z_iconst C (z_d dtL_law_21 2 rfl) ?_
  refine z_iadd C (z_d dtL_law_21 3 rfl) ?_
  refine z_sld C S e3 (by omega) (by omega) (z_d dtL_law_21 4 rfl) ?_
  refine z_callVF C (z_d dtL_law_21 5 rfl) (k_X8_get (ad := ae) (σ := τ) (z := a1) (f := a2) (i := a3) okm rg1 rg2 rg3) cal_X8_get gw_35_1 rfl 0 8 rfl rfl rfl rfl hR ⟨rfl, rfl⟩ (by omega) rfl (fun r2 w hM => ?_)
  obtain ⟨τ', rfl, hM⟩ := hM
  refine z_sw ?_
  obtain ⟨er, μ, ν, q1, q2, J2⟩ := j_get (z := a1) (f := a2) (i := a3) J rg1 rg2 rg3 hX hM
  refine z_icmp_same (tgt := 1301) C (z_d dtL_law_21 6 rfl) (by decide) er ?_
  rw [← q1, ← q2]
  exact next μ ν _ _ (by omega) (by omega) J2
set_option maxRecDepth 100000 in
set_option maxHeartbeats 4000000 in
theorem lw_copy {K : z_KT} {b L : Nat} {xs : Nat → Int} {ad ae : Nat → Nat} {σ τ : zMem} {i : Int} {cells slots : Nat} (C : Fc K cL_law RL 4) (hR : z_Rm K = z_rm 10 402 600000 7302250) (S : z_Sc K b L xs) (hL : L ≤ 3072) (hi : 0 ≤ i ∧ i + 6 ≤ L) (J : zJn σ τ) (hc : cells + 1 ≤ 600000 ∧ slots + 5 ≤ 7302250) (next : ∀ (σ' τ' : zMem) (c s : Nat), c ≤ cells + 1 → s ≤ slots + 5 → zJn σ' τ' → Gd K c s 1301 [some (.ref b), some (.ref (ad 0)), some (.ref (ae 0)), some (.int (zI i))] [] (wM ae (z_t K) τ' ++ wX ad (z_t K) σ')) : Gd K cells slots 1201 [some (.ref b), some (.ref (ad 0)), some (.ref (ae 0)), some (.int (zI i))] [] (wM ae (z_t K) τ ++ wX ad (z_t K) σ) := by
  obtain ⟨a1, e1⟩ : ∃ a, xs (i + 1).toNat = a := ⟨_, rfl⟩
  have rg1 := S.rg (i + 1).toNat
  rw [e1] at rg1
  obtain ⟨a2, e2⟩ : ∃ a, xs (i + 2).toNat = a := ⟨_, rfl⟩
  have rg2 := S.rg (i + 2).toNat
  rw [e2] at rg2
  obtain ⟨a3, e3⟩ : ∃ a, xs (i + 3).toNat = a := ⟨_, rfl⟩
  have rg3 := S.rg (i + 3).toNat
  rw [e3] at rg3
  obtain ⟨a4, e4⟩ : ∃ a, xs (i + 4).toNat = a := ⟨_, rfl⟩
  have rg4 := S.rg (i + 4).toNat
  rw [e4] at rg4
  obtain ⟨a5, e5⟩ : ∃ a, xs (i + 5).toNat = a := ⟨_, rfl⟩
  have rg5 := S.rg (i + 5).toNat
  rw [e5] at rg5
  have okm := J.om
  refine z_aload_n C (z_d dtL_law_21 9 rfl) rfl ?_
  refine z_aload_n C (z_d dtL_law_21 10 rfl) rfl ?_
  refine z_iload_n C (z_d dtL_law_21 11 rfl) rfl ?_
  refine z_iconst C (z_d dtL_law_21 12 rfl) ?_
  refine z_iadd C (z_d dtL_law_21 13 rfl) ?_
  refine z_sld C S e1 (by omega) (by omega) (z_d dtL_law_21 14 rfl) ?_
  refine z_aload_n C (z_d dtL_law_21 15 rfl) rfl ?_
  refine z_iload_n C (z_d dtL_law_21 16 rfl) rfl ?_
  refine z_iconst C (z_d dtL_law_21 17 rfl) ?_
  refine z_iadd C (z_d dtL_law_21 18 rfl) ?_
  refine z_sld C S e2 (by omega) (by omega) (z_d dtL_law_21 19 rfl) ?_
  refine z_aload_n C (z_d dtL_law_21 20 rfl) rfl ?_
  refine z_iload_n C (z_d dtL_law_21 21 rfl) rfl ?_
  refine z_iconst C (z_d dtL_law_21 22 rfl) ?_
  refine z_iadd C (z_d dtL_law_21 23 rfl) ?_
  refine z_sld C S e3 (by omega) (by omega) (z_d dtL_law_21 24 rfl) ?_
  refine z_aload_n C (z_d dtL_law_21 25 rfl) rfl ?_
  refine z_iload_n C (z_d dtL_law_21 26 rfl) rfl ?_
  refine z_iconst C (z_d dtL_law_21 27 rfl) ?_
  refine z_iadd C (z_d dtL_law_21 28 rfl) ?_
  refine z_sld C S e4 (by omega) (by omega) (z_d dtL_law_21 29 rfl) ?_
  refine z_aload_n C (z_d dtL_law_21 30 rfl) rfl ?_
  refine z_iload_n C (z_d dtL_law_21 31 rfl) rfl ?_
  refine z_iconst C (z_d dtL_law_21 32 rfl) ?_
  refine z_iadd C (z_d dtL_law_21 33 rfl) ?_
  refine z_sld C S e5 (by omega) (by omega) (z_d dtL_law_21 34 rfl) ?_
  refine z_callVF C (z_d dtL_law_21 35 rfl) (k_X7_copy (ad := ad) (σ := σ) (z := a1) (i := a2) (y := a3) (j := a4) (n := a5) J.1 rg1 rg2 rg3 rg4 rg5) cal_X7_copy gw_35_6 rfl 0 7 rfl rfl rfl rfl hR ⟨rfl, rfl⟩ (by omega) rfl (fun r w hX => ?_)
  obtain ⟨σ', rfl, hX⟩ := hX
  refine z_sw ?_
  refine z_aload_n C (z_d dtL_law_21 36 rfl) rfl ?_
  refine z_aload_n C (z_d dtL_law_21 37 rfl) rfl ?_
  refine z_iload_n C (z_d dtL_law_21 38 rfl) rfl ?_
  refine z_iconst C (z_d dtL_law_21 39 rfl) ?_
  refine z_iadd C (z_d dtL_law_22 0 rfl) ?_
  refine z_sld C S e1 (by omega) (by omega) (z_d dtL_law_22 1 rfl) ?_
  refine z_aload_n C (z_d dtL_law_22 2 rfl) rfl ?_
  refine z_iload_n C (z_d dtL_law_22 3 rfl) rfl ?_
  refine z_iconst C (z_d dtL_law_22 4 rfl) ?_
  refine z_iadd C (z_d dtL_law_22 5 rfl) ?_
  refine z_sld C S e2 (by omega) (by omega) (z_d dtL_law_22 6 rfl) ?_
  refine z_aload_n C (z_d dtL_law_22 7 rfl) rfl ?_
  refine z_iload_n C (z_d dtL_law_22 8 rfl) rfl ?_
  refine z_iconst C (z_d dtL_law_22 9 rfl) ?_
  refine z_iadd C (z_d dtL_law_22 10 rfl) ?_
  refine z_sld C S e3 (by omega) (by omega) (z_d dtL_law_22 11 rfl) ?_
  refine z_aload_n C (z_d dtL_law_22 12 rfl) rfl ?_
  refine z_iload_n C (z_d dtL_law_22 13 rfl) rfl ?_
  refine z_iconst C (z_d dtL_law_22 14 rfl) ?_
  refine z_iadd C (z_d dtL_law_22 15 rfl) ?_
  refine z_sld C S e4 (by omega) (by omega) (z_d dtL_law_22 16 rfl) ?_
  refine z_aload_n C (z_d dtL_law_22 17 rfl) rfl ?_
  refine z_iload_n C (z_d dtL_law_22 18 rfl) rfl ?_
  refine z_iconst C (z_d dtL_law_22 19 rfl) ?_
  refine z_iadd C (z_d dtL_law_22 20 rfl) ?_
  refine z_sld C S e5 (by omega) (by omega) (z_d dtL_law_22 21 rfl) ?_
  refine z_callVF C (z_d dtL_law_22 22 rfl) (k_X8_copy (ad := ae) (σ := τ) (z := a1) (i := a2) (y := a3) (j := a4) (n := a5) okm rg1 rg2 rg3 rg4 rg5) cal_X8_copy gw_35_14 rfl 0 8 rfl rfl rfl rfl hR ⟨rfl, rfl⟩ (by omega) rfl (fun r2 w hM => ?_)
  obtain ⟨τ', rfl, hM⟩ := hM
  refine z_sw ?_
  obtain ⟨er, μ, ν, q1, q2, J2⟩ := j_copy (z := a1) (i := a2) (y := a3) (j := a4) (n := a5) J rg1 rg2 rg3 rg4 rg5 hX hM
  refine z_icmp_same (tgt := 1301) C (z_d dtL_law_22 23 rfl) (by decide) er ?_
  rw [← q1, ← q2]
  exact next μ ν _ _ (by omega) (by omega) J2
set_option maxRecDepth 100000 in
set_option maxHeartbeats 4000000 in
theorem lw_count {K : z_KT} {b L : Nat} {xs : Nat → Int} {ad ae : Nat → Nat} {σ τ : zMem} {i : Int} {cells slots : Nat} (C : Fc K cL_law RL 4) (hR : z_Rm K = z_rm 10 402 600000 7302250) (S : z_Sc K b L xs) (hL : L ≤ 3072) (hi : 0 ≤ i ∧ i + 6 ≤ L) (J : zJn σ τ) (hc : cells + 1 ≤ 600000 ∧ slots + 5 ≤ 7302250) (next : ∀ (σ' τ' : zMem) (c s : Nat), c ≤ cells + 1 → s ≤ slots + 5 → zJn σ' τ' → Gd K c s 1301 [some (.ref b), some (.ref (ad 0)), some (.ref (ae 0)), some (.int (zI i))] [] (wM ae (z_t K) τ' ++ wX ad (z_t K) σ')) : Gd K cells slots 1264 [some (.ref b), some (.ref (ad 0)), some (.ref (ae 0)), some (.int (zI i))] [] (wM ae (z_t K) τ ++ wX ad (z_t K) σ) := by
  obtain ⟨a1, e1⟩ : ∃ a, xs (i + 1).toNat = a := ⟨_, rfl⟩
  have rg1 := S.rg (i + 1).toNat
  rw [e1] at rg1
  obtain ⟨a2, e2⟩ : ∃ a, xs (i + 2).toNat = a := ⟨_, rfl⟩
  have rg2 := S.rg (i + 2).toNat
  rw [e2] at rg2
  obtain ⟨a3, e3⟩ : ∃ a, xs (i + 3).toNat = a := ⟨_, rfl⟩
  have rg3 := S.rg (i + 3).toNat
  rw [e3] at rg3
  obtain ⟨a4, e4⟩ : ∃ a, xs (i + 4).toNat = a := ⟨_, rfl⟩
  have rg4 := S.rg (i + 4).toNat
  rw [e4] at rg4
  obtain ⟨a5, e5⟩ : ∃ a, xs (i + 5).toNat = a := ⟨_, rfl⟩
  have rg5 := S.rg (i + 5).toNat
  rw [e5] at rg5
  have okm := J.om
  refine z_aload_n C (z_d dtL_law_22 26 rfl) rfl ?_
  refine z_aload_n C (z_d dtL_law_22 27 rfl) rfl ?_
  refine z_iload_n C (z_d dtL_law_22 28 rfl) rfl ?_
  refine z_iconst C (z_d dtL_law_22 29 rfl) ?_
  refine z_iadd C (z_d dtL_law_22 30 rfl) ?_
  refine z_sld C S e1 (by omega) (by omega) (z_d dtL_law_22 31 rfl) ?_
  refine z_callVF C (z_d dtL_law_22 32 rfl) (k_X7_count (ad := ad) (σ := σ) (k := a1) J.1 rg1) cal_X7_count gw_35_18 rfl 0 7 rfl rfl rfl rfl hR ⟨rfl, rfl⟩ (by omega) rfl (fun r w hX => ?_)
  obtain ⟨rfl, hX⟩ := hX
  refine z_sw ?_
  refine z_aload_n C (z_d dtL_law_22 33 rfl) rfl ?_
  refine z_aload_n C (z_d dtL_law_22 34 rfl) rfl ?_
  refine z_iload_n C (z_d dtL_law_22 35 rfl) rfl ?_
  refine z_iconst C (z_d dtL_law_22 36 rfl) ?_
  refine z_iadd C (z_d dtL_law_22 37 rfl) ?_
  refine z_sld C S e1 (by omega) (by omega) (z_d dtL_law_22 38 rfl) ?_
  refine z_callVF C (z_d dtL_law_22 39 rfl) (k_X8_count (ad := ae) (σ := τ) (k := a1) okm rg1) cal_X8_count gw_36_11 rfl 0 8 rfl rfl rfl rfl hR ⟨rfl, rfl⟩ (by omega) rfl (fun r2 w hM => ?_)
  obtain ⟨rfl, hM⟩ := hM
  refine z_sw ?_
  have er := j_count (k := a1) J rg1 hX hM
  refine z_icmp_same (tgt := 1301) C (z_d dtL_law_23 0 rfl) (by decide) er ?_
  exact next _ _ _ _ (by omega) (by omega) J
set_option maxRecDepth 100000 in
set_option maxHeartbeats 4000000 in
theorem lw_digest {K : z_KT} {b L : Nat} {xs : Nat → Int} {ad ae : Nat → Nat} {σ τ : zMem} {i : Int} {cells slots : Nat} (C : Fc K cL_law RL 4) (hR : z_Rm K = z_rm 10 402 600000 7302250) (S : z_Sc K b L xs) (hL : L ≤ 3072) (hi : 0 ≤ i ∧ i + 6 ≤ L) (J : zJn σ τ) (hc : cells + 1 ≤ 600000 ∧ slots + 5 ≤ 7302250) (next : ∀ (σ' τ' : zMem) (c s : Nat), c ≤ cells + 1 → s ≤ slots + 5 → zJn σ' τ' → Gd K c s 1301 [some (.ref b), some (.ref (ad 0)), some (.ref (ae 0)), some (.int (zI i))] [] (wM ae (z_t K) τ' ++ wX ad (z_t K) σ')) : Gd K cells slots 1287 [some (.ref b), some (.ref (ad 0)), some (.ref (ae 0)), some (.int (zI i))] [] (wM ae (z_t K) τ ++ wX ad (z_t K) σ) := by
  obtain ⟨a1, e1⟩ : ∃ a, xs (i + 1).toNat = a := ⟨_, rfl⟩
  have rg1 := S.rg (i + 1).toNat
  rw [e1] at rg1
  obtain ⟨a2, e2⟩ : ∃ a, xs (i + 2).toNat = a := ⟨_, rfl⟩
  have rg2 := S.rg (i + 2).toNat
  rw [e2] at rg2
  obtain ⟨a3, e3⟩ : ∃ a, xs (i + 3).toNat = a := ⟨_, rfl⟩
  have rg3 := S.rg (i + 3).toNat
  rw [e3] at rg3
  obtain ⟨a4, e4⟩ : ∃ a, xs (i + 4).toNat = a := ⟨_, rfl⟩
  have rg4 := S.rg (i + 4).toNat
  rw [e4] at rg4
  obtain ⟨a5, e5⟩ : ∃ a, xs (i + 5).toNat = a := ⟨_, rfl⟩
  have rg5 := S.rg (i + 5).toNat
  rw [e5] at rg5
  have okm := J.om
  refine z_aload_n C (z_d dtL_law_23 3 rfl) rfl ?_
  refine z_callVlF C (z_d dtL_law_23 4 rfl) (k_X7_digest (ad := ad) (σ := σ)  J.1) cal_X7_digest gw_36_15 rfl 0 7 rfl rfl rfl rfl hR ⟨rfl, rfl⟩ (by omega) rfl (fun r w hX => ?_)
  obtain ⟨rfl, hX⟩ := hX
  refine z_sw ?_
  refine z_aload_n C (z_d dtL_law_23 5 rfl) rfl ?_
  refine z_callVlF C (z_d dtL_law_23 6 rfl) (k_X8_digest (ad := ae) (σ := τ)  okm) cal_X8_digest gw_37_2 rfl 0 8 rfl rfl rfl rfl hR ⟨rfl, rfl⟩ (by omega) rfl (fun r2 w hM => ?_)
  obtain ⟨rfl, hM⟩ := hM
  refine z_sw ?_
  have er := j_digest  J  hX hM
  refine z_lcmp_same C (z_d dtL_law_23 7 rfl) er ?_
  refine z_if_eq (tgt := 1301) C (z_d dtL_law_23 8 rfl) (by decide) (by decide) (fun _ => ?_) (fun h => absurd rfl h)
  exact next _ _ _ _ (by omega) (by omega) J
