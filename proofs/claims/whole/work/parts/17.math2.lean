/-! areas, walkers, ways as numbers -/
def zAz (σ : zMem) (z : Int) : Prop := (0 ≤ σ 50 (5 * z) ∧ σ 50 (5 * z) < 3) ∧ (0 ≤ σ 50 (5 * z + 1) ∧ σ 50 (5 * z + 1) ≤ σ 50 (5 * z + 2) ∧ σ 50 (5 * z + 2) < 6) ∧ (0 ≤ σ 50 (5 * z + 3) ∧ σ 50 (5 * z + 3) ≤ σ 50 (5 * z + 4) ∧ σ 50 (5 * z + 4) < 6)
def zEx (x0 x1 y0 y1 : Int) : Int := (x1 - x0 + 1) * (y1 - y0 + 1)
def zIb (f x0 x1 y0 y1 f' x0' x1' y0' y1' : Int) : Int := if f = f' ∧ 0 < min x1 x1' - max x0 x0' + 1 ∧ 0 < min y1 y1' - max y0 y0' + 1 then (min x1 x1' - max x0 x0' + 1) * (min y1 y1' - max y0 y0' + 1) else 0
def zAp (σ : zMem) (z y : Int) : Int := zEx (σ 50 (5 * z + 1)) (σ 50 (5 * z + 2)) (σ 50 (5 * z + 3)) (σ 50 (5 * z + 4)) + zEx (σ 50 (5 * y + 1)) (σ 50 (5 * y + 2)) (σ 50 (5 * y + 3)) (σ 50 (5 * y + 4)) - 2 * zIb (σ 50 (5 * z)) (σ 50 (5 * z + 1)) (σ 50 (5 * z + 2)) (σ 50 (5 * z + 3)) (σ 50 (5 * z + 4)) (σ 50 (5 * y)) (σ 50 (5 * y + 1)) (σ 50 (5 * y + 2)) (σ 50 (5 * y + 3)) (σ 50 (5 * y + 4))
theorem zEx_b {x0 x1 y0 y1 : Int} (hx : 0 ≤ x0 ∧ x0 ≤ x1 ∧ x1 < 6) (hy : 0 ≤ y0 ∧ y0 ≤ y1 ∧ y1 < 6) : 1 ≤ zEx x0 x1 y0 y1 ∧ zEx x0 x1 y0 y1 ≤ 36 := by
  unfold zEx
  have a := Int.mul_le_mul (show x1 - x0 + 1 ≤ 6 by omega) (show y1 - y0 + 1 ≤ 6 by omega) (by omega) (by omega)
  have b := Int.mul_pos (show 0 < x1 - x0 + 1 by omega) (show 0 < y1 - y0 + 1 by omega)
  omega
theorem zIb_b {f x0 x1 y0 y1 f' x0' x1' y0' y1' : Int} (hx : 0 ≤ x0 ∧ x0 ≤ x1 ∧ x1 < 6) (hy : 0 ≤ y0 ∧ y0 ≤ y1 ∧ y1 < 6) : 0 ≤ zIb f x0 x1 y0 y1 f' x0' x1' y0' y1' ∧ zIb f x0 x1 y0 y1 f' x0' x1' y0' y1' ≤ 36 := by
  unfold zIb
  split
  · rename_i h
    have a := Int.mul_le_mul (show min x1 x1' - max x0 x0' + 1 ≤ 6 by omega) (show min y1 y1' - max y0 y0' + 1 ≤ 6 by omega) (by omega) (by omega)
    have b := Int.mul_pos h.2.1 h.2.2
    omega
  · omega
theorem zAp_b {σ : zMem} {z y : Int} (hz : zAz σ z) (hy : zAz σ y) : -72 ≤ zAp σ z y ∧ zAp σ z y ≤ 72 := by
  have a := zEx_b hz.2.1 hz.2.2
  have b := zEx_b hy.2.1 hy.2.2
  have c := zIb_b (f := σ 50 (5 * z)) (f' := σ 50 (5 * y)) (x0' := σ 50 (5 * y + 1)) (x1' := σ 50 (5 * y + 2)) (y0' := σ 50 (5 * y + 3)) (y1' := σ 50 (5 * y + 4)) hz.2.1 hz.2.2
  unfold zAp
  omega
abbrev zIn (σ : zMem) (c f x0 x1 y0 y1 : Int) : Prop := c / (σ 1 0 * σ 2 0) = f ∧ (x0 ≤ c % σ 1 0 ∧ c % σ 1 0 ≤ x1) ∧ (y0 ≤ c / σ 1 0 % σ 2 0 ∧ c / σ 1 0 % σ 2 0 ≤ y1)
def zNi (σ : zMem) (f x0 x1 y0 y1 : Int) : Nat → Int
  | 0 => 0
  | n + 1 => zNi σ f x0 x1 y0 y1 n + if (0 ≤ σ 10 n ∧ σ 10 n < zN σ) ∧ zIn σ (σ 10 n) f x0 x1 y0 y1 then 1 else 0
theorem zNi_b (σ : zMem) (f x0 x1 y0 y1 : Int) : ∀ n : Nat, 0 ≤ zNi σ f x0 x1 y0 y1 n ∧ zNi σ f x0 x1 y0 y1 n ≤ n
  | 0 => by simp [zNi]
  | n + 1 => by
    have a := zNi_b σ f x0 x1 y0 y1 n
    rw [zNi]
    split <;> (constructor <;> (try push_cast) <;> omega)
def zSo (F : Int → Int) : Nat → Int
  | 0 => 0
  | n + 1 => zSo F n + if F n = -1 then 0 else 1
theorem zSo_b (F : Int → Int) : ∀ n : Nat, 0 ≤ zSo F n ∧ zSo F n ≤ n
  | 0 => by simp [zSo]
  | n + 1 => by
    have a := zSo_b F n
    rw [zSo]
    split <;> (constructor <;> (try push_cast) <;> omega)
/-- one step on, and the best direction -/
def zSa (σ : zMem) (V : Int → Int) (c d : Int) : Int := if d = -1 then -1 else if 0 ≤ σ 33 (c * 7 + d) ∧ σ 33 (c * 7 + d) < zN σ then (if V (σ 33 (c * 7 + d)) = -1 then -1 else V (σ 33 (c * 7 + d)) + zLik σ d) else -1
def zBd (σ : zMem) (V : Int → Int) (c : Int) : Nat → Int × Int
  | 0 => (-1, -1)
  | n + 1 => if zSa σ V c n > (zBd σ V c n).2 then ((n : Int), zSa σ V c n) else zBd σ V c n
theorem zSa_b {σ : zMem} {V : Int → Int} {b : Int} (hs : 0 ≤ σ 3 0 ∧ σ 3 0 ≤ 9) (hb : 0 ≤ b) (hV : ∀ c, 0 ≤ c → c < zN σ → -1 ≤ V c ∧ V c ≤ b) (c d : Int) : -1 ≤ zSa σ V c d ∧ zSa σ V c d ≤ b + 9 := by
  unfold zSa
  split
  · omega
  · split
    · rename_i h
      have a := hV _ h.1 h.2
      have l := zLik_b hs d
      split <;> omega
    · omega
theorem zBd_b {σ : zMem} {V : Int → Int} {b : Int} (hs : 0 ≤ σ 3 0 ∧ σ 3 0 ≤ 9) (hb : 0 ≤ b) (hV : ∀ c, 0 ≤ c → c < zN σ → -1 ≤ V c ∧ V c ≤ b) (c : Int) : ∀ n : Nat, (-1 ≤ (zBd σ V c n).1 ∧ (zBd σ V c n).1 < n) ∧ (-1 ≤ (zBd σ V c n).2 ∧ (zBd σ V c n).2 ≤ b + 9)
  | 0 => by
    simp only [zBd]
    omega
  | n + 1 => by
    have a := zBd_b hs hb hV c n
    have e := zSa_b hs hb hV c n
    rw [zBd]
    split
    · dsimp only
      push_cast
      omega
    · push_cast
      omega
theorem zBd_sa {σ : zMem} {V : Int → Int} (c : Int) : ∀ n : Nat, zSa σ V c (zBd σ V c n).1 = (zBd σ V c n).2
  | 0 => by
    show zSa σ V c (-1) = -1
    unfold zSa
    rw [if_pos rfl]
  | n + 1 => by
    rw [zBd]
    split
    · rfl
    · exact zBd_sa c n
theorem zSa_cg {σ : zMem} {V U : Int → Int} (h : ∀ c, 0 ≤ c → c < zN σ → V c = U c) (c d : Int) : zSa σ V c d = zSa σ U c d := by
  unfold zSa
  split
  · rfl
  · split
    · rename_i q
      rw [h _ q.1 q.2]
    · rfl
theorem zBd_cg {σ : zMem} {V U : Int → Int} (h : ∀ c, 0 ≤ c → c < zN σ → V c = U c) (c : Int) : ∀ n : Nat, zBd σ V c n = zBd σ U c n
  | 0 => rfl
  | n + 1 => by
    rw [zBd, zBd, zBd_cg h c n, zSa_cg h]
/-- the best score from a row on, k rows ahead of the last of R -/
def zV (σ : zMem) (z wo R : Int) : Nat → Int → Int
  | 0 => fun c => zRw σ z (R - 1) c 0 wo 8
  | k + 1 => fun c => if (zBd σ (zV σ z wo R k) c 7).2 = -1 then -1 else zRw σ z (R - 1 - ((k : Int) + 1)) c 0 wo 8 + (zBd σ (zV σ z wo R k) c 7).2
theorem zV_b {σ : zMem} (hmp : zMp σ) (hs : 0 ≤ σ 3 0 ∧ σ 3 0 ≤ 9) (z wo R : Int) : ∀ (k : Nat) (c : Int), -1 ≤ zV σ z wo R k c ∧ zV σ z wo R k c ≤ 3000 * ((k : Int) + 1)
  | 0, c => by
    have a := zRw_b hmp z (R - 1) c 0 wo 8
    simp only [zV]
    omega
  | k + 1, c => by
    have i := zV_b hmp hs z wo R k
    have a := zRw_b hmp z (R - 1 - ((k : Int) + 1)) c 0 wo 8
    have e := zBd_b (V := zV σ z wo R k) (b := 3000 * ((k : Int) + 1)) hs (by omega) (fun c _ _ => i c) c 7
    simp only [zV]
    push_cast
    split <;> omega
/-- the cells of the best way -/
def zWy (σ : zMem) (z wo R : Int) : Nat → Int
  | 0 => zMx (zV σ z wo R (R - 1).toNat) (zN σ).toNat
  | k + 1 => if (zBd σ (zV σ z wo R (R - 1 - ((k : Int) + 1)).toNat) (zWy σ z wo R k) 7).1 = -1 then zWy σ z wo R k else σ 33 (zWy σ z wo R k * 7 + (zBd σ (zV σ z wo R (R - 1 - ((k : Int) + 1)).toNat) (zWy σ z wo R k) 7).1)
theorem as_Xar {K : z_KT} {cc : ByteArray} {own : String} {nL cells slots pc : Nat} {L : List (Option Value)} {rest : List Value} {ad : Nat → Nat} {σ : zMem} (C : Fc K cc own nL) {z i : Int} (d : decode cc pc = .ok (.aastore, 1)) (hi : 0 ≤ i ∧ i < 30) (hz : 0 ≤ z ∧ z < σ 49 0) (k : Gd K cells slots (pc + 1) L rest (wX ad (z_t K) (zS σ 51 (zU (σ 51) i z)))) : Gd K cells slots pc L (.ref (σ 48 z).toNat :: .int (zI i) :: .ref (ad 21) :: rest) (wX ad (z_t K) σ) := by
  have e : va_up (arF σ) i.toNat (some (σ 48 z).toNat) = arF (zS σ 51 (zU (σ 51) i z)) := by
    funext j
    show (if j = i.toNat then _ else arF σ j) = (if zU (σ 51) i z j < 0 then none else some (σ 48 (zU (σ 51) i z j)).toNat)
    unfold zU arF
    by_cases h : j = i.toNat
    · rw [if_pos h, if_pos (show (j : Int) = i by omega), if_neg (by omega)]
    · rw [if_neg h, if_neg (show ¬ (j : Int) = i by omega)]
  obtain ⟨p, l, ee, R, s, m, args, below, meth, c, A, H0, Q, D, t⟩ := K
  obtain ⟨hx, hb, hml, ho, hts, hK, hA⟩ := C
  intro H locs ls hP hD hS hl
  refine va_astq hx hb hK hP hD hS 21 4 (30 + z.toNat) 0 (n := 30) (f := arF σ) (r := (RX0, TX0, 5)) rfl rfl (wX_ar hz) rfl (zI_in hi.1 hi.2 (by decide)) d fun H1 locs1 hP hD hS => ?_
  rw [zI_clamp hi.1 (by omega), e] at hP hD
  exact k H1 locs1 ls hP hD hS hl
