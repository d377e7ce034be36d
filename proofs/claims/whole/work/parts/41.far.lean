/-! HOW FAR: paths, the search by a queue, the search by levels -/
def zPt (E : Int → Int → Prop) (a : Int) : Nat → Int → Prop
  | 0, c => c = a
  | n + 1, c => ∃ d, zPt E a n d ∧ E d c
def zFr (E : Int → Int → Prop) (a b r : Int) : Prop := (r = -1 ∧ ∀ n, ¬ zPt E a n b) ∨ ∃ n : Nat, r = n ∧ zPt E a n b ∧ ∀ m : Nat, m < n → ¬ zPt E a m b
theorem zFr_u {E : Int → Int → Prop} {a b r s : Int} (h1 : zFr E a b r) (h2 : zFr E a b s) : r = s := by
  rcases h1 with ⟨p, q⟩ | ⟨n, p, q, u⟩
  · rcases h2 with ⟨p2, q2⟩ | ⟨m, p2, q2, u2⟩
    · omega
    · exact absurd q2 (q m)
  · rcases h2 with ⟨p2, q2⟩ | ⟨m, p2, q2, u2⟩
    · exact absurd q (q2 n)
    · rcases Nat.lt_trichotomy n m with h | h | h
      · exact absurd q (u2 n h)
      · omega
      · exact absurd q2 (u m h)
theorem zPt_cg {E F : Int → Int → Prop} (h : ∀ c d, E c d ↔ F c d) (a : Int) : ∀ (n : Nat) (c : Int), zPt E a n c ↔ zPt F a n c
  | 0, c => Iff.rfl
  | n + 1, c => ⟨fun ⟨d, p, q⟩ => ⟨d, (zPt_cg h a n d).mp p, (h d c).mp q⟩, fun ⟨d, p, q⟩ => ⟨d, (zPt_cg h a n d).mpr p, (h d c).mpr q⟩⟩
theorem zFr_cg {E F : Int → Int → Prop} (h : ∀ c d, E c d ↔ F c d) {a b r : Int} (f : zFr E a b r) : zFr F a b r := by
  rcases f with ⟨p, q⟩ | ⟨n, p, q, u⟩
  · exact Or.inl ⟨p, fun n x => q n ((zPt_cg h a n b).mpr x)⟩
  · exact Or.inr ⟨n, p, (zPt_cg h a n b).mp q, fun m hm x => u m hm ((zPt_cg h a m b).mpr x)⟩
def zEd (N : Int) (T : Int → Int → Int) (c d : Int) : Prop := ((0 ≤ c ∧ c < N) ∧ (0 ≤ d ∧ d < N)) ∧ ¬ c = d ∧ ∃ k, (0 ≤ k ∧ k < 7) ∧ T c k = d
def zVc (D : Int → Int) (N : Int) : Int := zSum (fun c => if D c = -1 then 0 else 1) N.toNat
def zBq (N : Int) (T : Int → Int → Int) (a : Int) (D Q : Int → Int) (i e m : Int) : Prop := (∀ j, 0 ≤ j → j < e → (0 ≤ Q j ∧ Q j < N) ∧ 0 ≤ D (Q j)) ∧ (∀ c, 0 ≤ c → c < N → D c = -1 ∨ ∃ j, (0 ≤ j ∧ j < e) ∧ Q j = c) ∧ (∀ c, 0 ≤ c → c < N → D c = -1 ∨ (0 ≤ D c ∧ zPt (zEd N T) a (D c).toNat c)) ∧ (D a = 0) ∧ (∀ j k, 0 ≤ j → j ≤ k → k < e → D (Q j) ≤ D (Q k)) ∧ (∀ k, 0 ≤ k → k < e → i < e → D (Q k) ≤ D (Q i) + 1) ∧ (∀ j c, 0 ≤ j → j < i → zEd N T (Q j) c → ¬ D c = -1 ∧ D c ≤ D (Q j) + 1) ∧ (i < e → ∀ k, 0 ≤ k → k < m → ∀ c, (0 ≤ c ∧ c < N) → T (Q i) k = c → ¬ D c = -1 ∧ D c ≤ D (Q i) + 1) ∧ (zVc D N = e) ∧ (∀ c, 0 ≤ c → c < N → D c < e)
theorem zBq.b1 {N : Int} {T : Int → Int → Int} {a : Int} {D Q : Int → Int} {i e m : Int} (h : zBq N T a D Q i e m) : ∀ j, 0 ≤ j → j < e → (0 ≤ Q j ∧ Q j < N) ∧ 0 ≤ D (Q j) := h.1
theorem zBq.b2 {N : Int} {T : Int → Int → Int} {a : Int} {D Q : Int → Int} {i e m : Int} (h : zBq N T a D Q i e m) : ∀ c, 0 ≤ c → c < N → D c = -1 ∨ ∃ j, (0 ≤ j ∧ j < e) ∧ Q j = c := h.2.1
theorem zBq.b3 {N : Int} {T : Int → Int → Int} {a : Int} {D Q : Int → Int} {i e m : Int} (h : zBq N T a D Q i e m) : ∀ c, 0 ≤ c → c < N → D c = -1 ∨ (0 ≤ D c ∧ zPt (zEd N T) a (D c).toNat c) := h.2.2.1
theorem zBq.b4 {N : Int} {T : Int → Int → Int} {a : Int} {D Q : Int → Int} {i e m : Int} (h : zBq N T a D Q i e m) : D a = 0 := h.2.2.2.1
theorem zBq.b5 {N : Int} {T : Int → Int → Int} {a : Int} {D Q : Int → Int} {i e m : Int} (h : zBq N T a D Q i e m) : ∀ j k, 0 ≤ j → j ≤ k → k < e → D (Q j) ≤ D (Q k) := h.2.2.2.2.1
theorem zBq.b6 {N : Int} {T : Int → Int → Int} {a : Int} {D Q : Int → Int} {i e m : Int} (h : zBq N T a D Q i e m) : ∀ k, 0 ≤ k → k < e → i < e → D (Q k) ≤ D (Q i) + 1 := h.2.2.2.2.2.1
theorem zBq.b7 {N : Int} {T : Int → Int → Int} {a : Int} {D Q : Int → Int} {i e m : Int} (h : zBq N T a D Q i e m) : ∀ j c, 0 ≤ j → j < i → zEd N T (Q j) c → ¬ D c = -1 ∧ D c ≤ D (Q j) + 1 := h.2.2.2.2.2.2.1
theorem zBq.b8 {N : Int} {T : Int → Int → Int} {a : Int} {D Q : Int → Int} {i e m : Int} (h : zBq N T a D Q i e m) : i < e → ∀ k, 0 ≤ k → k < m → ∀ c, (0 ≤ c ∧ c < N) → T (Q i) k = c → ¬ D c = -1 ∧ D c ≤ D (Q i) + 1 := h.2.2.2.2.2.2.2.1
theorem zBq.b9 {N : Int} {T : Int → Int → Int} {a : Int} {D Q : Int → Int} {i e m : Int} (h : zBq N T a D Q i e m) : zVc D N = e := h.2.2.2.2.2.2.2.2.1
theorem zBq.b10 {N : Int} {T : Int → Int → Int} {a : Int} {D Q : Int → Int} {i e m : Int} (h : zBq N T a D Q i e m) : ∀ c, 0 ≤ c → c < N → D c < e := h.2.2.2.2.2.2.2.2.2
theorem zBq.mk {N : Int} {T : Int → Int → Int} {a : Int} {D Q : Int → Int} {i e m : Int} (b1 : ∀ j, 0 ≤ j → j < e → (0 ≤ Q j ∧ Q j < N) ∧ 0 ≤ D (Q j)) (b2 : ∀ c, 0 ≤ c → c < N → D c = -1 ∨ ∃ j, (0 ≤ j ∧ j < e) ∧ Q j = c) (b3 : ∀ c, 0 ≤ c → c < N → D c = -1 ∨ (0 ≤ D c ∧ zPt (zEd N T) a (D c).toNat c)) (b4 : D a = 0) (b5 : ∀ j k, 0 ≤ j → j ≤ k → k < e → D (Q j) ≤ D (Q k)) (b6 : ∀ k, 0 ≤ k → k < e → i < e → D (Q k) ≤ D (Q i) + 1) (b7 : ∀ j c, 0 ≤ j → j < i → zEd N T (Q j) c → ¬ D c = -1 ∧ D c ≤ D (Q j) + 1) (b8 : i < e → ∀ k, 0 ≤ k → k < m → ∀ c, (0 ≤ c ∧ c < N) → T (Q i) k = c → ¬ D c = -1 ∧ D c ≤ D (Q i) + 1) (b9 : zVc D N = e) (b10 : ∀ c, 0 ≤ c → c < N → D c < e) : zBq N T a D Q i e m := ⟨b1, b2, b3, b4, b5, b6, b7, b8, b9, b10⟩
theorem zVc_U {D : Int → Int} {N x v : Int} (hx : 0 ≤ x ∧ x < N) (h : D x = -1) (hv : ¬ v = -1) : zVc (zU D x v) N = zVc D N + 1 := by
  unfold zVc
  rw [zSum_cg (F := fun c => if zU D x v c = -1 then 0 else 1) (G := zU (fun c => if D c = -1 then 0 else 1) x 1) N.toNat (fun c _ _ => by
    unfold zU
    by_cases e : c = x
    · rw [if_pos e, if_pos e, if_neg hv]
    · rw [if_neg e, if_neg e]), zSum_U N.toNat hx.1 (by omega)]
  rw [if_pos h]
  omega
theorem zVc_le (D : Int → Int) {N : Int} (hN : 0 ≤ N) : 0 ≤ zVc D N ∧ zVc D N ≤ N := by
  have := zSum_b (F := fun c => if D c = -1 then 0 else 1) (a := 0) (b := 1) N.toNat (fun c _ _ => by (try dsimp only); split <;> omega)
  unfold zVc
  omega
theorem zVc_lt {D : Int → Int} {N x : Int} (hx : 0 ≤ x ∧ x < N) (h : D x = -1) : zVc D N < N := by
  have a := zVc_U (v := 0) hx h (by omega)
  have b := zVc_le (zU D x 0) (N := N) (by omega)
  omega
theorem zBq_0 {N : Int} {T : Int → Int → Int} {a : Int} (ha : 0 ≤ a ∧ a < N) (Q : Int → Int) : zBq N T a (zU (zC (-1)) a 0) (zU Q 0 a) 0 1 0 := by
  have q0 : zU Q 0 a 0 = a := zU_s _ _ _
  have d0 : zU (zC (-1)) a 0 a = 0 := zU_s _ _ _
  have dn : ∀ c, ¬ c = a → zU (zC (-1)) a 0 c = -1 := fun c h => zU_n h
  refine zBq.mk ?_ ?_ ?_ d0 ?_ ?_ ?_ ?_ ?_ (fun c h0 h1 => by
    by_cases e : c = a
    · subst e; rw [d0]; omega
    · rw [dn c e]; omega)
  · intro j h0 h1
    obtain rfl : j = 0 := by omega
    rw [q0, d0]
    exact ⟨ha, Int.le_refl _⟩
  · intro c h0 h1
    by_cases e : c = a
    · exact Or.inr ⟨0, by omega, by rw [q0, e]⟩
    · exact Or.inl (dn c e)
  · intro c h0 h1
    by_cases e : c = a
    · subst e
      rw [d0]
      exact Or.inr ⟨Int.le_refl _, rfl⟩
    · exact Or.inl (dn c e)
  · intro j k h0 h1 h2
    obtain rfl : j = 0 := by omega
    obtain rfl : k = 0 := by omega
    exact Int.le_refl _
  · intro k h0 h1 h2
    obtain rfl : k = 0 := by omega
    omega
  · intro j c h0 h1
    omega
  · intro h k h0 h1
    omega
  · rw [zVc_U ha rfl (by omega)]
    have : zVc (zC (-1)) N = 0 := by
      have e := zSum_cg (F := fun c => if zC (-1) c = -1 then (0 : Int) else 1) (G := zC 0) N.toNat (fun _ _ _ => rfl)
      have b := zSum_b (F := zC 0) (a := 0) (b := 0) N.toNat (fun _ _ _ => ⟨Int.le_refl _, Int.le_refl _⟩)
      unfold zVc
      omega
    omega
theorem zBq_v {N : Int} {T : Int → Int → Int} {a : Int} {D Q : Int → Int} {i e m x : Int} (h : zBq N T a D Q i e m) (hi : 0 ≤ i ∧ i < e) (hm : 0 ≤ m ∧ m < 7) (hx : 0 ≤ x ∧ x < N) (hT : T (Q i) m = x) (hD : D x = -1) : zBq N T a (zU D x (D (Q i) + 1)) (zU Q e x) i (e + 1) (m + 1) := by
  have bi := h.b1 i hi.1 hi.2
  have nx : ¬ Q i = x := fun q => by rw [q] at bi; omega
  have qe : zU Q e x e = x := zU_s _ _ _
  have qo : ∀ j, j < e → zU Q e x j = Q j := fun j hj => zU_n (by omega)
  have dx : zU D x (D (Q i) + 1) x = D (Q i) + 1 := zU_s _ _ _
  have dn : ∀ c, ¬ D c = -1 → zU D x (D (Q i) + 1) c = D c := fun c hc => zU_n (fun q => hc (by rw [q]; exact hD))
  have dq : ∀ j, 0 ≤ j → j < e → zU D x (D (Q i) + 1) (Q j) = D (Q j) := fun j h0 h1 => dn _ (by have := (h.b1 j h0 h1).2; omega)
  refine zBq.mk ?_ ?_ ?_ ?_ ?_ ?_ ?_ ?_ ?_ (fun c h0 h1 => by
    by_cases p : c = x
    · have := h.b10 (Q i) bi.1.1 bi.1.2
      rw [p, dx]; omega
    · have := h.b10 c h0 h1
      rw [zU_n p]; omega)
  · intro j h0 h1
    by_cases p : j = e
    · subst p
      rw [qe, dx]
      exact ⟨hx, by omega⟩
    · rw [qo j (by omega), dq j h0 (by omega)]
      exact h.b1 j h0 (by omega)
  · intro c h0 h1
    by_cases p : c = x
    · exact Or.inr ⟨e, by omega, by rw [qe, p]⟩
    · rw [zU_n p]
      refine (h.b2 c h0 h1).imp id (fun ⟨j, a, b⟩ => ⟨j, by omega, by rw [qo j a.2]; exact b⟩)
  · intro c h0 h1
    by_cases p : c = x
    · subst p
      rw [dx]
      refine Or.inr ⟨by omega, ?_⟩
      rw [show (D (Q i) + 1).toNat = (D (Q i)).toNat + 1 by omega]
      refine ⟨Q i, ?_, ⟨bi.1, hx⟩, nx, m, hm, hT⟩
      exact ((h.b3 (Q i) bi.1.1 bi.1.2).resolve_left (by omega)).2
    · rw [zU_n p]
      exact h.b3 c h0 h1
  · rw [dn a (by rw [h.b4]; omega)]
    exact h.b4
  · intro j k h0 h1 h2
    by_cases p : k = e
    · rw [p, qe, dx]
      by_cases q : j = e
      · rw [q, qe, dx]; exact Int.le_refl _
      · rw [qo j (by omega), dq j h0 (by omega)]
        exact h.b6 j h0 (by omega) hi.2
    · rw [qo j (by omega), qo k (by omega), dq j h0 (by omega), dq k (by omega) (by omega)]
      exact h.b5 j k h0 h1 (by omega)
  · intro k h0 h1 h2
    rw [qo i hi.2, dq i hi.1 hi.2]
    by_cases p : k = e
    · rw [p, qe, dx]; exact Int.le_refl _
    · rw [qo k (by omega), dq k h0 (by omega)]
      exact h.b6 k h0 (by omega) hi.2
  · intro j c h0 h1 h2
    rw [qo j (by omega)] at h2 ⊢
    rw [dq j h0 (by omega)]
    have g := h.b7 j c h0 h1 h2
    rw [dn c g.1]
    exact g
  · intro _ k h0 h1 c hc hk
    rw [qo i hi.2] at hk ⊢
    rw [dq i hi.1 hi.2]
    by_cases p : k = m
    · obtain rfl : c = x := by rw [← hk, p]; exact hT
      rw [dx]
      omega
    · have g := h.b8 hi.2 k h0 (by omega) c hc hk
      rw [dn c g.1]
      exact g
  · rw [zVc_U hx hD (by omega), h.b9]
theorem zBq_s {N : Int} {T : Int → Int → Int} {a : Int} {D Q : Int → Int} {i e m : Int} (h : zBq N T a D Q i e m) (hi : 0 ≤ i ∧ i < e) (hs : ¬ (0 ≤ T (Q i) m ∧ T (Q i) m < N) ∨ ¬ D (T (Q i) m) = -1) : zBq N T a D Q i e (m + 1) := by
  refine zBq.mk h.b1 h.b2 h.b3 h.b4 h.b5 h.b6 h.b7 ?_ h.b9 h.b10
  intro h1 k h0 h2 c hc hk
  by_cases p : k = m
  · subst p
    rw [hk] at hs
    have g := hs.resolve_left (fun q => q hc)
    obtain ⟨j, a1, a2⟩ := (h.b2 c hc.1 hc.2).resolve_left g
    have := h.b6 j a1.1 a1.2 hi.2
    rw [a2] at this
    exact ⟨g, this⟩
  · exact h.b8 h1 k h0 (by omega) c hc hk
theorem zBq_n {N : Int} {T : Int → Int → Int} {a : Int} {D Q : Int → Int} {i e m : Int} (h : zBq N T a D Q i e m) (hm : 7 ≤ m) (hi : 0 ≤ i ∧ i < e) : zBq N T a D Q (i + 1) e 0 := by
  refine zBq.mk h.b1 h.b2 h.b3 h.b4 h.b5 ?_ ?_ (fun _ k h0 h1 => by omega) h.b9 h.b10
  · intro k h0 h1 h2
    have := h.b6 k h0 h1 hi.2
    have := h.b5 i (i + 1) hi.1 (by omega) h2
    omega
  · intro j c h0 h1 hE
    by_cases p : j = i
    · subst p
      obtain ⟨⟨a1, a2⟩, a3, k, a4, a5⟩ := hE
      exact h.b8 hi.2 k a4.1 (by omega) c a2 a5
    · exact h.b7 j c h0 (by omega) hE
theorem zBq_f {N : Int} {T : Int → Int → Int} {a : Int} {D Q : Int → Int} {i e m : Int} (h : zBq N T a D Q i e m) (hi : e ≤ i) (ha : 0 ≤ a ∧ a < N) {b : Int} (hb : 0 ≤ b ∧ b < N) : zFr (zEd N T) a b (D b) := by
  have key : ∀ (n : Nat) (c : Int), zPt (zEd N T) a n c → (0 ≤ c ∧ c < N) ∧ ¬ D c = -1 ∧ D c ≤ n := by
    intro n
    induction n with
    | zero =>
      intro c hc
      have hc : c = a := hc
      rw [hc, h.b4]
      exact ⟨ha, by omega, by omega⟩
    | succ n ih =>
      intro c ⟨d, hd, hE⟩
      have g := ih d hd
      obtain ⟨j, a1, a2⟩ := (h.b2 d g.1.1 g.1.2).resolve_left g.2.1
      have hE2 := hE
      rw [← a2] at hE
      have f := h.b7 j c a1.1 (by omega) hE
      rw [a2] at f
      exact ⟨hE2.1.2, f.1, by omega⟩
  rcases h.b3 b hb.1 hb.2 with g | ⟨g1, g2⟩
  · exact Or.inl ⟨g, fun n p => (key n b p).2.1 g⟩
  · exact Or.inr ⟨(D b).toNat, by omega, g2, fun m hm p => by have := (key m b p).2.2; omega⟩
/-- the search by levels: what is known behind a level -/
def zLq (N : Int) (E : Int → Int → Prop) (a : Int) (D : Int → Int) (n : Nat) : Prop := (∀ c, 0 ≤ c → c < N → (D c = -1 ∧ ∀ m : Nat, m ≤ n → ¬ zPt E a m c) ∨ ((0 ≤ D c ∧ D c ≤ n) ∧ zPt E a (D c).toNat c ∧ ∀ m : Nat, (m : Int) < D c → ¬ zPt E a m c)) ∧ ((n : Int) + 1 ≤ zVc D N ∨ ∀ c d, E c d → ¬ D c = -1 → ¬ D d = -1)
/-- within a level: cells before c have been gone on from, and c to the cells before d -/
def zLm2 (N : Int) (E : Int → Int → Prop) (D F : Int → Int) (n : Nat) (c d : Int) : Prop := (∀ x, 0 ≤ x → x < N → ¬ D x = -1 → F x = D x) ∧ (∀ x, 0 ≤ x → x < N → D x = -1 → F x = -1 ∨ (F x = (n : Int) + 1 ∧ ∃ y, D y = n ∧ E y x)) ∧ (∀ y x, 0 ≤ y → y < c → D y = n → E y x → ¬ F x = -1) ∧ (∀ x, 0 ≤ x → x < d → D c = n → E c x → ¬ F x = -1)
theorem zLm2.a1 {N : Int} {E : Int → Int → Prop} {D F : Int → Int} {n : Nat} {c d : Int} (h : zLm2 N E D F n c d) : ∀ x, 0 ≤ x → x < N → ¬ D x = -1 → F x = D x := h.1
theorem zLm2.a2 {N : Int} {E : Int → Int → Prop} {D F : Int → Int} {n : Nat} {c d : Int} (h : zLm2 N E D F n c d) : ∀ x, 0 ≤ x → x < N → D x = -1 → F x = -1 ∨ (F x = (n : Int) + 1 ∧ ∃ y, D y = n ∧ E y x) := h.2.1
theorem zLm2.a3 {N : Int} {E : Int → Int → Prop} {D F : Int → Int} {n : Nat} {c d : Int} (h : zLm2 N E D F n c d) : ∀ y x, 0 ≤ y → y < c → D y = n → E y x → ¬ F x = -1 := h.2.2.1
theorem zLm2.a4 {N : Int} {E : Int → Int → Prop} {D F : Int → Int} {n : Nat} {c d : Int} (h : zLm2 N E D F n c d) : ∀ x, 0 ≤ x → x < d → D c = n → E c x → ¬ F x = -1 := h.2.2.2
theorem zLm2.mk {N : Int} {E : Int → Int → Prop} {D F : Int → Int} {n : Nat} {c d : Int} (a1 : ∀ x, 0 ≤ x → x < N → ¬ D x = -1 → F x = D x) (a2 : ∀ x, 0 ≤ x → x < N → D x = -1 → F x = -1 ∨ (F x = (n : Int) + 1 ∧ ∃ y, D y = n ∧ E y x)) (a3 : ∀ y x, 0 ≤ y → y < c → D y = n → E y x → ¬ F x = -1) (a4 : ∀ x, 0 ≤ x → x < d → D c = n → E c x → ¬ F x = -1) : zLm2 N E D F n c d := ⟨a1, a2, a3, a4⟩
theorem zLq_0 {N : Int} {E : Int → Int → Prop} {a : Int} {D : Int → Int} (ha : 0 ≤ a ∧ a < N) (h : ∀ c, 0 ≤ c → c < N → D c = if c = a then 0 else -1) : zLq N E a D 0 := by
  have h1 : ∀ c, 0 ≤ c → c < N → zU (zC (-1)) a 0 c = D c := fun c a b => (h c a b).symm
  refine ⟨fun c h0 h2 => ?_, Or.inl ?_⟩
  · rw [h c h0 h2]
    by_cases e : c = a
    · subst e
      rw [if_pos rfl]
      exact Or.inr ⟨by omega, rfl, fun m hm => by omega⟩
    · rw [if_neg e]
      refine Or.inl ⟨rfl, fun m hm p => ?_⟩
      obtain rfl : m = 0 := by omega
      exact e p
  · have e : zVc D N = zVc (zU (zC (-1)) a 0) N := by
      unfold zVc
      refine zSum_cg _ (fun c h0 h2 => ?_)
      rw [h1 c h0 (by omega)]
    rw [e, zVc_U ha rfl (by omega)]
    have := (zVc_le (zC (-1)) (N := N) (by omega)).1
    omega
theorem zLm2_0 (N : Int) (E : Int → Int → Prop) (D : Int → Int) (n : Nat) : zLm2 N E D D n 0 0 :=
  zLm2.mk (fun _ _ _ _ => rfl) (fun x _ _ q => Or.inl q) (fun y x h0 h1 => by omega) (fun x h0 h1 => by omega)
theorem zLm2_d {N : Int} {E : Int → Int → Prop} {D F : Int → Int} {n : Nat} {c d : Int} (h : zLm2 N E D F n c d) (hc : 0 ≤ c ∧ c < N) : (F c = n ↔ D c = n) ∧ (∀ x, 0 ≤ x → x < N → F x = -1 → ¬ F c = -1 → ¬ x = c) := by
  refine ⟨⟨fun q => ?_, fun q => ?_⟩, fun x _ _ h1 h2 h3 => h2 (by rw [← h3]; exact h1)⟩
  · by_cases p : D c = -1
    · rcases h.a2 c hc.1 hc.2 p with g | g <;> omega
    · rw [← h.a1 c hc.1 hc.2 p]; exact q
  · rw [h.a1 c hc.1 hc.2 (by omega)]; exact q
theorem zLm2_s {N : Int} {E : Int → Int → Prop} {D F : Int → Int} {n : Nat} {c d v : Int} (h : zLm2 N E D F n c d) (hc : 0 ≤ c ∧ c < N) (hd : 0 ≤ d ∧ d < N) (hDc : F c = n) (hv : (F d = -1 ∧ E c d ∧ v = (n : Int) + 1) ∨ ((¬ F d = -1 ∨ ¬ E c d) ∧ v = F d)) : zLm2 N E D (zU F d v) n c (d + 1) := by
  have hD : D c = n := (zLm2_d h hc).1.mp hDc
  rcases hv with ⟨p1, p2, p3⟩ | ⟨p1, p2⟩
  · have hDd : D d = -1 := by
      by_cases p : D d = -1
      · exact p
      · have := h.a1 d hd.1 hd.2 p; omega
    refine zLm2.mk (fun x h0 h1 h2 => ?_) (fun x h0 h1 h2 => ?_) (fun y x h0 h1 h2 h3 => ?_) (fun x h0 h1 h2 h3 => ?_)
    · rw [zU_n (fun q => h2 (by rw [q]; exact hDd))]; exact h.a1 x h0 h1 h2
    · by_cases e : x = d
      · subst e; rw [zU_s]; exact Or.inr ⟨p3, c, hD, p2⟩
      · rw [zU_n e]; exact h.a2 x h0 h1 h2
    · by_cases e : x = d
      · subst e; rw [zU_s]; omega
      · rw [zU_n e]; exact h.a3 y x h0 h1 h2 h3
    · by_cases e : x = d
      · subst e; rw [zU_s]; omega
      · rw [zU_n e]; exact h.a4 x h0 (by omega) h2 h3
  · have e : zU F d v = F := by
      funext x
      by_cases q : x = d
      · subst q; rw [zU_s, p2]
      · exact zU_n q
    rw [e]
    refine zLm2.mk h.a1 h.a2 h.a3 (fun x h0 h1 h2 h3 => ?_)
    by_cases q : x = d
    · subst q; exact p1.resolve_right (fun u => u h3)
    · exact h.a4 x h0 (by omega) h2 h3
theorem zLm2_c {N : Int} {E : Int → Int → Prop} {D F : Int → Int} {n : Nat} {c d : Int} (hE : ∀ c d, E c d → ((0 ≤ c ∧ c < N) ∧ (0 ≤ d ∧ d < N)) ∧ ¬ c = d) (h : zLm2 N E D F n c d) (hc : 0 ≤ c ∧ c < N) (hd : N ≤ d ∨ ¬ F c = n) : zLm2 N E D F n (c + 1) 0 := by
  refine zLm2.mk h.a1 h.a2 (fun y x h0 h1 h2 h3 => ?_) (fun x h0 h1 => by omega)
  by_cases e : y = c
  · subst e
    have hx := (hE _ _ h3).1.2
    exact h.a4 x hx.1 (by
      have := hd.resolve_right (fun q => q ((zLm2_d h hc).1.mpr h2))
      omega) h2 h3
  · exact h.a3 y x h0 (by omega) h2 h3
theorem zSum_mo {F G : Int → Int} : ∀ n : Nat, (∀ c : Int, 0 ≤ c → c < n → F c ≤ G c) → zSum F n ≤ zSum G n
  | 0, _ => Int.le_refl _
  | n + 1, h => by
    have a := zSum_mo n (fun c h0 h1 => h c h0 (by omega))
    have b := h n (by omega) (by omega)
    rw [zSum, zSum]
    omega
theorem zVc_m {D F : Int → Int} {N x : Int} (h : ∀ c, 0 ≤ c → c < N → ¬ D c = -1 → ¬ F c = -1) (hx : 0 ≤ x ∧ x < N) (h1 : D x = -1) (h2 : ¬ F x = -1) : zVc D N + 1 ≤ zVc F N := by
  rw [← zVc_U (v := 0) hx h1 (by omega)]
  unfold zVc
  refine zSum_mo _ (fun c h0 h3 => ?_)
  by_cases e : c = x
  · subst e
    rw [if_neg h2]
    split <;> omega
  · rw [zU_n e]
    by_cases p : D c = -1
    · rw [if_pos p]; split <;> omega
    · rw [if_neg p, if_neg (h c h0 (by omega) p)]; exact Int.le_refl _
theorem zLq_s {N : Int} {E : Int → Int → Prop} {a : Int} {D F : Int → Int} {n : Nat} {c d : Int} (hE : ∀ c d, E c d → ((0 ≤ c ∧ c < N) ∧ (0 ≤ d ∧ d < N)) ∧ ¬ c = d) (hL : zLq N E a D n) (hM : zLm2 N E D F n c d) (hc : N ≤ c) : zLq N E a F (n + 1) := by
  have st : ∀ y x, E y x → ¬ D y = -1 → D x = -1 → D y = n := fun y x h1 h2 h3 => by
    have hb := (hE y x h1).1
    have g := (hL.1 y hb.1.1 hb.1.2).resolve_left (fun q => h2 q.1)
    have g2 := (hL.1 x hb.2.1 hb.2.2).resolve_right (fun q => by omega)
    by_cases p : D y = n
    · exact p
    · exact absurd ⟨y, g.2.1, h1⟩ (g2.2 ((D y).toNat + 1) (by omega))
  refine ⟨fun x h0 h1 => ?_, ?_⟩
  · by_cases p : D x = -1
    · have hno := (hL.1 x h0 h1).resolve_right (fun q => by omega)
      rcases hM.a2 x h0 h1 p with g | ⟨g, y, hy, hyx⟩
      · refine Or.inl ⟨g, fun m hm q => ?_⟩
        by_cases e : m = n + 1
        · subst e
          obtain ⟨y, u1, u2⟩ := q
          have hb := (hE y x u2).1
          have v : ¬ D y = -1 := fun w => ((hL.1 y hb.1.1 hb.1.2).resolve_right (fun q => by omega)).2 n (Nat.le_refl _) u1
          exact hM.a3 y x hb.1.1 (by omega) (st y x u2 v p) u2 g
        · exact hno.2 m (by omega) q
      · refine Or.inr ⟨by omega, ?_, fun m hm => hno.2 m (by omega)⟩
        have hb := (hE y x hyx).1
        have u := ((hL.1 y hb.1.1 hb.1.2).resolve_left (fun q => by omega)).2.1
        rw [g, show ((n : Int) + 1).toNat = n + 1 by omega]
        rw [hy, Int.toNat_natCast] at u
        exact ⟨y, u, hyx⟩
    · rw [hM.a1 x h0 h1 p]
      have g := (hL.1 x h0 h1).resolve_left (fun q => p q.1)
      exact Or.inr ⟨by omega, g.2⟩
  · by_cases p : ∃ x, (0 ≤ x ∧ x < N) ∧ ¬ F x = D x
    · obtain ⟨x, hx, hn⟩ := p
      have hD : D x = -1 := by
        by_cases q : D x = -1
        · exact q
        · exact absurd (hM.a1 x hx.1 hx.2 q) hn
      have g := (hM.a2 x hx.1 hx.2 hD).resolve_left (fun q => hn (by rw [q, hD]))
      obtain ⟨g1, y, hy, hyx⟩ := g
      refine Or.inl ?_
      have k := hL.2.resolve_right (fun q => q y x hyx (by omega) hD)
      have := zVc_m (D := D) (F := F) (N := N) (fun c h0 h1 h2 => by rw [hM.a1 c h0 h1 h2]; exact h2) hx hD (by omega)
      push_cast
      omega
    · have e : ∀ x, 0 ≤ x → x < N → F x = D x := fun x h0 h1 => by
        by_cases q : F x = D x
        · exact q
        · exact absurd ⟨x, ⟨h0, h1⟩, q⟩ p
      refine Or.inr (fun y x hyx h1 h2 => ?_)
      have hb := (hE y x hyx).1
      rw [e y hb.1.1 hb.1.2] at h1
      have h3 := h2
      rw [e x hb.2.1 hb.2.2] at h3
      exact hM.a3 y x hb.1.1 (by omega) (st y x hyx h1 h3) hyx h2
theorem zLq_f {N : Int} {E : Int → Int → Prop} {a : Int} {D : Int → Int} {n : Nat} (hE : ∀ c d, E c d → ((0 ≤ c ∧ c < N) ∧ (0 ≤ d ∧ d < N)) ∧ ¬ c = d) (ha : 0 ≤ a ∧ a < N) (hL : zLq N E a D n) (hn : N ≤ n) {b : Int} (hb : 0 ≤ b ∧ b < N) : zFr E a b (D b) := by
  have cl := hL.2.resolve_left (fun q => by have := (zVc_le D (N := N) (by omega)).2; omega)
  have key : ∀ (n : Nat) (c : Int), zPt E a n c → (0 ≤ c ∧ c < N) ∧ ¬ D c = -1 := by
    intro n
    induction n with
    | zero =>
      intro c hc
      have hc : c = a := hc
      rw [hc]
      exact ⟨ha, fun q => ((hL.1 a ha.1 ha.2).resolve_right (fun q => by omega)).2 0 (Nat.zero_le _) rfl⟩
    | succ n ih =>
      intro c ⟨d, hd, hdc⟩
      exact ⟨(hE d c hdc).1.2, cl d c hdc (ih d hd).2⟩
  rcases hL.1 b hb.1 hb.2 with g | g
  · exact Or.inl ⟨g.1, fun n p => (key n b p).2 g.1⟩
  · exact Or.inr ⟨(D b).toNat, by omega, g.2.1, fun m hm => g.2.2 m (by omega)⟩
def zEy (σ : zMem) (c d : Int) : Prop := ((0 ≤ c ∧ c < zN σ) ∧ (0 ≤ d ∧ d < zN σ)) ∧ ¬ c = d ∧ 0 < zLy σ c d
theorem zEy_c (σ : zMem) : ∀ c d, zEy σ c d → ((0 ≤ c ∧ c < zN σ) ∧ (0 ≤ d ∧ d < zN σ)) ∧ ¬ c = d := fun c d h => ⟨h.1, h.2.1⟩
def zTa (σ : zMem) (c k : Int) : Int := σ 33 (c * 7 + k)
theorem zLm2_b {N : Int} {E : Int → Int → Prop} {a : Int} {D F : Int → Int} {n : Nat} {c d : Int} (hL : zLq N E a D n) (h : zLm2 N E D F n c d) (x : Int) (h0 : 0 ≤ x) (h1 : x < N) : -1 ≤ F x ∧ F x ≤ (n : Int) + 1 := by
  by_cases p : D x = -1
  · rcases h.a2 x h0 h1 p with g | g <;> omega
  · rw [h.a1 x h0 h1 p]
    have := (hL.1 x h0 h1).resolve_left (fun q => p q.1)
    omega
theorem zLq_b {N : Int} {E : Int → Int → Prop} {a : Int} {D : Int → Int} {n : Nat} (hL : zLq N E a D n) (x : Int) (h0 : 0 ≤ x) (h1 : x < N) : -1 ≤ D x ∧ D x ≤ (n : Int) := by
  rcases hL.1 x h0 h1 with g | g <;> omega

set_option maxRecDepth 100000 in
set_option maxHeartbeats 4000000 in
theorem k_X3_fewestSteps {l : Launch} {D : va_G} {t : Nat → ClassId} {ad : Nat → Nat} {σ : zMem} {a b : Int} (hw : zHw σ) (ht : zTb σ) (ha : 0 ≤ a ∧ a < zN σ) (hb : 0 ≤ b ∧ b < zN σ) : z_Ci l D t yX3_fewestSteps cX3_fewestSteps 8 .int 2 41 0 0 [.ref (ad 1), .int (zI a), .int (zI b)] (wX ad t σ) (fun r w => ∃ σ', w = wX ad t σ' ∧ zE σ' σ [34, 35] ∧ zFr (zEd (zN σ) (zTa σ)) a b r) := by
  refine z_Ci_of (by decide +kernel) [some (.ref (ad 1)), some (.int (zI a)), some (.int (zI b)), none, none, none, none, none] rfl rfl (Nat.le_of_ble_eq_true rfl) fun K hl hD ht hR hnm C ret => ?_
  subst hl; subst hD; subst ht
  have hN := zHw_N hw
  refine z_aload_n C (z_d dtX3_fewestSteps_0 0 rfl) rfl ?_
  refine gf_X3_44 C (z_d dtX3_fewestSteps_0 1 rfl) ?_
  refine z_iconst C (z_d dtX3_fewestSteps_0 2 rfl) ?_
  refine z_callSv C (z_d dtX3_fewestSteps_0 3 rfl) kf_X12 cal_J7_fill_53178 gw_14_8 rfl rfl hR ⟨rfl, rfl, rfl, rfl⟩ rfl (fun w_5 h_5 => ?_)
  subst h_5
  refine z_aload_n C (z_d dtX3_fewestSteps_0 4 rfl) rfl ?_
  refine gf_X3_44 C (z_d dtX3_fewestSteps_0 5 rfl) ?_
  refine z_iload_n C (z_d dtX3_fewestSteps_0 6 rfl) rfl ?_
  refine z_iconst C (z_d dtX3_fewestSteps_0 7 rfl) ?_
  refine as_X12 C (z_d dtX3_fewestSteps_0 8 rfl) (by omega) ?_
  refine z_aload_n C (z_d dtX3_fewestSteps_0 9 rfl) rfl ?_
  refine gf_X3_47 C (z_d dtX3_fewestSteps_0 10 rfl) ?_
  refine z_iconst C (z_d dtX3_fewestSteps_0 11 rfl) ?_
  refine z_iload_n C (z_d dtX3_fewestSteps_0 12 rfl) rfl ?_
  refine as_X13 C (z_d dtX3_fewestSteps_0 13 rfl) (by omega) ?_
  refine z_iconst C (z_d dtX3_fewestSteps_0 14 rfl) ?_
  refine z_istore_n3 C (z_d dtX3_fewestSteps_0 15 rfl) rfl ?_
  refine z_iconst C (z_d dtX3_fewestSteps_0 16 rfl) ?_
  refine z_istore4 C (z_d dtX3_fewestSteps_0 17 rfl) rfl ?_
  have lp_27 : ∀ (N_27 : Nat) (i e : Int) (μ : zMem), (0 ≤ i ∧ i ≤ e) → (zE μ σ [34, 35]) → (zBq (zN σ) (zTa σ) a (μ 34) (μ 35) i e 0) → (zN σ - i).toNat < N_27 → Gd K 0 0 27 [some (.ref (ad 1)), some (.int (zI a)), some (.int (zI b)), some (.int (zI e)), some (.int (zI i)), none, none, none] [] (wX ad (z_t K) μ) := by
    intro N_27
    induction N_27 with
    | zero => intro i e μ hie hE hq hm_27; exact absurd hm_27 (Nat.not_lt_zero _)
    | succ N_27 ih_27 =>
      intro i e μ hie hE hq hm_27
      have he9 := hq.b9
      have hve := zVc_le (μ 34) (N := zN σ) (by omega)
      have hb1 := fun p : i < e => hq.b1 i (by omega) p
      refine z_iload C (z_d dtX3_fewestSteps_0 18 rfl) rfl ?_
      refine z_iload_n C (z_d dtX3_fewestSteps_0 19 rfl) rfl ?_
      refine z_icmp_ge (tgt := 134) C (z_d dtX3_fewestSteps_0 20 rfl) (by decide) (by omega) (fun h_30 => ?_) (fun h_30 => ?_)
      · refine z_aload_n C (z_d dtX3_fewestSteps_1 32 rfl) rfl ?_
        refine gf_X3_44 C (z_d dtX3_fewestSteps_1 33 rfl) ?_
        refine z_iload_n C (z_d dtX3_fewestSteps_1 34 rfl) rfl ?_
        refine al_X12 C (z_d dtX3_fewestSteps_1 35 rfl) (by omega) ?_
        try simp (decide := true) only [zS_s, zS_o, zC]
        exact ret _ _ _ _ (z_d dtX3_fewestSteps_1 36 rfl) (⟨_, rfl, hE, zBq_f hq (by omega) ha hb⟩) rfl
      · refine z_iload C (z_d dtX3_fewestSteps_0 21 rfl) rfl ?_
        refine z_bipush C (z_d dtX3_fewestSteps_0 22 rfl) zb_72 ?_
        refine z_icmp_ge (tgt := 134) C (z_d dtX3_fewestSteps_0 23 rfl) (by decide) (by omega) (fun h_37 => ?_) (fun h_37 => ?_)
        · exfalso; omega
        · refine z_aload_n C (z_d dtX3_fewestSteps_0 24 rfl) rfl ?_
          refine gf_X3_47 C (z_d dtX3_fewestSteps_0 25 rfl) ?_
          refine z_iload C (z_d dtX3_fewestSteps_0 26 rfl) rfl ?_
          refine al_X13 C (z_d dtX3_fewestSteps_0 27 rfl) (by omega) ?_
          try simp (decide := true) only [zS_s, zS_o, zC]
          have hb1 := hb1 (by omega)
          generalize hc : μ 35 i = c at hb1 ⊢
          refine z_istore5 C (z_d dtX3_fewestSteps_0 28 rfl) rfl ?_
          refine z_iconst C (z_d dtX3_fewestSteps_0 29 rfl) ?_
          refine z_istore6 C (z_d dtX3_fewestSteps_0 30 rfl) rfl ?_
          have lp_52 : ∀ (N_52 : Nat) (m e2 : Int) (ν : zMem), ((0 ≤ m ∧ m ≤ 7) ∧ i < e2) → (zE ν σ [34, 35]) → (ν 35 i = c) → (zBq (zN σ) (zTa σ) a (ν 34) (ν 35) i e2 m) → (7 - m).toNat < N_52 → Gd K 0 0 52 [some (.ref (ad 1)), some (.int (zI a)), some (.int (zI b)), some (.int (zI e2)), some (.int (zI i)), some (.int (zI c)), some (.int (zI m)), none] [] (wX ad (z_t K) ν) := by
            intro N_52
            induction N_52 with
            | zero => intro m e2 ν hm hE2 hqi hq2 hm_52; exact absurd hm_52 (Nat.not_lt_zero _)
            | succ N_52 ih_52 =>
              intro m e2 ν hm hE2 hqi hq2 hm_52
              have he9 := hq2.b9
              have hve := zVc_le (ν 34) (N := zN σ) (by omega)
              have e33 : ν 33 = σ 33 := hE2 33 (by decide)
              have eN : zN ν = zN σ := zN_E hE2 (by decide) (by decide) (by decide)
              have hw2 : zHw ν := zHw_E hE2 (by decide) (by decide) (by decide) hw
              have hT : zTa σ (ν 35 i) m = σ 33 (c * 7 + m) := by unfold zTa; rw [hqi]
              have htb := fun p : m < 7 => zTb_b hw ht (c := c) (by omega) m (by omega) p
              have hdb : ∀ (x : Int), 0 ≤ x → x < zN σ → -1 ≤ ν 34 x ∧ ν 34 x < e2 := fun x h0 h1 => by
                have p := hq2.b10 x h0 h1
                have q := hq2.b3 x h0 h1
                rcases q with q | q <;> omega
              have hdn := hdb (σ 33 (c * 7 + m))
              have hd1 := hq2.b1 i (by omega) (by omega)
              rw [hqi] at hd1
              have hvc := fun (p : 0 ≤ σ 33 (c * 7 + m) ∧ σ 33 (c * 7 + m) < zN σ) (q : ν 34 (σ 33 (c * 7 + m)) = -1) => zVc_lt p q
              refine z_iload C (z_d dtX3_fewestSteps_0 31 rfl) rfl ?_
              refine z_bipush C (z_d dtX3_fewestSteps_0 32 rfl) zb_7 ?_
              refine z_icmp_ge (tgt := 128) C (z_d dtX3_fewestSteps_0 33 rfl) (by decide) (by omega) (fun h_56 => ?_) (fun h_56 => ?_)
              · refine z_iinc4 C (z_d dtX3_fewestSteps_1 30 rfl) rfl ?_
                refine z_goto (tgt := 27) C (z_d dtX3_fewestSteps_1 31 rfl) (by decide) ?_
                refine z_drop5 ?_
                refine z_drop6 ?_
                exact ih_27 _ _ _ (by omega) hE2 (zBq_n hq2 (by omega) (by omega)) (by omega)
              · refine z_aload_n C (z_d dtX3_fewestSteps_0 34 rfl) rfl ?_
                refine z_iload C (z_d dtX3_fewestSteps_0 35 rfl) rfl ?_
                refine z_iload C (z_d dtX3_fewestSteps_0 36 rfl) rfl ?_
                refine z_callV C (z_d dtX3_fewestSteps_0 37 rfl) (k_X3_targetOf  (by omega) (by omega)) cal_X3_targetOf gw_13_8 rfl 1 3 rfl rfl rfl rfl hR ⟨rfl, rfl, rfl, rfl⟩ rfl (fun r_64 w_64 h_64 => ?_)
                obtain ⟨rfl, rfl⟩ := h_64
                rw [e33]
                refine z_istore7 C (z_d dtX3_fewestSteps_0 38 rfl) rfl ?_
                refine z_aload_n C (z_d dtX3_fewestSteps_0 39 rfl) rfl ?_
                refine z_iload C (z_d dtX3_fewestSteps_1 0 rfl) rfl ?_
                refine z_callV C (z_d dtX3_fewestSteps_1 1 rfl) (k_X3_hasCell  hw2 (by omega)) cal_X3_hasCell gw_14_9 rfl 1 3 rfl rfl rfl rfl hR ⟨rfl, rfl, rfl, rfl⟩ rfl (fun r_72 w_72 h_72 => ?_)
                obtain ⟨rfl, h_72⟩ := h_72
                rw [eN] at h_72
                refine z_if_eq (tgt := 122) C (z_d dtX3_fewestSteps_1 2 rfl) (by decide) (by omega) (fun h_75 => ?_) (fun h_75 => ?_)
                · refine z_iinc6 C (z_d dtX3_fewestSteps_1 28 rfl) rfl ?_
                  refine z_goto (tgt := 52) C (z_d dtX3_fewestSteps_1 29 rfl) (by decide) ?_
                  refine z_drop7 ?_
                  exact ih_52 _ _ _ (by omega) (by first | exact zE_set (zE_set hE2 (by decide)) (by decide) | exact hE2) (by first | exact hqi | exact (zU_n (by omega)).trans hqi) (by
                          first
                            | exact zBq_s hq2 (by omega) (Or.inl (by rw [hT]; omega))
                            | exact zBq_s hq2 (by omega) (Or.inr (by rw [hT]; omega))
                            | (have key := zBq_v hq2 (by omega) (by omega) (x := σ 33 (c * 7 + m)) (by omega) hT (by omega)
                               rw [hqi] at key
                               exact key)) (by omega)
                · refine z_aload_n C (z_d dtX3_fewestSteps_1 3 rfl) rfl ?_
                  refine gf_X3_44 C (z_d dtX3_fewestSteps_1 4 rfl) ?_
                  refine z_iload C (z_d dtX3_fewestSteps_1 5 rfl) rfl ?_
                  refine al_X12 C (z_d dtX3_fewestSteps_1 6 rfl) (by omega) ?_
                  try simp (decide := true) only [zS_s, zS_o, zC]
                  refine z_iconst C (z_d dtX3_fewestSteps_1 7 rfl) ?_
                  refine z_icmp_ne (tgt := 122) C (z_d dtX3_fewestSteps_1 8 rfl) (by decide) (by omega) (fun h_86 => ?_) (fun h_86 => ?_)
                  · refine z_iinc6 C (z_d dtX3_fewestSteps_1 28 rfl) rfl ?_
                    refine z_goto (tgt := 52) C (z_d dtX3_fewestSteps_1 29 rfl) (by decide) ?_
                    refine z_drop7 ?_
                    exact ih_52 _ _ _ (by omega) (by first | exact zE_set (zE_set hE2 (by decide)) (by decide) | exact hE2) (by first | exact hqi | exact (zU_n (by omega)).trans hqi) (by
                            first
                              | exact zBq_s hq2 (by omega) (Or.inl (by rw [hT]; omega))
                              | exact zBq_s hq2 (by omega) (Or.inr (by rw [hT]; omega))
                              | (have key := zBq_v hq2 (by omega) (by omega) (x := σ 33 (c * 7 + m)) (by omega) hT (by omega)
                                 rw [hqi] at key
                                 exact key)) (by omega)
                  · refine z_iload_n C (z_d dtX3_fewestSteps_1 9 rfl) rfl ?_
                    refine z_bipush C (z_d dtX3_fewestSteps_1 10 rfl) zb_72 ?_
                    refine z_icmp_ge (tgt := 122) C (z_d dtX3_fewestSteps_1 11 rfl) (by decide) (by omega) (fun h_92 => ?_) (fun h_92 => ?_)
                    · exfalso; have := hvc (by omega) (by omega); omega
                    · refine z_aload_n C (z_d dtX3_fewestSteps_1 12 rfl) rfl ?_
                      refine gf_X3_44 C (z_d dtX3_fewestSteps_1 13 rfl) ?_
                      refine z_iload C (z_d dtX3_fewestSteps_1 14 rfl) rfl ?_
                      refine z_aload_n C (z_d dtX3_fewestSteps_1 15 rfl) rfl ?_
                      refine gf_X3_44 C (z_d dtX3_fewestSteps_1 16 rfl) ?_
                      refine z_iload C (z_d dtX3_fewestSteps_1 17 rfl) rfl ?_
                      refine al_X12 C (z_d dtX3_fewestSteps_1 18 rfl) (by omega) ?_
                      try simp (decide := true) only [zS_s, zS_o, zC]
                      refine z_iconst C (z_d dtX3_fewestSteps_1 19 rfl) ?_
                      refine z_iadd C (z_d dtX3_fewestSteps_1 20 rfl) ?_
                      refine as_X12 C (z_d dtX3_fewestSteps_1 21 rfl) (by omega) ?_
                      refine z_aload_n C (z_d dtX3_fewestSteps_1 22 rfl) rfl ?_
                      refine gf_X3_47 C (z_d dtX3_fewestSteps_1 23 rfl) ?_
                      refine z_iload_n C (z_d dtX3_fewestSteps_1 24 rfl) rfl ?_
                      refine z_iload C (z_d dtX3_fewestSteps_1 25 rfl) rfl ?_
                      refine as_X13 C (z_d dtX3_fewestSteps_1 26 rfl) (by omega) ?_
                      refine z_iinc3 C (z_d dtX3_fewestSteps_1 27 rfl) rfl ?_
                      refine z_iinc6 C (z_d dtX3_fewestSteps_1 28 rfl) rfl ?_
                      refine z_goto (tgt := 52) C (z_d dtX3_fewestSteps_1 29 rfl) (by decide) ?_
                      refine z_drop7 ?_
                      exact ih_52 _ _ _ (by omega) (by first | exact zE_set (zE_set hE2 (by decide)) (by decide) | exact hE2) (by first | exact hqi | exact (zU_n (by omega)).trans hqi) (by
                              first
                                | exact zBq_s hq2 (by omega) (Or.inl (by rw [hT]; omega))
                                | exact zBq_s hq2 (by omega) (Or.inr (by rw [hT]; omega))
                                | (have key := zBq_v hq2 (by omega) (by omega) (x := σ 33 (c * 7 + m)) (by omega) hT (by omega)
                                   rw [hqi] at key
                                   exact key)) (by omega)
          exact lp_52 _ _ _ _ (by omega) hE hc hq (Nat.lt_succ_self _)
  exact lp_27 _ _ _ _ (by omega) (zE_set (zE_set (zE_set zE_rf (by decide)) (by decide)) (by decide)) (zBq_0 ha _) (Nat.lt_succ_self _)

set_option maxRecDepth 100000 in
set_option maxHeartbeats 4000000 in
theorem k_X7_far {l : Launch} {D : va_G} {t : Nat → ClassId} {ad : Nat → Nat} {σ : zMem} {a b : Int} (ok : okX σ) (ha : -2147483648 ≤ a ∧ a < 2147483648) (hb : -2147483648 ≤ b ∧ b < 2147483648) : z_Ci l D t yX7_far cX7_far 3 .int 3 68 0 0 [.ref (ad 0), .int (zI a), .int (zI b)] (wX ad t σ) (fun r w => ∃ σ', w = wX ad t σ' ∧ ((¬ ((0 ≤ a ∧ a < zN σ) ∧ (0 ≤ b ∧ b < zN σ)) ∧ r = -2 ∧ σ' = σ) ∨ (((0 ≤ a ∧ a < zN σ) ∧ (0 ≤ b ∧ b < zN σ)) ∧ zE σ' σ [34, 35] ∧ zFr (zEd (zN σ) (zTa σ)) a b r))) := by
  refine z_Ci_of (by decide +kernel) [some (.ref (ad 0)), some (.int (zI a)), some (.int (zI b))] rfl rfl (Nat.le_of_ble_eq_true rfl) fun K hl hD ht hR hnm C ret => ?_
  subst hl; subst hD; subst ht
  have ok2 := ok
  obtain ⟨⟨hw, hs, ht, h4, h5, h6, hwc, hlc⟩, ⟨h7, hdd⟩, hmp, oS1, oW1, oA1, oT1, oB1⟩ := ok2
  have hN := zHw_N hw
  have hW := hw; unfold zHw at hW
  refine z_aload_n C (z_d dtX7_far_0 0 rfl) rfl ?_
  refine gf_X7_10 C (z_d dtX7_far_0 1 rfl) ?_
  refine z_iload_n C (z_d dtX7_far_0 2 rfl) rfl ?_
  refine z_callV C (z_d dtX7_far_0 3 rfl) (k_X3_hasCell  (by first | assumption | omega) (by first | assumption | omega)) cal_X3_hasCell gw_10_1 rfl 1 3 rfl rfl rfl rfl hR ⟨rfl, rfl, rfl, rfl⟩ rfl (fun r_5 w_5 h_5 => ?_)
  obtain ⟨rfl, h_5⟩ := h_5
  refine z_if_eq (tgt := 22) C (z_d dtX7_far_0 4 rfl) (by decide) (by omega) (fun h_8 => ?_) (fun h_8 => ?_)
  · refine z_bipush C (z_d dtX7_far_0 10 rfl) zb_m2 ?_
    exact ret _ _ _ _ (z_d dtX7_far_0 11 rfl) (⟨σ, rfl, Or.inl ⟨by omega, rfl, rfl⟩⟩) rfl
  · refine z_aload_n C (z_d dtX7_far_0 5 rfl) rfl ?_
    refine gf_X7_10 C (z_d dtX7_far_0 6 rfl) ?_
    refine z_iload_n C (z_d dtX7_far_0 7 rfl) rfl ?_
    refine z_callV C (z_d dtX7_far_0 8 rfl) (k_X3_hasCell  (by first | assumption | omega) (by first | assumption | omega)) cal_X3_hasCell gw_10_1 rfl 1 3 rfl rfl rfl rfl hR ⟨rfl, rfl, rfl, rfl⟩ rfl (fun r_16 w_16 h_16 => ?_)
    obtain ⟨rfl, h_16⟩ := h_16
    refine z_if_ne (tgt := 25) C (z_d dtX7_far_0 9 rfl) (by decide) (by omega) (fun h_19 => ?_) (fun h_19 => ?_)
    · refine z_aload_n C (z_d dtX7_far_0 12 rfl) rfl ?_
      refine gf_X7_10 C (z_d dtX7_far_0 13 rfl) ?_
      refine z_iload_n C (z_d dtX7_far_0 14 rfl) rfl ?_
      refine z_iload_n C (z_d dtX7_far_0 15 rfl) rfl ?_
      refine z_callV C (z_d dtX7_far_0 16 rfl) (k_X3_fewestSteps  (by first | assumption | omega) (by first | assumption | omega) (by omega) (by omega)) cal_X3_fewestSteps gw_14_4 rfl 1 3 rfl rfl rfl rfl hR ⟨rfl, rfl, rfl, rfl⟩ rfl (fun r_31 w_31 h_31 => ?_)
      obtain ⟨σ_31, rfl, hE_31, h_31⟩ := h_31
      exact ret _ _ _ _ (z_d dtX7_far_0 17 rfl) (⟨_, rfl, Or.inr ⟨by omega, hE_31, h_31⟩⟩) rfl
    · refine z_bipush C (z_d dtX7_far_0 10 rfl) zb_m2 ?_
      exact ret _ _ _ _ (z_d dtX7_far_0 11 rfl) (⟨σ, rfl, Or.inl ⟨by omega, rfl, rfl⟩⟩) rfl

set_option maxRecDepth 100000 in
set_option maxHeartbeats 4000000 in
theorem k_X8_far {l : Launch} {D : va_G} {t : Nat → ClassId} {ad : Nat → Nat} {σ : zMem} {a b : Int} (ok : okM σ) (ha : -2147483648 ≤ a ∧ a < 2147483648) (hb : -2147483648 ≤ b ∧ b < 2147483648) : z_Ci l D t yX8_far cX8_far 6 .int 3 67 0 0 [.ref (ad 0), .int (zI a), .int (zI b)] (wM ad t σ) (fun r w => ∃ σ', w = wM ad t σ' ∧ ((¬ ((0 ≤ a ∧ a < zN σ) ∧ (0 ≤ b ∧ b < zN σ)) ∧ r = -2 ∧ σ' = σ) ∨ (((0 ≤ a ∧ a < zN σ) ∧ (0 ≤ b ∧ b < zN σ)) ∧ zE σ' σ [61] ∧ zFr (zEy σ) a b r))) := by
  refine z_Ci_of (by decide +kernel) [some (.ref (ad 0)), some (.int (zI a)), some (.int (zI b)), none, none, none] rfl rfl (Nat.le_of_ble_eq_true rfl) fun K hl hD ht hR hnm C ret => ?_
  subst hl; subst hD; subst ht
  have ok2 := ok
  obtain ⟨⟨hw, h60, hs, h4, h5, h6, h7⟩, hmp, ⟨h9, hsum⟩, oW1, ⟨hle, hgi, hga⟩, oT1, ⟨h16, h17, h18, hit⟩⟩ := ok2
  have hN := zHw_N hw
  have hW := hw; unfold zHw at hW
  have hwh := zHw_wh hw
  refine z_aload_n C (z_d dtX8_far_0 0 rfl) rfl ?_
  refine z_iload_n C (z_d dtX8_far_0 1 rfl) rfl ?_
  refine z_callV C (z_d dtX8_far_0 2 rfl) (k_X8_isCell  (by first | assumption | omega) (by first | assumption | omega) (by first | assumption | omega)) cal_X8_isCell gw_10_20 rfl 0 8 rfl rfl rfl rfl hR ⟨rfl, rfl, rfl, rfl⟩ rfl (fun r_2 w_2 h_2 => ?_)
  obtain ⟨rfl, h_2⟩ := h_2
  refine z_if_eq (tgt := 16) C (z_d dtX8_far_0 3 rfl) (by decide) (by omega) (fun h_5 => ?_) (fun h_5 => ?_)
  · refine z_bipush C (z_d dtX8_far_0 8 rfl) zb_m2 ?_
    exact ret _ _ _ _ (z_d dtX8_far_0 9 rfl) (⟨σ, rfl, Or.inl ⟨by omega, rfl, rfl⟩⟩) rfl
  · refine z_aload_n C (z_d dtX8_far_0 4 rfl) rfl ?_
    refine z_iload_n C (z_d dtX8_far_0 5 rfl) rfl ?_
    refine z_callV C (z_d dtX8_far_0 6 rfl) (k_X8_isCell  (by first | assumption | omega) (by first | assumption | omega) (by first | assumption | omega)) cal_X8_isCell gw_10_20 rfl 0 8 rfl rfl rfl rfl hR ⟨rfl, rfl, rfl, rfl⟩ rfl (fun r_10 w_10 h_10 => ?_)
    obtain ⟨rfl, h_10⟩ := h_10
    refine z_if_ne (tgt := 19) C (z_d dtX8_far_0 7 rfl) (by decide) (by omega) (fun h_13 => ?_) (fun h_13 => ?_)
    · refine z_iconst C (z_d dtX8_far_0 10 rfl) ?_
      refine z_istore_n3 C (z_d dtX8_far_0 11 rfl) rfl ?_
      have lp_21 : ∀ (N_21 : Nat) (c : Int) (μ : zMem), (0 ≤ c ∧ c ≤ zN σ) → (zE μ σ [61]) → (∀ j, 0 ≤ j → j < c → μ 61 j = if j = a then 0 else -1) → (zN σ - c).toNat < N_21 → Gd K 0 0 21 [some (.ref (ad 0)), some (.int (zI a)), some (.int (zI b)), some (.int (zI c)), none, none] [] (wM ad (z_t K) μ) := by
        intro N_21
        induction N_21 with
        | zero => intro c μ hc hE hm hm_21; exact absurd hm_21 (Nat.not_lt_zero _)
        | succ N_21 ih_21 =>
          intro c μ hc hE hm hm_21
          have e60 := hE 60 (by decide)
          refine z_iload_n C (z_d dtX8_far_0 12 rfl) rfl ?_
          refine z_aload_n C (z_d dtX8_far_0 13 rfl) rfl ?_
          refine gf_X8_83 C (z_d dtX8_far_0 14 rfl) ?_
          try simp (decide := true) only [zS_s, zS_o, zC, e60]
          refine z_icmp_ge (tgt := 51) C (z_d dtX8_far_0 15 rfl) (by decide) (by omega) (fun h_26 => ?_) (fun h_26 => ?_)
          · refine z_iconst C (z_d dtX8_far_0 28 rfl) ?_
            refine z_istore_n3 C (z_d dtX8_far_0 29 rfl) rfl ?_
            have lp_53 : ∀ (N_53 : Nat) (n : Nat) (nn : Int) (ν : zMem), (nn = n ∧ (n : Int) ≤ zN σ) → (zE ν σ [61]) → (zLq (zN σ) (zEy σ) a (ν 61) n) → (zN σ - n).toNat < N_53 → Gd K 0 0 53 [some (.ref (ad 0)), some (.int (zI a)), some (.int (zI b)), some (.int (zI nn)), none, none] [] (wM ad (z_t K) ν) := by
              intro N_53
              induction N_53 with
              | zero => intro n nn ν hn hE2 hL hm_53; exact absurd hm_53 (Nat.not_lt_zero _)
              | succ N_53 ih_53 =>
                intro n nn ν hn hE2 hL hm_53
                obtain ⟨rfl, hn⟩ := hn
                have e60 := hE2 60 (by decide)
                refine z_iload_n C (z_d dtX8_far_0 30 rfl) rfl ?_
                refine z_aload_n C (z_d dtX8_far_0 31 rfl) rfl ?_
                refine gf_X8_83 C (z_d dtX8_far_0 32 rfl) ?_
                try simp (decide := true) only [zS_s, zS_o, zC, e60]
                refine z_icmp_ge (tgt := 156) C (z_d dtX8_far_0 33 rfl) (by decide) (by omega) (fun h_58 => ?_) (fun h_58 => ?_)
                · refine z_aload_n C (z_d dtX8_far_2 1 rfl) rfl ?_
                  refine gf_X8_36 C (z_d dtX8_far_2 2 rfl) ?_
                  refine z_iload_n C (z_d dtX8_far_2 3 rfl) rfl ?_
                  refine al_M8 C (z_d dtX8_far_2 4 rfl) (by omega) ?_
                  try simp (decide := true) only [zS_s, zS_o, zC, e60]
                  exact ret _ _ _ _ (z_d dtX8_far_2 5 rfl) (⟨_, rfl, Or.inr ⟨by omega, hE2, zLq_f (zEy_c σ) (by omega) hL (by omega) (by omega)⟩⟩) rfl
                · refine z_iconst C (z_d dtX8_far_0 34 rfl) ?_
                  refine z_istore4 C (z_d dtX8_far_0 35 rfl) rfl ?_
                  have lp_64 : ∀ (N_64 : Nat) (c : Int) (κ : zMem), (0 ≤ c ∧ c ≤ zN σ) → (zE κ σ [61]) → (zLm2 (zN σ) (zEy σ) (ν 61) (κ 61) n c 0) → (zN σ - c).toNat < N_64 → Gd K 0 0 64 [some (.ref (ad 0)), some (.int (zI a)), some (.int (zI b)), some (.int (zI (n : Int))), some (.int (zI c)), none] [] (wM ad (z_t K) κ) := by
                    intro N_64
                    induction N_64 with
                    | zero => intro c κ hc2 hE3 hM hm_64; exact absurd hm_64 (Nat.not_lt_zero _)
                    | succ N_64 ih_64 =>
                      intro c κ hc2 hE3 hM hm_64
                      have e60 := hE3 60 (by decide)
                      refine z_iload C (z_d dtX8_far_0 36 rfl) rfl ?_
                      refine z_aload_n C (z_d dtX8_far_0 37 rfl) rfl ?_
                      refine gf_X8_83 C (z_d dtX8_far_0 38 rfl) ?_
                      try simp (decide := true) only [zS_s, zS_o, zC, e60]
                      refine z_icmp_ge (tgt := 150) C (z_d dtX8_far_0 39 rfl) (by decide) (by omega) (fun h_70 => ?_) (fun h_70 => ?_)
                      · refine z_iinc3 C (z_d dtX8_far_1 39 rfl) rfl ?_
                        refine z_goto (tgt := 53) C (z_d dtX8_far_2 0 rfl) (by decide) ?_
                        refine z_drop4 ?_
                        exact ih_53 (n + 1) _ _ (by omega) hE3 (zLq_s (zEy_c σ) hL hM (by omega)) (by omega)
                      · refine z_iconst C (z_d dtX8_far_1 0 rfl) ?_
                        refine z_istore5 C (z_d dtX8_far_1 1 rfl) rfl ?_
                        have lp_76 : ∀ (N_76 : Nat) (d : Int) (ξ : zMem), (0 ≤ d ∧ d ≤ zN σ) → (zE ξ σ [61]) → (zLm2 (zN σ) (zEy σ) (ν 61) (ξ 61) n c d) → (zN σ - d).toNat < N_76 → Gd K 0 0 76 [some (.ref (ad 0)), some (.int (zI a)), some (.int (zI b)), some (.int (zI (n : Int))), some (.int (zI c)), some (.int (zI d))] [] (wM ad (z_t K) ξ) := by
                          intro N_76
                          induction N_76 with
                          | zero => intro d ξ hd hE4 hM4 hm_76; exact absurd hm_76 (Nat.not_lt_zero _)
                          | succ N_76 ih_76 =>
                            intro d ξ hd hE4 hM4 hm_76
                            have e60 := hE4 60 (by decide)
                            have okx := okM_E hE4 (by decide) ok
                            obtain ⟨⟨hwx, _, hsx, h4x, h5x, h6x, _⟩, _⟩ := okx
                            have eNx : zN ξ = zN σ := zN_E hE4 (by decide) (by decide) (by decide)
                            have eYx := zLy_E hE4 (by decide) (by decide) (by decide) (by decide) (by decide) (by decide) c d
                            have hfb := zLm2_b hL hM4
                            have hfc := hfb c (by omega) (by omega)
                            have hfd := hfb d (by omega)
                            have hyb := zLy_b hs c d
                            have hcd := fun (p : d < zN σ) (q : ξ 61 c = n) (r : ξ 61 d = -1) => (zLm2_d hM4 (by omega)).2 d (by omega) p r (by omega)
                            refine z_iload C (z_d dtX8_far_1 2 rfl) rfl ?_
                            refine z_aload_n C (z_d dtX8_far_1 3 rfl) rfl ?_
                            refine gf_X8_83 C (z_d dtX8_far_1 4 rfl) ?_
                            try simp (decide := true) only [zS_s, zS_o, zC, e60]
                            refine z_icmp_ge (tgt := 144) C (z_d dtX8_far_1 5 rfl) (by decide) (by omega) (fun h_82 => ?_) (fun h_82 => ?_)
                            · refine z_iinc4 C (z_d dtX8_far_1 37 rfl) rfl ?_
                              refine z_goto (tgt := 64) C (z_d dtX8_far_1 38 rfl) (by decide) ?_
                              refine z_drop5 ?_
                              exact ih_64 _ _ (by omega) hE4 (zLm2_c (zEy_c σ) hM4 (by omega) (by omega)) (by omega)
                            · refine z_aload_n C (z_d dtX8_far_1 6 rfl) rfl ?_
                              refine gf_X8_36 C (z_d dtX8_far_1 7 rfl) ?_
                              refine z_iload C (z_d dtX8_far_1 8 rfl) rfl ?_
                              refine al_M8 C (z_d dtX8_far_1 9 rfl) (by omega) ?_
                              try simp (decide := true) only [zS_s, zS_o, zC, e60]
                              refine z_iload_n C (z_d dtX8_far_1 10 rfl) rfl ?_
                              refine z_icmp_ne (tgt := 144) C (z_d dtX8_far_1 11 rfl) (by decide) (by omega) (fun h_93 => ?_) (fun h_93 => ?_)
                              · refine z_iinc4 C (z_d dtX8_far_1 37 rfl) rfl ?_
                                refine z_goto (tgt := 64) C (z_d dtX8_far_1 38 rfl) (by decide) ?_
                                refine z_drop5 ?_
                                exact ih_64 _ _ (by omega) hE4 (zLm2_c (zEy_c σ) hM4 (by omega) (by omega)) (by omega)
                              · refine z_aload_n C (z_d dtX8_far_1 12 rfl) rfl ?_
                                refine gf_X8_36 C (z_d dtX8_far_1 13 rfl) ?_
                                refine z_iload C (z_d dtX8_far_1 14 rfl) rfl ?_
                                refine z_aload_n C (z_d dtX8_far_1 15 rfl) rfl ?_
                                refine gf_X8_36 C (z_d dtX8_far_1 16 rfl) ?_
                                refine z_iload C (z_d dtX8_far_1 17 rfl) rfl ?_
                                refine al_M8 C (z_d dtX8_far_1 18 rfl) (by omega) ?_
                                try simp (decide := true) only [zS_s, zS_o, zC, e60]
                                refine z_iconst C (z_d dtX8_far_1 19 rfl) ?_
                                refine z_icmp_ne (tgt := 130) C (z_d dtX8_far_1 20 rfl) (by decide) (by omega) (fun h_110 => ?_) (fun h_110 => ?_)
                                · refine z_aload_n C (z_d dtX8_far_1 30 rfl) rfl ?_
                                  refine gf_X8_36 C (z_d dtX8_far_1 31 rfl) ?_
                                  refine z_iload C (z_d dtX8_far_1 32 rfl) rfl ?_
                                  refine al_M8 C (z_d dtX8_far_1 33 rfl) (by omega) ?_
                                  try simp (decide := true) only [zS_s, zS_o, zC, e60]
                                  refine as_M8 C (z_d dtX8_far_1 34 rfl) (by omega) ?_
                                  refine z_iinc5 C (z_d dtX8_far_1 35 rfl) rfl ?_
                                  refine z_goto (tgt := 76) C (z_d dtX8_far_1 36 rfl) (by decide) ?_
                                  exact ih_76 _ _ (by omega) (zE_set hE4 (by decide)) (by
                                          rw [zS_s]
                                          refine zLm2_s hM4 (by omega) (by omega) (by omega) ?_
                                          first
                                            | exact Or.inl ⟨by omega, ⟨by omega, fun q => hcd (by omega) (by omega) (by omega) q.symm, by omega⟩, rfl⟩
                                            | exact Or.inr ⟨Or.inl (by omega), rfl⟩
                                            | exact Or.inr ⟨Or.inr (fun q => by have := q.2.2; omega), rfl⟩) (by omega)
                                · refine z_aload_n C (z_d dtX8_far_1 21 rfl) rfl ?_
                                  refine z_iload C (z_d dtX8_far_1 22 rfl) rfl ?_
                                  refine z_iload C (z_d dtX8_far_1 23 rfl) rfl ?_
                                  refine z_callV C (z_d dtX8_far_1 24 rfl) (k_X8_likely  hwx (by omega) (by omega) h4x h5x h6x hsx) cal_X8_likely gw_13_20 rfl 0 8 rfl rfl rfl rfl hR ⟨rfl, rfl, rfl, rfl⟩ rfl (fun r_118 w_118 h_118 => ?_)
                                  obtain ⟨rfl, rfl⟩ := h_118
                                  rw [eYx]
                                  refine z_if_le (tgt := 130) C (z_d dtX8_far_1 25 rfl) (by decide) (by omega) (fun h_121 => ?_) (fun h_121 => ?_)
                                  · refine z_aload_n C (z_d dtX8_far_1 30 rfl) rfl ?_
                                    refine gf_X8_36 C (z_d dtX8_far_1 31 rfl) ?_
                                    refine z_iload C (z_d dtX8_far_1 32 rfl) rfl ?_
                                    refine al_M8 C (z_d dtX8_far_1 33 rfl) (by omega) ?_
                                    try simp (decide := true) only [zS_s, zS_o, zC, e60]
                                    refine as_M8 C (z_d dtX8_far_1 34 rfl) (by omega) ?_
                                    refine z_iinc5 C (z_d dtX8_far_1 35 rfl) rfl ?_
                                    refine z_goto (tgt := 76) C (z_d dtX8_far_1 36 rfl) (by decide) ?_
                                    exact ih_76 _ _ (by omega) (zE_set hE4 (by decide)) (by
                                            rw [zS_s]
                                            refine zLm2_s hM4 (by omega) (by omega) (by omega) ?_
                                            first
                                              | exact Or.inl ⟨by omega, ⟨by omega, fun q => hcd (by omega) (by omega) (by omega) q.symm, by omega⟩, rfl⟩
                                              | exact Or.inr ⟨Or.inl (by omega), rfl⟩
                                              | exact Or.inr ⟨Or.inr (fun q => by have := q.2.2; omega), rfl⟩) (by omega)
                                  · refine z_iload_n C (z_d dtX8_far_1 26 rfl) rfl ?_
                                    refine z_iconst C (z_d dtX8_far_1 27 rfl) ?_
                                    refine z_iadd C (z_d dtX8_far_1 28 rfl) ?_
                                    refine z_goto (tgt := 137) C (z_d dtX8_far_1 29 rfl) (by decide) ?_
                                    refine as_M8 C (z_d dtX8_far_1 34 rfl) (by omega) ?_
                                    refine z_iinc5 C (z_d dtX8_far_1 35 rfl) rfl ?_
                                    refine z_goto (tgt := 76) C (z_d dtX8_far_1 36 rfl) (by decide) ?_
                                    exact ih_76 _ _ (by omega) (zE_set hE4 (by decide)) (by
                                            rw [zS_s]
                                            refine zLm2_s hM4 (by omega) (by omega) (by omega) ?_
                                            first
                                              | exact Or.inl ⟨by omega, ⟨by omega, fun q => hcd (by omega) (by omega) (by omega) q.symm, by omega⟩, rfl⟩
                                              | exact Or.inr ⟨Or.inl (by omega), rfl⟩
                                              | exact Or.inr ⟨Or.inr (fun q => by have := q.2.2; omega), rfl⟩) (by omega)
                        exact lp_76 _ _ _ (by omega) hE3 hM (Nat.lt_succ_self _)
                  exact lp_64 _ _ _ (by omega) hE2 (zLm2_0 _ _ _ _) (Nat.lt_succ_self _)
            exact lp_53 _ 0 _ _ (by omega) hE (zLq_0 (by omega) (fun j p q => hm j p (by omega))) (Nat.lt_succ_self _)
          · refine z_aload_n C (z_d dtX8_far_0 16 rfl) rfl ?_
            refine gf_X8_36 C (z_d dtX8_far_0 17 rfl) ?_
            refine z_iload_n C (z_d dtX8_far_0 18 rfl) rfl ?_
            refine z_iload_n C (z_d dtX8_far_0 19 rfl) rfl ?_
            refine z_iload_n C (z_d dtX8_far_0 20 rfl) rfl ?_
            refine z_icmp_ne (tgt := 43) C (z_d dtX8_far_0 21 rfl) (by decide) (by omega) (fun h_36 => ?_) (fun h_36 => ?_)
            · refine z_iconst C (z_d dtX8_far_0 24 rfl) ?_
              refine as_M8 C (z_d dtX8_far_0 25 rfl) (by omega) ?_
              refine z_iinc3 C (z_d dtX8_far_0 26 rfl) rfl ?_
              refine z_goto (tgt := 21) C (z_d dtX8_far_0 27 rfl) (by decide) ?_
              exact ih_21 _ _ (by omega) (zE_set hE (by decide)) (fun j p q => by
                      rw [zS_s]
                      by_cases e : j = c
                      · subst e; rw [zU_s]; first | rw [if_pos (by omega)] | rw [if_neg (by omega)]
                      · rw [zU_n e]; exact hm j p (by omega)) (by omega)
            · refine z_iconst C (z_d dtX8_far_0 22 rfl) ?_
              refine z_goto (tgt := 44) C (z_d dtX8_far_0 23 rfl) (by decide) ?_
              refine as_M8 C (z_d dtX8_far_0 25 rfl) (by omega) ?_
              refine z_iinc3 C (z_d dtX8_far_0 26 rfl) rfl ?_
              refine z_goto (tgt := 21) C (z_d dtX8_far_0 27 rfl) (by decide) ?_
              exact ih_21 _ _ (by omega) (zE_set hE (by decide)) (fun j p q => by
                      rw [zS_s]
                      by_cases e : j = c
                      · subst e; rw [zU_s]; first | rw [if_pos (by omega)] | rw [if_neg (by omega)]
                      · rw [zU_n e]; exact hm j p (by omega)) (by omega)
      exact lp_21 _ _ _ (by omega) zE_rf (fun j p q => absurd q (by omega)) (Nat.lt_succ_self _)
    · refine z_bipush C (z_d dtX8_far_0 8 rfl) zb_m2 ?_
      exact ret _ _ _ _ (z_d dtX8_far_0 9 rfl) (⟨σ, rfl, Or.inl ⟨by omega, rfl, rfl⟩⟩) rfl
