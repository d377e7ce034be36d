/-! Arrays.fill; the sheets' items -/
theorem z_iastG {K : z_KT} {cc : ByteArray} {own : String} {nL cells slots pc : Nat} {L : List (Option Value)} {rest : List Value} {ws : va_W} (C : Fc K cc own nL) {a n : Nat} {f : Nat → Int32} {i : Int} {x : Int32} (d : decode cc pc = .ok (.iastore, 1)) (q0 : Nat) (ha : ws[q0]? = some (a, .inl (z_t K 0, n, .inl f))) (hi : 0 ≤ i ∧ i < n) (hn : n < 2147483648) (k : Gd K cells slots (pc + 1) L rest (ws.set q0 (a, .inl (z_t K 0, n, .inl (upd f i.toNat x))))) : Gd K cells slots pc L (.int x :: .int (zI i) :: .ref a :: rest) ws := by
  obtain ⟨p, l, e, R, s, m, args, below, meth, c, A, H0, Q, D, t⟩ := K
  obtain ⟨hx, hb, hml, ho, hts, hK, hA⟩ := C
  intro H locs ls hP hD hS hl
  refine va_iast hx hb hK hP hD hS q0 0 ha rfl (zI_in hi.1 hi.2 hn) d fun H1 locs1 hP hD hS => ?_
  rw [zI_clamp hi.1 (by omega)] at hP hD
  exact k H1 locs1 ls hP hD hS hl
theorem z_lastG {K : z_KT} {cc : ByteArray} {own : String} {nL cells slots pc : Nat} {L : List (Option Value)} {rest : List Value} {ws : va_W} (C : Fc K cc own nL) {a n : Nat} {f : Nat → Int64} {i : Int} {x : Int64} (d : decode cc pc = .ok (.lastore, 1)) (q0 : Nat) (ha : ws[q0]? = some (a, .inl (z_t K 1, n, .inr (.inl f)))) (hi : 0 ≤ i ∧ i < n) (hn : n < 2147483648) (k : Gd K cells slots (pc + 1) L rest (ws.set q0 (a, .inl (z_t K 1, n, .inr (.inl (vp_updL f i.toNat x)))))) : Gd K cells slots pc L (.long x :: .int (zI i) :: .ref a :: rest) ws := by
  obtain ⟨p, l, e, R, s, m, args, below, meth, c, A, H0, Q, D, t⟩ := K
  obtain ⟨hx, hb, hml, ho, hts, hK, hA⟩ := C
  intro H locs ls hP hD hS hl
  refine va_last hx hb hK hP hD hS q0 1 ha rfl (zI_in hi.1 hi.2 hn) d fun H1 locs1 hP hD hS => ?_
  rw [zI_clamp hi.1 (by omega)] at hP hD
  exact k H1 locs1 ls hP hD hS hl
set_option maxRecDepth 100000 in
set_option maxHeartbeats 4000000 in
theorem k_fillI {l : Launch} {D : va_G} {t : Nat → ClassId} {ws : va_W} {a n : Nat} {f : Nat → Int32} {v : Int} (q0 : Nat) (ha : ws[q0]? = some (a, .inl (t 0, n, .inl f))) (hn : n < 2147483648) : z_Cv l D t yJ7_fill_53178 cJ7_fill_53178 4 0 0 0 0 [.ref a, .int (zI v)] ws (fun w => w = ws.set q0 (a, .inl (t 0, n, .inl (fun _ : Nat => zI v)))) := by
  refine z_Cv_of (by decide +kernel) [some (.ref a), some (.int (zI v)), none, none] rfl rfl (Nat.le_of_ble_eq_true rfl) fun K hl hD ht hR hn2 C ret => ?_
  subst hl; subst hD; subst ht
  have hq : q0 < ws.length := (List.getElem?_eq_some_iff.mp ha).1
  refine z_iconst C (z_d dtJ7_fill_53178_0 0 rfl) ?_
  refine z_istore_n2 C (z_d dtJ7_fill_53178_0 1 rfl) rfl ?_
  refine z_aload_n C (z_d dtJ7_fill_53178_0 2 rfl) rfl ?_
  refine z_alen (tx := 0) (ty := .int) C (z_d dtJ7_fill_53178_0 3 rfl) q0 ha rfl ?_
  refine z_istore_n3 C (z_d dtJ7_fill_53178_0 4 rfl) rfl ?_
  have lp : ∀ (N i : Nat) (G : Nat → Int32), i ≤ n → (∀ j, j < i → G j = zI v) → n - i < N → Gd K 0 0 5 [some (.ref a), some (.int (zI v)), some (.int (zI i)), some (.int (zI n))] [] (ws.set q0 (a, .inl (z_t K 0, n, .inl G))) := by
    intro N
    induction N with
    | zero => intro i G h1 h2 h3; exact absurd h3 (Nat.not_lt_zero _)
    | succ N ih =>
      intro i G h1 h2 h3
      refine z_iload_n C (z_d dtJ7_fill_53178_0 5 rfl) rfl ?_
      refine z_iload_n C (z_d dtJ7_fill_53178_0 6 rfl) rfl ?_
      refine z_icmp_ge (tgt := 20) C (z_d dtJ7_fill_53178_0 7 rfl) (by decide) (by omega) (fun h => ?_) (fun h => ?_)
      · refine z_arr (f' := fun _ => zI v) q0 (List.getElem?_set_self hq) (fun j hj => h2 j (by omega)) ?_
        exact ret _ _ _ (z_d dtJ7_fill_53178_0 14 rfl) (by rw [List.set_set])
      · refine z_aload_n C (z_d dtJ7_fill_53178_0 8 rfl) rfl ?_
        refine z_iload_n C (z_d dtJ7_fill_53178_0 9 rfl) rfl ?_
        refine z_iload_n C (z_d dtJ7_fill_53178_0 10 rfl) rfl ?_
        refine z_iastG C (z_d dtJ7_fill_53178_0 11 rfl) q0 (List.getElem?_set_self hq) (by omega) hn ?_
        refine z_iinc2 C (z_d dtJ7_fill_53178_0 12 rfl) rfl ?_
        refine z_goto (tgt := 5) C (z_d dtJ7_fill_53178_0 13 rfl) (by decide) ?_
        rw [List.set_set]
        refine ih (i + 1) _ (by omega) (fun j hj => ?_) (by omega)
        show (if j = (i : Int).toNat then zI v else G j) = zI v
        by_cases e : j = (i : Int).toNat
        · rw [if_pos e]
        · rw [if_neg e]; exact h2 j (by omega)
  have h0 : ws = ws.set q0 (a, .inl (z_t K 0, n, .inl f)) := by
    obtain ⟨hh, ee⟩ := List.getElem?_eq_some_iff.mp ha
    rw [← ee]
    exact (List.set_getElem_self hh).symm
  rw [h0]
  refine lp _ 0 f (Nat.zero_le _) (fun j hj => absurd hj (Nat.not_lt_zero _)) (Nat.lt_succ_self _)
set_option maxRecDepth 100000 in
set_option maxHeartbeats 4000000 in
theorem k_fillL {l : Launch} {D : va_G} {t : Nat → ClassId} {ws : va_W} {a n : Nat} {f : Nat → Int64} {v : Int} (q0 : Nat) (ha : ws[q0]? = some (a, .inl (t 1, n, .inr (.inl f)))) (hn : n < 2147483648) : z_Cv l D t yJ7_fill_d0a16 cJ7_fill_d0a16 5 0 0 0 0 [.ref a, .long (zL v)] ws (fun w => w = ws.set q0 (a, .inl (t 1, n, .inr (.inl (fun _ : Nat => zL v))))) := by
  refine z_Cv_of (by decide +kernel) [some (.ref a), some (.long (zL v)), none, none, none] rfl rfl (Nat.le_of_ble_eq_true rfl) fun K hl hD ht hR hn2 C ret => ?_
  subst hl; subst hD; subst ht
  have hq : q0 < ws.length := (List.getElem?_eq_some_iff.mp ha).1
  refine z_iconst C (z_d dtJ7_fill_d0a16_0 0 rfl) ?_
  refine z_istore_n3 C (z_d dtJ7_fill_d0a16_0 1 rfl) rfl ?_
  refine z_aload_n C (z_d dtJ7_fill_d0a16_0 2 rfl) rfl ?_
  refine z_alen (tx := 1) (ty := .long) C (z_d dtJ7_fill_d0a16_0 3 rfl) q0 ha rfl ?_
  refine z_istore4 C (z_d dtJ7_fill_d0a16_0 4 rfl) rfl ?_
  have lp : ∀ (N i : Nat) (G : Nat → Int64), i ≤ n → (∀ j, j < i → G j = zL v) → n - i < N → Gd K 0 0 6 [some (.ref a), some (.long (zL v)), none, some (.int (zI i)), some (.int (zI n))] [] (ws.set q0 (a, .inl (z_t K 1, n, .inr (.inl G)))) := by
    intro N
    induction N with
    | zero => intro i G h1 h2 h3; exact absurd h3 (Nat.not_lt_zero _)
    | succ N ih =>
      intro i G h1 h2 h3
      refine z_iload_n C (z_d dtJ7_fill_d0a16_0 5 rfl) rfl ?_
      refine z_iload C (z_d dtJ7_fill_d0a16_0 6 rfl) rfl ?_
      refine z_icmp_ge (tgt := 22) C (z_d dtJ7_fill_d0a16_0 7 rfl) (by decide) (by omega) (fun h => ?_) (fun h => ?_)
      · refine z_arrL (f' := fun _ => zL v) q0 (List.getElem?_set_self hq) (fun j hj => h2 j (by omega)) ?_
        exact ret _ _ _ (z_d dtJ7_fill_d0a16_0 14 rfl) (by rw [List.set_set])
      · refine z_aload_n C (z_d dtJ7_fill_d0a16_0 8 rfl) rfl ?_
        refine z_iload_n C (z_d dtJ7_fill_d0a16_0 9 rfl) rfl ?_
        refine z_lload_n C (z_d dtJ7_fill_d0a16_0 10 rfl) rfl ?_
        refine z_lastG C (z_d dtJ7_fill_d0a16_0 11 rfl) q0 (List.getElem?_set_self hq) (by omega) hn ?_
        refine z_iinc3 C (z_d dtJ7_fill_d0a16_0 12 rfl) rfl ?_
        refine z_goto (tgt := 6) C (z_d dtJ7_fill_d0a16_0 13 rfl) (by decide) ?_
        rw [List.set_set]
        refine ih (i + 1) _ (by omega) (fun j hj => ?_) (by omega)
        show (if j = (i : Int).toNat then zL v else G j) = zL v
        by_cases e : j = (i : Int).toNat
        · rw [if_pos e]
        · rw [if_neg e]; exact h2 j (by omega)
  have h0 : ws = ws.set q0 (a, .inl (z_t K 1, n, .inr (.inl f))) := by
    obtain ⟨hh, ee⟩ := List.getElem?_eq_some_iff.mp ha
    rw [← ee]
    exact (List.set_getElem_self hh).symm
  rw [h0]
  refine lp _ 0 f (Nat.zero_le _) (fun j hj => absurd hj (Nat.not_lt_zero _)) (Nat.lt_succ_self _)
theorem kf_X12 {l : Launch} {D : va_G} {t : Nat → ClassId} {ad : Nat → Nat} {σ : zMem} {v : Int} : z_Cv l D t yJ7_fill_53178 cJ7_fill_53178 4 0 0 0 0 [.ref (ad 12), .int (zI v)] (wX ad t σ) (fun w => w = wX ad t (zS σ 34 (zC v))) := k_fillI (n := 72) 12 rfl (by decide)
theorem kf_X14 {l : Launch} {D : va_G} {t : Nat → ClassId} {ad : Nat → Nat} {σ : zMem} {v : Int} : z_Cv l D t yJ7_fill_53178 cJ7_fill_53178 4 0 0 0 0 [.ref (ad 14), .int (zI v)] (wX ad t σ) (fun w => w = wX ad t (zS σ 8 (zC v))) := k_fillI (n := 6336) 14 rfl (by decide)
theorem kf_X15 {l : Launch} {D : va_G} {t : Nat → ClassId} {ad : Nat → Nat} {σ : zMem} {v : Int} : z_Cv l D t yJ7_fill_53178 cJ7_fill_53178 4 0 0 0 0 [.ref (ad 15), .int (zI v)] (wX ad t σ) (fun w => w = wX ad t (zS σ 9 (zC v))) := k_fillI (n := 72) 15 rfl (by decide)
theorem kf_X16 {l : Launch} {D : va_G} {t : Nat → ClassId} {ad : Nat → Nat} {σ : zMem} {v : Int} : z_Cv l D t yJ7_fill_d0a16 cJ7_fill_d0a16 5 0 0 0 0 [.ref (ad 16), .long (zL v)] (wX ad t σ) (fun w => w = wX ad t (zS σ 37 (zC v))) := k_fillL (n := 72) 16 rfl (by decide)
theorem kf_X20 {l : Launch} {D : va_G} {t : Nat → ClassId} {ad : Nat → Nat} {σ : zMem} {v : Int} : z_Cv l D t yJ7_fill_53178 cJ7_fill_53178 4 0 0 0 0 [.ref (ad 20), .int (zI v)] (wX ad t σ) (fun w => w = wX ad t (zS σ 10 (zC v))) := k_fillI (n := 20) 20 rfl (by decide)
/-- one sheet's items change, the others' stay -/
theorem z_items {K : z_KT} {cells slots pc : Nat} {L : List (Option Value)} {st : List Value} {ad : Nat → Nat} {σ : zMem} {z : Int} (hz : 0 ≤ z ∧ z < 4) {f : Nat → Int32} (G : Int → Int) (h1 : ∀ j : Nat, j < 240 → f j = zI (G (240 * z + j))) (h2 : ∀ i, 0 ≤ i → (i < 240 * z ∨ 240 * z + 240 ≤ i) → G i = σ 20 i) (k : Gd K cells slots pc L st (wX ad (z_t K) (zS σ 20 G))) : Gd K cells slots pc L st ((wX ad (z_t K) σ).set (26 + z.toNat) (ad (26 + z.toNat), .inl (z_t K 0, 240, .inl f))) := by
  have key : ∀ (y : Int), 0 ≤ y ∧ y < 4 → ¬ y = z → ∀ j : Nat, j < 240 → zI (σ 20 (240 * y + j)) = zI (G (240 * y + j)) := fun y hy hne j hj => by
    rw [h2 (240 * y + j) (by omega) (by omega)]
  rcases (show z = 0 ∨ z = 1 ∨ z = 2 ∨ z = 3 by omega) with rfl | rfl | rfl | rfl
  · refine z_arr (f' := fun j : Nat => zI (G (240 * 0 + j))) 26 rfl h1 ?_
    refine z_arr (f' := fun j : Nat => zI (G (240 * 1 + j))) 27 rfl (key 1 (by omega) (by omega)) ?_
    refine z_arr (f' := fun j : Nat => zI (G (240 * 2 + j))) 28 rfl (key 2 (by omega) (by omega)) ?_
    refine z_arr (f' := fun j : Nat => zI (G (240 * 3 + j))) 29 rfl (key 3 (by omega) (by omega)) ?_
    exact k
  · refine z_arr (f' := fun j : Nat => zI (G (240 * 0 + j))) 26 rfl (key 0 (by omega) (by omega)) ?_
    refine z_arr (f' := fun j : Nat => zI (G (240 * 1 + j))) 27 rfl h1 ?_
    refine z_arr (f' := fun j : Nat => zI (G (240 * 2 + j))) 28 rfl (key 2 (by omega) (by omega)) ?_
    refine z_arr (f' := fun j : Nat => zI (G (240 * 3 + j))) 29 rfl (key 3 (by omega) (by omega)) ?_
    exact k
  · refine z_arr (f' := fun j : Nat => zI (G (240 * 0 + j))) 26 rfl (key 0 (by omega) (by omega)) ?_
    refine z_arr (f' := fun j : Nat => zI (G (240 * 1 + j))) 27 rfl (key 1 (by omega) (by omega)) ?_
    refine z_arr (f' := fun j : Nat => zI (G (240 * 2 + j))) 28 rfl h1 ?_
    refine z_arr (f' := fun j : Nat => zI (G (240 * 3 + j))) 29 rfl (key 3 (by omega) (by omega)) ?_
    exact k
  · refine z_arr (f' := fun j : Nat => zI (G (240 * 0 + j))) 26 rfl (key 0 (by omega) (by omega)) ?_
    refine z_arr (f' := fun j : Nat => zI (G (240 * 1 + j))) 27 rfl (key 1 (by omega) (by omega)) ?_
    refine z_arr (f' := fun j : Nat => zI (G (240 * 2 + j))) 28 rfl (key 2 (by omega) (by omega)) ?_
    refine z_arr (f' := fun j : Nat => zI (G (240 * 3 + j))) 29 rfl h1 ?_
    exact k
theorem as_Xsi {K : z_KT} {cc : ByteArray} {own : String} {nL cells slots pc : Nat} {L : List (Option Value)} {rest : List Value} {ad : Nat → Nat} {σ : zMem} (C : Fc K cc own nL) {z i x : Int} (hz : 0 ≤ z ∧ z < 4) (d : decode cc pc = .ok (.iastore, 1)) (hi : 0 ≤ i ∧ i < 240) (k : Gd K cells slots (pc + 1) L rest (wX ad (z_t K) (zS σ 20 (zU (σ 20) (240 * z + i) x)))) : Gd K cells slots pc L (.int (zI x) :: .int (zI i) :: .ref (ad (26 + z.toNat)) :: rest) (wX ad (z_t K) σ) := by
  refine z_iast C (F := fun j => σ 20 (240 * z + j)) d (26 + z.toNat) (wX_si hz) hi (by decide) ?_
  refine z_items hz (zU (σ 20) (240 * z + i) x) (fun j hj => ?_) (fun j h0 hj => zU_n (by omega)) k
  show zI (if (j : Int) = i then x else σ 20 (240 * z + j)) = zI (if 240 * z + (j : Int) = 240 * z + i then x else σ 20 (240 * z + j))
  by_cases e : (j : Int) = i
  · rw [if_pos e, if_pos (by omega)]
  · rw [if_neg e, if_neg (by omega)]
