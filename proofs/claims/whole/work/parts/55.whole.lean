/-! THE START, and the claim -/
theorem zM0_F {k : Nat} (h : ¬ k = 0 ∧ ¬ k = 1 ∧ ¬ k = 2) : zM0 k = zF0 k := by
  unfold zM0 zF0
  have a : ∀ j : Nat, ¬ k = j → Nat.beq k j = false := fun j q => by
    cases e : Nat.beq k j
    · rfl
    · exact absurd (Nat.eq_of_beq_eq_true e) q
  rw [a 0 h.1, a 1 h.2.1, a 2 h.2.2]
  rfl
theorem jn_0 {σ' τ' : zMem} (a : zE σ' zF0 [0, 1, 2, 4, 5, 6, 8, 9, 10, 12, 31, 32, 33, 36, 37, 38]) (b0 : σ' 0 = zC 1) (b1 : σ' 1 = zC 4) (b2 : σ' 2 = zC 4) (b4 : σ' 4 = zC 0) (b5 : σ' 5 = zC 0) (b6 : σ' 6 = zC 0) (b8 : σ' 8 = zC 0) (b10 : σ' 10 = zC (-1)) (b12 : σ' 12 = zC 0) (b31 : σ' 31 = zC 0) (b32 : σ' 32 = zC 0) (b36 : σ' 36 = zC 16) (bt : zTb σ') (b9 : ∀ c, 0 ≤ c → c < 16 → σ' 9 c = zWh (zC 1) 16 c) (c : zE τ' zM0 [0, 1, 2, 4, 5, 6, 8, 9, 10, 12, 60, 62, 63]) (d0 : τ' 0 = zC 1) (d1 : τ' 1 = zC 4) (d2 : τ' 2 = zC 4) (d4 : τ' 4 = zC 0) (d5 : τ' 5 = zC 0) (d6 : τ' 6 = zC 0) (d8 : τ' 8 = zC 0) (d10 : τ' 10 = zC (-1)) (d12 : τ' 12 = zC 0) (d60 : τ' 60 = zC 16) (d9 : ∀ c, 0 ≤ c → c < 16 → τ' 9 c = zWh (zC 1) 16 c) : zJn σ' τ' := by
  have eN : zN σ' = 16 := zN_lay b0 b1 b2
  refine ⟨okX_lay (σ := zF0) (f := 1) (x := 4) (y := 4) (by decide) a b0 b1 b2 b4 b5 b6 b8 b10 b12 b31 b32 b36 bt b9 (by decide) ⟨fun i => Or.inl rfl, rfl⟩ (by decide) (by decide) (by unfold oT; decide) ⟨fun i => Or.inl rfl, fun i => ⟨Int.le_refl _, by show (0 : Int) ≤ 2; decide⟩, fun i => ⟨Int.le_refl _, by show (0 : Int) ≤ 240; decide⟩, fun i => ⟨by show (-2147483648 : Int) ≤ 0; decide, by show (0 : Int) < 2147483648; decide⟩, fun i => rfl⟩, fun i => ?_, fun k hk => ?_, fun j h0 h1 => ?_, ?_⟩
  · rw [a 51 (by decide), a 49 (by decide)]
    show (-1 : Int) < 0
    decide
  · by_cases g : k ∈ [0, 1, 2, 4, 5, 6, 8, 9, 10, 12, 31, 32, 33, 36, 37, 38] ∨ k ∈ [0, 1, 2, 4, 5, 6, 8, 9, 10, 12, 60, 62, 63]
    · exact hc_lay g hk (d0.trans b0.symm) (d1.trans b1.symm) (d2.trans b2.symm) (d4.trans b4.symm) (d5.trans b5.symm) (d6.trans b6.symm) (d8.trans b8.symm) (d10.trans b10.symm) (d12.trans b12.symm)
    · rw [c k (fun q => g (Or.inr q)), a k (fun q => g (Or.inl q))]
      refine zM0_F ⟨fun q => g (Or.inl ?_), fun q => g (Or.inl ?_), fun q => g (Or.inl ?_)⟩ <;> (rw [q]; decide)
  · rw [eN] at h1
    rw [b9 j h0 h1, d9 j h0 h1]
  · rw [d60, eN]
    rfl
set_option maxRecDepth 100000 in
set_option maxHeartbeats 4000000 in
theorem lw_main {K : z_KT} {b L : Nat} {xs : Nat → Int} (C : Fc K cL_law RL 4) (hR : z_Rm K = z_rm 10 402 600000 7302250) (hno : z_NK K) (S : z_Sc K b L xs) (hL : L ≤ 3072) (fin : ∀ (ad ae : Nat → Nat) (c s : Nat) (i : Int) (w : va_W), c ≤ 600000 → s ≤ 7302250 → Gd K c s 1307 [some (.ref b), some (.ref (ad 0)), some (.ref (ae 0)), some (.int (zI i))] [] w) : Gd K 0 0 0 [some (.ref b), none, none, none] [] [] := by
  refine z_new C 7 (z_d dtL_law_0 0 rfl) inlX7 tyX7 tyX7_ok gw_1_0 gw_1_1 gw_1_2 rfl (fs := [.null, .null, .null, .null, .null, .null, .null, .int (zI 0), .int (zI 0)]) (fun j hj => by rcases (show j = 0 ∨ j = 1 ∨ j = 2 ∨ j = 3 ∨ j = 4 ∨ j = 5 ∨ j = 6 ∨ j = 7 ∨ j = 8 by omega) with rfl | rfl | rfl | rfl | rfl | rfl | rfl | rfl | rfl <;> rfl) hR ⟨rfl, rfl⟩ (fun q => ?_)
  refine z_dup C (z_d dtL_law_0 1 rfl) rfl ?_
  refine z_callIO (W := []) C hno (z_d dtL_law_0 2 rfl) (k_X7_init (a := q)) cal_X7_init gw_1_6 rfl rfl hR ⟨rfl, rfl, rfl, rfl⟩ rfl (fun w h => ?_)
  obtain ⟨ad, σ', rfl, ha, a1, b0, b1, b2, b4, b5, b6, b8, b10, b12, b31, b32, b36, bt, b9⟩ := h
  subst ha
  refine z_ws (ws' := wX ad (z_t K) σ') rfl ?_
  refine z_astore_n1 C (z_d dtL_law_0 3 rfl) rfl ?_
  refine z_new C 8 (z_d dtL_law_0 4 rfl) inlX8 tyX8 tyX8_ok gw_1_3 gw_1_4 gw_1_5 rfl (fs := [.int (zI 0), .int (zI 0), .int (zI 0), .int (zI 0), .null, .null, .null, .int (zI 0), .null, .null, .null, .null, .null, .null, .null, .null, .int (zI 0), .null, .null, .null, .int (zI 0), .int (zI 0), .null, .null, .null, .null, .null, .null, .int (zI 0)]) (fun j hj => by rcases (show j = 0 ∨ j = 1 ∨ j = 2 ∨ j = 3 ∨ j = 4 ∨ j = 5 ∨ j = 6 ∨ j = 7 ∨ j = 8 ∨ j = 9 ∨ j = 10 ∨ j = 11 ∨ j = 12 ∨ j = 13 ∨ j = 14 ∨ j = 15 ∨ j = 16 ∨ j = 17 ∨ j = 18 ∨ j = 19 ∨ j = 20 ∨ j = 21 ∨ j = 22 ∨ j = 23 ∨ j = 24 ∨ j = 25 ∨ j = 26 ∨ j = 27 ∨ j = 28 by omega) with rfl | rfl | rfl | rfl | rfl | rfl | rfl | rfl | rfl | rfl | rfl | rfl | rfl | rfl | rfl | rfl | rfl | rfl | rfl | rfl | rfl | rfl | rfl | rfl | rfl | rfl | rfl | rfl | rfl <;> rfl) hR ⟨rfl, rfl⟩ (fun q2 => ?_)
  refine z_dup C (z_d dtL_law_0 5 rfl) rfl ?_
  refine z_callIO (W := wX ad (z_t K) σ') C hno (z_d dtL_law_0 6 rfl) (k_X8_init (a := q2)) cal_X8_init gw_7_8 rfl rfl hR ⟨rfl, rfl, rfl, rfl⟩ rfl (fun w h => ?_)
  obtain ⟨ae, τ', rfl, ha, a2, d0, d1, d2, d4, d5, d6, d8, d10, d12, d60, d9⟩ := h
  subst ha
  refine z_astore_n2 C (z_d dtL_law_0 7 rfl) rfl ?_
  refine z_iconst C (z_d dtL_law_0 8 rfl) ?_
  refine z_istore_n3 C (z_d dtL_law_0 9 rfl) rfl ?_
  refine z_sw ?_
  exact lw_loop C hR S hL (fin ad ae) (L + 1) 0 σ' τ' _ _ (by omega) (by omega) (by omega) (by omega) (jn_0 a1 b0 b1 b2 b4 b5 b6 b8 b10 b12 b31 b32 b36 bt b9 a2 d0 d1 d2 d4 d5 d6 d8 d10 d12 d60 d9)
theorem z_arK {s : State} {args : Array Value} {ty : FieldType} (h : (Cond.arrayClass ty).before args s = true) : ∃ cA, ArrOfT s cA ty ∧ s.vm.findClass ("[" ++ ty.toString) = some cA := by
  obtain ⟨cA, kA, comp, h1, h2, h3⟩ := Cond.arrayClass_spec h
  exact ⟨cA, fun n z => ⟨(fun k h => by cases h), kA, h2, comp, h3⟩, h1⟩
theorem z_arO {s : State} {C : String} (h : va_AO C s) : ∃ cA, ArrOfT s cA (.object C) ∧ va_RA s cA (.object C) := by
  obtain ⟨comp, c, k, h1, h2, h3, h4, h5⟩ := Cond.arrayOver_spec h
  exact ⟨c, fun n z => ⟨(fun k h => by cases h), k, h3, comp, h4⟩, k, comp, h3, h4, h1, h5⟩
/-! THE CLAIM OUT OF ONE WALK OF THE LAW'S BODY. Your part is whole_start (and what it stands on); all else here is the same for every law, but numbers. -/
def R_law : String := "InsidePlacesLaw"
def lw_P (b : Addr) (xs : List Int32) (args : Array Value) (s : State) : Prop := args = #[.ref b] ∧ s.IntsAt b xs ∧ xs.length ≤ 3072 ∧ (Jvm.Cond.and given_1 narrow_1).before args s = true
def lw_Q (_ : Array Value) (s : State) (o : Outcome) (t : State) : Prop := o = .returned (some (.int 1)) ∧ Framed s o t [] 600000 7302250
def lw_Z (below : List Frame) (a : Array Value) (s : State) : State → Prop := fun t => ∃ o, t.status = .running ∧ Ended t below o ∧ lw_Q a s o t
/-- the law's own end, with 1 on the stack, nothing written that was there before, its room as the claim has it -/
theorem lw_ret {p : Program} {l : Launch} {e : Env} {s : State} {m : MethodId} {below : List Frame} {meth : Method} {c : Code} {b : Nat} (hx : p.tables.exec = Jvm.exec) (hb : c.code = code) (hr : meth.sig.returnType = ret) (hlocks : meth.locks = false) {pc : Nat} {H : Heap} {ls : Array Slot} (hdg : decode code pc = .ok (.ireturn, 1)) : W p l e room_1 s m #[Value.ref b] below meth c H [] 600000 7302250 (lw_Z below #[Value.ref b] s) (F0 m pc ls [.int 1]) := by
  intro T hT X
  obtain ⟨fs, hret, hrun, hended, hW, hframe⟩ := X.leave (v := some (.int 1)) (hlocks := hlocks) (fun h => by rw [hr] at h; cases h)
  have hmeth' : T.vm.method? m = some meth := X.method'
  refine ⟨T.setFrames fs, ?_, .returned (some (.int 1)), hrun, hended, rfl, ⟨_, rfl⟩, hW, hframe⟩
  jvm_step X.here [X.here.top, hx, hb, hdg, hmeth', hr, ret, narrow_b1]
  (try refine ⟨rfl, ?_⟩); (try refine ⟨rfl, ?_⟩)
  first | (intro acts; rw [hret _ acts rfl rfl rfl]) | rw [hret _ _ rfl rfl rfl]
  exact Steps.refl _
/-- what holds at the law's entry: the machine, the code, the tables' words (any of lw_tbl by 'hts w (by decide +kernel)'), the script of L ints xs at the cell b, what the Statement gives of the start (any of its parts by flat_of_before) -/
def lw_At (p : Program) (s : State) (m : MethodId) (meth : Method) (c : Code) (b L : Nat) (xs : Nat → Int32) : Prop :=
  p.tables.exec = Jvm.exec ∧ c.code = code ∧ meth.sig.returnType = ret ∧ c.maxLocals = 4 ∧ s.vm.findClass R_law = some m.cls ∧ (∀ w ∈ lw_tbl, w.before #[Value.ref b] s = true) ∧ va_X b L xs s s.heap ∧ b < s.heap.size ∧ meth.locks = false ∧ (Jvm.Cond.and given_1 narrow_1).before #[Value.ref b] s = true
set_option maxHeartbeats 4000000 in
set_option maxRecDepth 100000 in
theorem whole_start {p : Program} {e : Env} {s : State} {m : MethodId} {below : List Frame} {meth : Method} {c : Code} (l : Launch) (hflags : l.flags = flags0) {b L : Nat} {xs : Nat → Int32} (hL : L ≤ 3072) (C0 : lw_At p s m meth c b L xs) : W p l e room_1 s m #[Value.ref b] below meth c s.heap [] 0 0 (lw_Z below #[Value.ref b] s) (entryFrame m ([Value.ref b] : List Value).toArray 4) := by
  obtain ⟨hx, hb, hr, hml, hown, hts, hX, hbl, hlocks, hgv⟩ := id C0
  have htw : ∀ w ∈ wsL_law, w.before #[Value.ref b] s = true := fun w h => hts w (wsL_law_in w h)
  obtain ⟨c0, i0, k0⟩ := u_known (C := RX0) (T := TX0) (N := 5) (n := 5) hts inX0 (htw _ gw_30_9)
  obtain ⟨c1, i1, k1⟩ := u_known (C := RX1) (T := TX1) (N := 4) (n := 4) hts inX1 (htw _ gw_1_21)
  obtain ⟨c2, i2, k2⟩ := u_known (C := RX2) (T := TX2) (N := 4) (n := 4) hts inX2 (htw _ gw_2_5)
  obtain ⟨c3, i3, k3⟩ := u_known (C := RX3) (T := TX3) (N := 12) (n := 12) hts inX3 (htw _ gw_1_13)
  obtain ⟨c4, i4, k4⟩ := u_known (C := RX4) (T := TX4) (N := 2) (n := 2) hts inX4 (htw _ gw_1_17)
  obtain ⟨c5, i5, k5⟩ := u_known (C := RX5) (T := TX5) (N := 4) (n := 4) hts inX5 (htw _ gw_2_10)
  obtain ⟨c6, i6, k6⟩ := u_known (C := RX6) (T := TX6) (N := 2) (n := 2) hts inX6 (htw _ gw_2_1)
  obtain ⟨c7, i7, k7⟩ := u_known (C := RX7) (T := TX7) (N := 9) (n := 9) hts inX7 (htw _ gw_1_1)
  obtain ⟨c8, i8, k8⟩ := u_known (C := RX8) (T := TX8) (N := 29) (n := 29) hts inX8 (htw _ gw_1_4)
  obtain ⟨dC, dI, hKc⟩ : ∃ (dC : Nat → ClassId) (dI : Nat → Nat → Nat), ∀ (k : Nat) (q : vw_C), vwCl[k]? = some q → u_Kn s q.1 q.2.1 q.2.2 (dC k) (dI k) := by
    refine ⟨fun k => [c0, c1, c2, c3, c4, c5, c6, c7, c8].getD k 0, fun k => [i0, i1, i2, i3, i4, i5, i6, i7, i8].getD k (fun _ => 0), ?_⟩
    intro k q hq
    match k, hq with
    | 0, hq => cases hq; exact k0
    | 1, hq => cases hq; exact k1
    | 2, hq => cases hq; exact k2
    | 3, hq => cases hq; exact k3
    | 4, hq => cases hq; exact k4
    | 5, hq => cases hq; exact k5
    | 6, hq => cases hq; exact k6
    | 7, hq => cases hq; exact k7
    | 8, hq => cases hq; exact k8
    | k + 9, hq => simp [vwCl] at hq
  have o5 : va_AO RX5 s := va_AO.of (hts _ (List.mem_append_right _ (List.mem_of_getElem? (i := 144) (by decide +kernel))))
  have o0 : va_AO RX0 s := va_AO.of (hts _ (List.mem_append_right _ (List.mem_of_getElem? (i := 127) (by decide +kernel))))
  obtain ⟨t0, f0, g0⟩ := z_arK (ty := .int) (htw _ gw_2_12)
  obtain ⟨t1, f1, g1⟩ := z_arK (ty := .long) (htw _ gw_3_18)
  obtain ⟨t2, f2, g2⟩ := z_arK (ty := .boolean) (htw _ gw_3_1)
  obtain ⟨t3, f3, g3⟩ := z_arO o5
  obtain ⟨t4, f4, g4⟩ := z_arO o0
  obtain ⟨t, ht⟩ : ∃ t : Nat → ClassId, z_tys t = [(t0, .int), (t1, .long), (t2, .boolean), (t3, .object RX5), (t4, .object RX0)] := ⟨fun k => [t0, t1, t2, t3, t4].getD k 0, rfl⟩
  have hK : va_K (dC, dI) vwCl (z_tys t) s := by
    refine ⟨hKc, fun k q h => ?_⟩
    rw [ht] at h
    match k, h with
    | 0, h => cases h; exact ⟨f0, g0⟩
    | 1, h => cases h; exact ⟨f1, g1⟩
    | 2, h => cases h; exact ⟨f2, g2⟩
    | 3, h => cases h; exact ⟨f3, g3⟩
    | 4, h => cases h; exact ⟨f4, g4⟩
    | k + 5, h => simp at h
  have hno : z_No s := ⟨⟨o5, o0⟩, va_Nw.of rfl (hts _ (List.mem_append_right _ (List.mem_of_getElem? (i := 23) (by decide +kernel)))), va_Nw.of rfl (hts _ (List.mem_append_right _ (List.mem_of_getElem? (i := 74) (by decide +kernel)))), va_Nw.of rfl (hts _ (List.mem_append_right _ (List.mem_of_getElem? (i := 88) (by decide +kernel)))), va_Nw.of rfl (hts _ (List.mem_append_right _ (List.mem_of_getElem? (i := 108) (by decide +kernel)))), va_Nw.of rfl (hts _ (List.mem_append_right _ (List.mem_of_getElem? (i := 122) (by decide +kernel)))), va_Nw.of rfl (hts _ (List.mem_append_right _ (List.mem_of_getElem? (i := 146) (by decide +kernel))))⟩
  have hl := lv_entry ([.ref b]) (n := 4) (Nat.le_of_ble_eq_true rfl)
  rw [lg_entry_eq]
  generalize (lg_sl ([.ref b]) ++ List.replicate (4 - (lg_sl ([.ref b])).length) Slot.unset).toArray = ls at hl ⊢
  have hl : lv_has ls 4 [(0, .ref b)] := hl
  have S : z_Sc (p, l, e, room_1, s, m, #[Value.ref b], below, meth, c, (fun q : Nat => s.heap.size ≤ q), s.heap, lw_Z below #[Value.ref b] s, (dC, dI), t) b L (fun j => (xs j).toInt) := by
    refine ⟨?_, hbl, Nat.not_le.mpr hbl, fun j => zI_rg (xs j)⟩
    have q : (fun j => zI ((fun j => (xs j).toInt) j)) = xs := funext fun j => zI_of (xs j)
    rw [q]
    exact hX
  have C : Fc (p, l, e, room_1, s, m, #[Value.ref b], below, meth, c, (fun q : Nat => s.heap.size ≤ q), s.heap, lw_Z below #[Value.ref b] s, (dC, dI), t) cL_law RL 4 := ⟨hx, hb, hml, hown, htw, hK, fun q h => h⟩
  refine lw_main C rfl hno S hL (fun ad ae cc ss i w h1 h2 => ?_) s.heap [] ls (fun k q h => by simp at h) ⟨fun i j p q h => by simp at h, fun k q h => by simp at h⟩ va_S.rf hl
  refine z_iconst C (z_d dtL_law_23 13 rfl) ?_
  intro H locs ls hP hD hS hl
  refine va_forget (fun q hq => hS.2.2 q hq) ?_
  refine W.widen (k := 600000) (n := 7302250) h1 h2 ?_
  exact lw_ret hx hb hr hlocks (z_d dtL_law_23 14 rfl)
-- ===== YOUR PART ENDS =====
set_option maxHeartbeats 4000000 in
theorem lw_walk (l : Launch) (hflags : l.flags = flags0) (b : Addr) (xs : List Int32) : MetFree l x (headSpec (Jvm.Cond.code x code maxLocals ret :: tables_1) room_1) (lw_P b xs) (fun _ _ _ _ _ => True) lw_Q := by
  refine MetFree.of_bodyS (code := code) (maxLocals := maxLocals) (ret := ret) (by decide) ?_ ?_
  · intro args s m h hn
    obtain ⟨meth, c, h1, h2, h3, h4, h5, h6, -, -⟩ := Cond.code_spec hn (atoms_spec (ws := Jvm.Cond.code x code maxLocals ret :: tables_1) h _ List.mem_cons_self)
    exact ⟨meth, c, h1, h2, h3, h4, h5, h6⟩
  · intro p e s m args below meth c s₁ B hml0 hP _
    obtain ⟨rfl, hx, hbd, hgv⟩ := hP
    obtain ⟨scr, harrAt, hlist, hof, hsmall⟩ := hx
    obtain ⟨hcb, hkn, -, -⟩ := State.arrayAt?_spec harrAt
    have hown : s.vm.findClass R_law = some m.cls := findClass_of_methodNamed B.named
    have hts0 : ∀ c ∈ (Jvm.Cond.code x code maxLocals ret :: tables_1), c.before #[Value.ref b] s = true := atoms_spec (ws := Jvm.Cond.code x code maxLocals ret :: tables_1) B.pre
    have hts : ∀ w ∈ lw_tbl, w.before #[Value.ref b] s = true := k2_hts_sels lw_privs (fun w hw => hts0 w (List.mem_cons_of_mem _ hw)) lw_privs_ok
    have hml : c.maxLocals = 4 := B.maxLocals_eq (hts0 _ List.mem_cons_self)
    have X₀ : Stand p l e room_1 s m #[Value.ref b] below meth c s₁ [] 0 0 := Stand.of_body B
    have hh0 : s₁.heap = s.heap := by rw [B.state]; rfl
    have hsz : scr.slots.size = xs.length := by rw [← Array.length_toList, hlist, List.length_map]
    have hval : ∀ j : Nat, j < xs.length → scr.slots[j]? = some (.int (xs.getD j 0)) := fun j hj => by
      rw [← Array.getElem?_toList, hlist]
      simp [hj]
    have hbl : b < s.heap.size := (Array.getElem?_eq_some_iff.mp hcb).1
    have hX : va_X b xs.length (fun j => xs.getD j 0) s s.heap := ⟨scr, hcb, hof, hkn, hsz, hval⟩
    have K : W p l e room_1 s m #[Value.ref b] below meth c s₁.heap [] 0 0 (lw_Z below #[Value.ref b] s) (entryFrame m ([Value.ref b] : List Value).toArray 4) := by
      rw [hh0]
      exact whole_start l hflags hbd ⟨B.exec, B.bytes, B.returns, hml, hown, hts, hX, hbl, B.notSynchronized, hgv⟩
    obtain ⟨t, a1, o, b1, b2, b3⟩ := K s₁ rfl X₀
    exact ⟨t, o, a1, b1, b2, b3⟩
theorem lw_pre_spec {args : Array Value} {s : State} (h : (Jvm.Cond.and given_1 narrow_1).before args s = true) (hr : rest_1_c.before args s = true) : ∃ (b : Addr) (xs : List Int32), lw_P b xs args s := by
  have hs := flat_of_before _ h
  have hq := flat_of_before _ hr
  have hc : (Cond.count 1).before args s = true := hs _ (by decide +kernel)
  have harr : (Cond.arrayOf (.arg 0) .int).before args s = true := hs _ (by decide +kernel)
  have hle : (Cond.le (.length (.arg 0)) (.int 3072)).before args s = true := hs _ (by decide +kernel)
  have hlen : (Cond.isInt (.length (.arg 0))).before args s = true := hq _ (by decide +kernel)
  have hall : (Cond.all (.arg 0) (.isInt (.elem (.arg 0) (.index 0)))).before args s = true := hq _ (by decide +kernel)
  obtain ⟨b, xs, hb, hx⟩ := State.ints_of_pre rfl harr hlen hall
  have hsm : xs.length < 2 ^ 31 := hx.choose_spec.2.2.2
  have hev : (Term.length (.arg 0)).eval args s none [] s = some (.int xs.length.toInt32) := hx.length_eval hb
  have hv := Cond.le_ints hev (show (Term.int 3072).eval args s none [] s = some (.int 3072) from rfl)
  have hd : xs.length.toInt32 ≤ 3072 := by
    simpa [Cond.before, Cond.holds, hv] using hle
  have hN : xs.length ≤ 3072 := (Int32.ofNat_le_ofNat hsm (by decide)).mp (show Int32.ofNat xs.length ≤ Int32.ofNat 3072 from hd)
  exact ⟨b, xs, Cond.one_arg hc (show args[0]? = some (.ref b) from hb), hx, hN, h⟩
theorem lw_comes (l : Launch) (hflags : l.flags = flags0) : Comes l x (Jvm.Cond.code x code maxLocals ret :: tables_1) room_1 (fun tb e args s => Calls_1 tb e args s ∧ rest_1 tb e args s ∧ Pre_1 tb e args s)
    (fun _ _ args s o t => lw_Q args s o t) := by
  intro p e ha hc hk s m args below hf hfit hheap happ hpre
  obtain ⟨b, xs, hP⟩ := lw_pre_spec hpre.2.2 hpre.2.1
  obtain ⟨k, o, h1, h2, h3, hQ⟩ := lw_walk l hflags b xs p e ha hc hk s m args below hf ((Spec.applies_iff_loose hf).mp happ).1 hP trivial
  exact ⟨k, o, h1, h2, h3, hQ⟩
theorem lw_frame {s t : State} {o : Outcome} {args : Array Value} (h : Framed s o t [] 600000 7302250) :
    Framed s o t (fieldLocs frame_1_writes args s ++ arrayLocs frame_1_arrays args s ++ staticLocs frame_1_statics s) 600000 7302250 := h
theorem lw_limb (L : Cond) (hL : ∀ (args : Array Value) (s t : State), L.after args s (.returned (some (.int 1))) t = true) :
    ArmFor flags0 classFile x code maxLocals ret World_1 tables_1 room_1 Calls_1 rest_1 Pre_1
      (fun tb e a s o t => postC L tb e a s o t ∧ Framed s o t (fieldLocs frame_1_writes a s ++ arrayLocs frame_1_arrays a s ++ staticLocs frame_1_statics s) 600000 7302250) := by
  intro l hflags _ _ p e ha hc hk s m args below hf hfit hheap happ hpre
  obtain ⟨k, o, h1, h2, h3, rfl, hF⟩ := lw_comes l hflags p e ha hc hk s m args below hf hfit hheap happ hpre
  exact ⟨k, _, h1, h2, h3, hL args s _, lw_frame hF⟩
theorem i_vc : Claimed_1_1 ∧ Claimed_1_2 := ⟨lw_limb limb_1_1 (fun args s t => by simp [limb_1_1, Cond.after, Cond.holds, Cond.value]), lw_limb limb_1_2 (fun args s t => Cond.after_iff.mpr (by
  first | (rw [show limb_1_2 = Cond.eq .result (.int 1) from rfl, Cond.eq_ints (x := 1) (y := 1) rfl rfl]; simp; done) | (simp [limb_1_2, Cond.value, Term.eval]; done)))⟩
